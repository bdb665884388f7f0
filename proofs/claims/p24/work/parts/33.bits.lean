/-! bitCount as it is computed, and the lowest bit -/
def bc0 (x0 : Int32) : Int32 := ((((((((x0 - (((x0.toUInt32 >>> ((Int32.ofInt 1).toUInt32 &&& Int32.toUInt32 31)).toInt32) &&& (Int32.ofInt 1431655765))) &&& (Int32.ofInt 858993459)) + ((((x0 - (((x0.toUInt32 >>> ((Int32.ofInt 1).toUInt32 &&& Int32.toUInt32 31)).toInt32) &&& (Int32.ofInt 1431655765))).toUInt32 >>> ((Int32.ofInt 2).toUInt32 &&& Int32.toUInt32 31)).toInt32) &&& (Int32.ofInt 858993459))) + (((((x0 - (((x0.toUInt32 >>> ((Int32.ofInt 1).toUInt32 &&& Int32.toUInt32 31)).toInt32) &&& (Int32.ofInt 1431655765))) &&& (Int32.ofInt 858993459)) + ((((x0 - (((x0.toUInt32 >>> ((Int32.ofInt 1).toUInt32 &&& Int32.toUInt32 31)).toInt32) &&& (Int32.ofInt 1431655765))).toUInt32 >>> ((Int32.ofInt 2).toUInt32 &&& Int32.toUInt32 31)).toInt32) &&& (Int32.ofInt 858993459))).toUInt32 >>> ((Int32.ofInt 4).toUInt32 &&& Int32.toUInt32 31)).toInt32)) &&& (Int32.ofInt 252645135)) + (((((((x0 - (((x0.toUInt32 >>> ((Int32.ofInt 1).toUInt32 &&& Int32.toUInt32 31)).toInt32) &&& (Int32.ofInt 1431655765))) &&& (Int32.ofInt 858993459)) + ((((x0 - (((x0.toUInt32 >>> ((Int32.ofInt 1).toUInt32 &&& Int32.toUInt32 31)).toInt32) &&& (Int32.ofInt 1431655765))).toUInt32 >>> ((Int32.ofInt 2).toUInt32 &&& Int32.toUInt32 31)).toInt32) &&& (Int32.ofInt 858993459))) + (((((x0 - (((x0.toUInt32 >>> ((Int32.ofInt 1).toUInt32 &&& Int32.toUInt32 31)).toInt32) &&& (Int32.ofInt 1431655765))) &&& (Int32.ofInt 858993459)) + ((((x0 - (((x0.toUInt32 >>> ((Int32.ofInt 1).toUInt32 &&& Int32.toUInt32 31)).toInt32) &&& (Int32.ofInt 1431655765))).toUInt32 >>> ((Int32.ofInt 2).toUInt32 &&& Int32.toUInt32 31)).toInt32) &&& (Int32.ofInt 858993459))).toUInt32 >>> ((Int32.ofInt 4).toUInt32 &&& Int32.toUInt32 31)).toInt32)) &&& (Int32.ofInt 252645135)).toUInt32 >>> ((Int32.ofInt 8).toUInt32 &&& Int32.toUInt32 31)).toInt32)) + ((((((((x0 - (((x0.toUInt32 >>> ((Int32.ofInt 1).toUInt32 &&& Int32.toUInt32 31)).toInt32) &&& (Int32.ofInt 1431655765))) &&& (Int32.ofInt 858993459)) + ((((x0 - (((x0.toUInt32 >>> ((Int32.ofInt 1).toUInt32 &&& Int32.toUInt32 31)).toInt32) &&& (Int32.ofInt 1431655765))).toUInt32 >>> ((Int32.ofInt 2).toUInt32 &&& Int32.toUInt32 31)).toInt32) &&& (Int32.ofInt 858993459))) + (((((x0 - (((x0.toUInt32 >>> ((Int32.ofInt 1).toUInt32 &&& Int32.toUInt32 31)).toInt32) &&& (Int32.ofInt 1431655765))) &&& (Int32.ofInt 858993459)) + ((((x0 - (((x0.toUInt32 >>> ((Int32.ofInt 1).toUInt32 &&& Int32.toUInt32 31)).toInt32) &&& (Int32.ofInt 1431655765))).toUInt32 >>> ((Int32.ofInt 2).toUInt32 &&& Int32.toUInt32 31)).toInt32) &&& (Int32.ofInt 858993459))).toUInt32 >>> ((Int32.ofInt 4).toUInt32 &&& Int32.toUInt32 31)).toInt32)) &&& (Int32.ofInt 252645135)) + (((((((x0 - (((x0.toUInt32 >>> ((Int32.ofInt 1).toUInt32 &&& Int32.toUInt32 31)).toInt32) &&& (Int32.ofInt 1431655765))) &&& (Int32.ofInt 858993459)) + ((((x0 - (((x0.toUInt32 >>> ((Int32.ofInt 1).toUInt32 &&& Int32.toUInt32 31)).toInt32) &&& (Int32.ofInt 1431655765))).toUInt32 >>> ((Int32.ofInt 2).toUInt32 &&& Int32.toUInt32 31)).toInt32) &&& (Int32.ofInt 858993459))) + (((((x0 - (((x0.toUInt32 >>> ((Int32.ofInt 1).toUInt32 &&& Int32.toUInt32 31)).toInt32) &&& (Int32.ofInt 1431655765))) &&& (Int32.ofInt 858993459)) + ((((x0 - (((x0.toUInt32 >>> ((Int32.ofInt 1).toUInt32 &&& Int32.toUInt32 31)).toInt32) &&& (Int32.ofInt 1431655765))).toUInt32 >>> ((Int32.ofInt 2).toUInt32 &&& Int32.toUInt32 31)).toInt32) &&& (Int32.ofInt 858993459))).toUInt32 >>> ((Int32.ofInt 4).toUInt32 &&& Int32.toUInt32 31)).toInt32)) &&& (Int32.ofInt 252645135)).toUInt32 >>> ((Int32.ofInt 8).toUInt32 &&& Int32.toUInt32 31)).toInt32)).toUInt32 >>> ((Int32.ofInt 16).toUInt32 &&& Int32.toUInt32 31)).toInt32)) &&& (Int32.ofInt 63))
theorem x_414 {Z : AmZ} {d : Nat} {ws : va_W} {X : AmX} {x0 : Int32} (hd : 1 ≤ d) : GC Z d 414 [.int x0] ws 0 0 (fun v u => v = some (.int (bc0 x0)) ∧ u = ws) X := by
  intro post xp hP hX
  refine g_enter2 (k := 414) (N := 200) (by omega) rfl (Nat.le_of_ble_eq_true rfl) ?_
  refine g_iload_n 1 (gd rfl) rfl rfl ?_
  refine g_iload_n 2 (gd rfl) rfl rfl ?_
  refine g_iconst 1 3 (gd rfl) rfl rfl ?_
  refine g_iushr 4 (gd rfl) rfl (fun z1 e1 => ?_)
  refine g_ldc_w 1431655765 7 (gd rfl) rfl rfl ?_
  refine g_iand 8 (gd rfl) rfl (fun z2 e2 => ?_)
  refine g_isub 9 (gd rfl) rfl (fun z3 e3 => ?_)
  refine g_istore_n 10 (gd rfl) rfl (Nat.le_of_ble_eq_true rfl) ?_
  refine g_iload_n 11 (gd rfl) rfl rfl ?_
  refine g_ldc_w 858993459 14 (gd rfl) rfl rfl ?_
  refine g_iand 15 (gd rfl) rfl (fun z4 e4 => ?_)
  refine g_iload_n 16 (gd rfl) rfl rfl ?_
  refine g_iconst 2 17 (gd rfl) rfl rfl ?_
  refine g_iushr 18 (gd rfl) rfl (fun z5 e5 => ?_)
  refine g_ldc_w 858993459 21 (gd rfl) rfl rfl ?_
  refine g_iand 22 (gd rfl) rfl (fun z6 e6 => ?_)
  refine g_iadd 23 (gd rfl) rfl (fun z7 e7 => ?_)
  refine g_istore_n 24 (gd rfl) rfl (Nat.le_of_ble_eq_true rfl) ?_
  refine g_iload_n 25 (gd rfl) rfl rfl ?_
  refine g_iload_n 26 (gd rfl) rfl rfl ?_
  refine g_iconst 4 27 (gd rfl) rfl rfl ?_
  refine g_iushr 28 (gd rfl) rfl (fun z8 e8 => ?_)
  refine g_iadd 29 (gd rfl) rfl (fun z9 e9 => ?_)
  refine g_ldc_w 252645135 32 (gd rfl) rfl rfl ?_
  refine g_iand 33 (gd rfl) rfl (fun z10 e10 => ?_)
  refine g_istore_n 34 (gd rfl) rfl (Nat.le_of_ble_eq_true rfl) ?_
  refine g_iload_n 35 (gd rfl) rfl rfl ?_
  refine g_iload_n 36 (gd rfl) rfl rfl ?_
  refine g_bipush 8 38 (gd rfl) rfl rfl ?_
  refine g_iushr 39 (gd rfl) rfl (fun z11 e11 => ?_)
  refine g_iadd 40 (gd rfl) rfl (fun z12 e12 => ?_)
  refine g_istore_n 41 (gd rfl) rfl (Nat.le_of_ble_eq_true rfl) ?_
  refine g_iload_n 42 (gd rfl) rfl rfl ?_
  refine g_iload_n 43 (gd rfl) rfl rfl ?_
  refine g_bipush 16 45 (gd rfl) rfl rfl ?_
  refine g_iushr 46 (gd rfl) rfl (fun z13 e13 => ?_)
  refine g_iadd 47 (gd rfl) rfl (fun z14 e14 => ?_)
  refine g_istore_n 48 (gd rfl) rfl (Nat.le_of_ble_eq_true rfl) ?_
  refine g_iload_n 49 (gd rfl) rfl rfl ?_
  refine g_bipush 63 51 (gd rfl) rfl rfl ?_
  refine g_iand 52 (gd rfl) rfl (fun z15 e15 => ?_)
  exact g_ireturn (gd rfl) rfl rfl (hP _ _ ⟨by subst e1 e2 e3 e4 e5 e6 e7 e8 e9 e10 e11 e12 e13 e14 e15; rfl, rfl⟩)
def bcL (x0 : Int64) : Int32 := ((((((((((x0 - (((x0.toUInt64 >>> ((Int32.ofInt 1).toInt64.toUInt64 &&& Int64.toUInt64 63)).toInt64) &&& (Int64.ofInt 6148914691236517205))) &&& (Int64.ofInt 3689348814741910323)) + ((((x0 - (((x0.toUInt64 >>> ((Int32.ofInt 1).toInt64.toUInt64 &&& Int64.toUInt64 63)).toInt64) &&& (Int64.ofInt 6148914691236517205))).toUInt64 >>> ((Int32.ofInt 2).toInt64.toUInt64 &&& Int64.toUInt64 63)).toInt64) &&& (Int64.ofInt 3689348814741910323))) + (((((x0 - (((x0.toUInt64 >>> ((Int32.ofInt 1).toInt64.toUInt64 &&& Int64.toUInt64 63)).toInt64) &&& (Int64.ofInt 6148914691236517205))) &&& (Int64.ofInt 3689348814741910323)) + ((((x0 - (((x0.toUInt64 >>> ((Int32.ofInt 1).toInt64.toUInt64 &&& Int64.toUInt64 63)).toInt64) &&& (Int64.ofInt 6148914691236517205))).toUInt64 >>> ((Int32.ofInt 2).toInt64.toUInt64 &&& Int64.toUInt64 63)).toInt64) &&& (Int64.ofInt 3689348814741910323))).toUInt64 >>> ((Int32.ofInt 4).toInt64.toUInt64 &&& Int64.toUInt64 63)).toInt64)) &&& (Int64.ofInt 1085102592571150095)) + (((((((x0 - (((x0.toUInt64 >>> ((Int32.ofInt 1).toInt64.toUInt64 &&& Int64.toUInt64 63)).toInt64) &&& (Int64.ofInt 6148914691236517205))) &&& (Int64.ofInt 3689348814741910323)) + ((((x0 - (((x0.toUInt64 >>> ((Int32.ofInt 1).toInt64.toUInt64 &&& Int64.toUInt64 63)).toInt64) &&& (Int64.ofInt 6148914691236517205))).toUInt64 >>> ((Int32.ofInt 2).toInt64.toUInt64 &&& Int64.toUInt64 63)).toInt64) &&& (Int64.ofInt 3689348814741910323))) + (((((x0 - (((x0.toUInt64 >>> ((Int32.ofInt 1).toInt64.toUInt64 &&& Int64.toUInt64 63)).toInt64) &&& (Int64.ofInt 6148914691236517205))) &&& (Int64.ofInt 3689348814741910323)) + ((((x0 - (((x0.toUInt64 >>> ((Int32.ofInt 1).toInt64.toUInt64 &&& Int64.toUInt64 63)).toInt64) &&& (Int64.ofInt 6148914691236517205))).toUInt64 >>> ((Int32.ofInt 2).toInt64.toUInt64 &&& Int64.toUInt64 63)).toInt64) &&& (Int64.ofInt 3689348814741910323))).toUInt64 >>> ((Int32.ofInt 4).toInt64.toUInt64 &&& Int64.toUInt64 63)).toInt64)) &&& (Int64.ofInt 1085102592571150095)).toUInt64 >>> ((Int32.ofInt 8).toInt64.toUInt64 &&& Int64.toUInt64 63)).toInt64)) + ((((((((x0 - (((x0.toUInt64 >>> ((Int32.ofInt 1).toInt64.toUInt64 &&& Int64.toUInt64 63)).toInt64) &&& (Int64.ofInt 6148914691236517205))) &&& (Int64.ofInt 3689348814741910323)) + ((((x0 - (((x0.toUInt64 >>> ((Int32.ofInt 1).toInt64.toUInt64 &&& Int64.toUInt64 63)).toInt64) &&& (Int64.ofInt 6148914691236517205))).toUInt64 >>> ((Int32.ofInt 2).toInt64.toUInt64 &&& Int64.toUInt64 63)).toInt64) &&& (Int64.ofInt 3689348814741910323))) + (((((x0 - (((x0.toUInt64 >>> ((Int32.ofInt 1).toInt64.toUInt64 &&& Int64.toUInt64 63)).toInt64) &&& (Int64.ofInt 6148914691236517205))) &&& (Int64.ofInt 3689348814741910323)) + ((((x0 - (((x0.toUInt64 >>> ((Int32.ofInt 1).toInt64.toUInt64 &&& Int64.toUInt64 63)).toInt64) &&& (Int64.ofInt 6148914691236517205))).toUInt64 >>> ((Int32.ofInt 2).toInt64.toUInt64 &&& Int64.toUInt64 63)).toInt64) &&& (Int64.ofInt 3689348814741910323))).toUInt64 >>> ((Int32.ofInt 4).toInt64.toUInt64 &&& Int64.toUInt64 63)).toInt64)) &&& (Int64.ofInt 1085102592571150095)) + (((((((x0 - (((x0.toUInt64 >>> ((Int32.ofInt 1).toInt64.toUInt64 &&& Int64.toUInt64 63)).toInt64) &&& (Int64.ofInt 6148914691236517205))) &&& (Int64.ofInt 3689348814741910323)) + ((((x0 - (((x0.toUInt64 >>> ((Int32.ofInt 1).toInt64.toUInt64 &&& Int64.toUInt64 63)).toInt64) &&& (Int64.ofInt 6148914691236517205))).toUInt64 >>> ((Int32.ofInt 2).toInt64.toUInt64 &&& Int64.toUInt64 63)).toInt64) &&& (Int64.ofInt 3689348814741910323))) + (((((x0 - (((x0.toUInt64 >>> ((Int32.ofInt 1).toInt64.toUInt64 &&& Int64.toUInt64 63)).toInt64) &&& (Int64.ofInt 6148914691236517205))) &&& (Int64.ofInt 3689348814741910323)) + ((((x0 - (((x0.toUInt64 >>> ((Int32.ofInt 1).toInt64.toUInt64 &&& Int64.toUInt64 63)).toInt64) &&& (Int64.ofInt 6148914691236517205))).toUInt64 >>> ((Int32.ofInt 2).toInt64.toUInt64 &&& Int64.toUInt64 63)).toInt64) &&& (Int64.ofInt 3689348814741910323))).toUInt64 >>> ((Int32.ofInt 4).toInt64.toUInt64 &&& Int64.toUInt64 63)).toInt64)) &&& (Int64.ofInt 1085102592571150095)).toUInt64 >>> ((Int32.ofInt 8).toInt64.toUInt64 &&& Int64.toUInt64 63)).toInt64)).toUInt64 >>> ((Int32.ofInt 16).toInt64.toUInt64 &&& Int64.toUInt64 63)).toInt64)) + (((((((((x0 - (((x0.toUInt64 >>> ((Int32.ofInt 1).toInt64.toUInt64 &&& Int64.toUInt64 63)).toInt64) &&& (Int64.ofInt 6148914691236517205))) &&& (Int64.ofInt 3689348814741910323)) + ((((x0 - (((x0.toUInt64 >>> ((Int32.ofInt 1).toInt64.toUInt64 &&& Int64.toUInt64 63)).toInt64) &&& (Int64.ofInt 6148914691236517205))).toUInt64 >>> ((Int32.ofInt 2).toInt64.toUInt64 &&& Int64.toUInt64 63)).toInt64) &&& (Int64.ofInt 3689348814741910323))) + (((((x0 - (((x0.toUInt64 >>> ((Int32.ofInt 1).toInt64.toUInt64 &&& Int64.toUInt64 63)).toInt64) &&& (Int64.ofInt 6148914691236517205))) &&& (Int64.ofInt 3689348814741910323)) + ((((x0 - (((x0.toUInt64 >>> ((Int32.ofInt 1).toInt64.toUInt64 &&& Int64.toUInt64 63)).toInt64) &&& (Int64.ofInt 6148914691236517205))).toUInt64 >>> ((Int32.ofInt 2).toInt64.toUInt64 &&& Int64.toUInt64 63)).toInt64) &&& (Int64.ofInt 3689348814741910323))).toUInt64 >>> ((Int32.ofInt 4).toInt64.toUInt64 &&& Int64.toUInt64 63)).toInt64)) &&& (Int64.ofInt 1085102592571150095)) + (((((((x0 - (((x0.toUInt64 >>> ((Int32.ofInt 1).toInt64.toUInt64 &&& Int64.toUInt64 63)).toInt64) &&& (Int64.ofInt 6148914691236517205))) &&& (Int64.ofInt 3689348814741910323)) + ((((x0 - (((x0.toUInt64 >>> ((Int32.ofInt 1).toInt64.toUInt64 &&& Int64.toUInt64 63)).toInt64) &&& (Int64.ofInt 6148914691236517205))).toUInt64 >>> ((Int32.ofInt 2).toInt64.toUInt64 &&& Int64.toUInt64 63)).toInt64) &&& (Int64.ofInt 3689348814741910323))) + (((((x0 - (((x0.toUInt64 >>> ((Int32.ofInt 1).toInt64.toUInt64 &&& Int64.toUInt64 63)).toInt64) &&& (Int64.ofInt 6148914691236517205))) &&& (Int64.ofInt 3689348814741910323)) + ((((x0 - (((x0.toUInt64 >>> ((Int32.ofInt 1).toInt64.toUInt64 &&& Int64.toUInt64 63)).toInt64) &&& (Int64.ofInt 6148914691236517205))).toUInt64 >>> ((Int32.ofInt 2).toInt64.toUInt64 &&& Int64.toUInt64 63)).toInt64) &&& (Int64.ofInt 3689348814741910323))).toUInt64 >>> ((Int32.ofInt 4).toInt64.toUInt64 &&& Int64.toUInt64 63)).toInt64)) &&& (Int64.ofInt 1085102592571150095)).toUInt64 >>> ((Int32.ofInt 8).toInt64.toUInt64 &&& Int64.toUInt64 63)).toInt64)) + ((((((((x0 - (((x0.toUInt64 >>> ((Int32.ofInt 1).toInt64.toUInt64 &&& Int64.toUInt64 63)).toInt64) &&& (Int64.ofInt 6148914691236517205))) &&& (Int64.ofInt 3689348814741910323)) + ((((x0 - (((x0.toUInt64 >>> ((Int32.ofInt 1).toInt64.toUInt64 &&& Int64.toUInt64 63)).toInt64) &&& (Int64.ofInt 6148914691236517205))).toUInt64 >>> ((Int32.ofInt 2).toInt64.toUInt64 &&& Int64.toUInt64 63)).toInt64) &&& (Int64.ofInt 3689348814741910323))) + (((((x0 - (((x0.toUInt64 >>> ((Int32.ofInt 1).toInt64.toUInt64 &&& Int64.toUInt64 63)).toInt64) &&& (Int64.ofInt 6148914691236517205))) &&& (Int64.ofInt 3689348814741910323)) + ((((x0 - (((x0.toUInt64 >>> ((Int32.ofInt 1).toInt64.toUInt64 &&& Int64.toUInt64 63)).toInt64) &&& (Int64.ofInt 6148914691236517205))).toUInt64 >>> ((Int32.ofInt 2).toInt64.toUInt64 &&& Int64.toUInt64 63)).toInt64) &&& (Int64.ofInt 3689348814741910323))).toUInt64 >>> ((Int32.ofInt 4).toInt64.toUInt64 &&& Int64.toUInt64 63)).toInt64)) &&& (Int64.ofInt 1085102592571150095)) + (((((((x0 - (((x0.toUInt64 >>> ((Int32.ofInt 1).toInt64.toUInt64 &&& Int64.toUInt64 63)).toInt64) &&& (Int64.ofInt 6148914691236517205))) &&& (Int64.ofInt 3689348814741910323)) + ((((x0 - (((x0.toUInt64 >>> ((Int32.ofInt 1).toInt64.toUInt64 &&& Int64.toUInt64 63)).toInt64) &&& (Int64.ofInt 6148914691236517205))).toUInt64 >>> ((Int32.ofInt 2).toInt64.toUInt64 &&& Int64.toUInt64 63)).toInt64) &&& (Int64.ofInt 3689348814741910323))) + (((((x0 - (((x0.toUInt64 >>> ((Int32.ofInt 1).toInt64.toUInt64 &&& Int64.toUInt64 63)).toInt64) &&& (Int64.ofInt 6148914691236517205))) &&& (Int64.ofInt 3689348814741910323)) + ((((x0 - (((x0.toUInt64 >>> ((Int32.ofInt 1).toInt64.toUInt64 &&& Int64.toUInt64 63)).toInt64) &&& (Int64.ofInt 6148914691236517205))).toUInt64 >>> ((Int32.ofInt 2).toInt64.toUInt64 &&& Int64.toUInt64 63)).toInt64) &&& (Int64.ofInt 3689348814741910323))).toUInt64 >>> ((Int32.ofInt 4).toInt64.toUInt64 &&& Int64.toUInt64 63)).toInt64)) &&& (Int64.ofInt 1085102592571150095)).toUInt64 >>> ((Int32.ofInt 8).toInt64.toUInt64 &&& Int64.toUInt64 63)).toInt64)).toUInt64 >>> ((Int32.ofInt 16).toInt64.toUInt64 &&& Int64.toUInt64 63)).toInt64)).toUInt64 >>> ((Int32.ofInt 32).toInt64.toUInt64 &&& Int64.toUInt64 63)).toInt64)).toInt32) &&& (Int32.ofInt 127))
theorem x_415 {Z : AmZ} {d : Nat} {ws : va_W} {X : AmX} {x0 : Int64} (hd : 1 ≤ d) : GC Z d 415 [.long x0] ws 0 0 (fun v u => v = some (.int (bcL x0)) ∧ u = ws) X := by
  intro post xp hP hX
  refine g_enter2 (k := 415) (N := 200) (by omega) rfl (Nat.le_of_ble_eq_true rfl) ?_
  refine g_lload_n 1 (gd rfl) rfl rfl ?_
  refine g_lload_n 2 (gd rfl) rfl rfl ?_
  refine g_iconst 1 3 (gd rfl) rfl rfl ?_
  refine g_lushr 4 (gd rfl) rfl (fun z1 e1 => ?_)
  refine g_ldc2_w 6148914691236517205 7 (gd rfl) rfl rfl ?_
  refine g_land 8 (gd rfl) rfl (fun z2 e2 => ?_)
  refine g_lsub 9 (gd rfl) rfl (fun z3 e3 => ?_)
  refine g_lstore_n 10 (gd rfl) rfl (Nat.le_of_ble_eq_true rfl) ?_
  refine g_lload_n 11 (gd rfl) rfl rfl ?_
  refine g_ldc2_w 3689348814741910323 14 (gd rfl) rfl rfl ?_
  refine g_land 15 (gd rfl) rfl (fun z4 e4 => ?_)
  refine g_lload_n 16 (gd rfl) rfl rfl ?_
  refine g_iconst 2 17 (gd rfl) rfl rfl ?_
  refine g_lushr 18 (gd rfl) rfl (fun z5 e5 => ?_)
  refine g_ldc2_w 3689348814741910323 21 (gd rfl) rfl rfl ?_
  refine g_land 22 (gd rfl) rfl (fun z6 e6 => ?_)
  refine g_ladd 23 (gd rfl) rfl (fun z7 e7 => ?_)
  refine g_lstore_n 24 (gd rfl) rfl (Nat.le_of_ble_eq_true rfl) ?_
  refine g_lload_n 25 (gd rfl) rfl rfl ?_
  refine g_lload_n 26 (gd rfl) rfl rfl ?_
  refine g_iconst 4 27 (gd rfl) rfl rfl ?_
  refine g_lushr 28 (gd rfl) rfl (fun z8 e8 => ?_)
  refine g_ladd 29 (gd rfl) rfl (fun z9 e9 => ?_)
  refine g_ldc2_w 1085102592571150095 32 (gd rfl) rfl rfl ?_
  refine g_land 33 (gd rfl) rfl (fun z10 e10 => ?_)
  refine g_lstore_n 34 (gd rfl) rfl (Nat.le_of_ble_eq_true rfl) ?_
  refine g_lload_n 35 (gd rfl) rfl rfl ?_
  refine g_lload_n 36 (gd rfl) rfl rfl ?_
  refine g_bipush 8 38 (gd rfl) rfl rfl ?_
  refine g_lushr 39 (gd rfl) rfl (fun z11 e11 => ?_)
  refine g_ladd 40 (gd rfl) rfl (fun z12 e12 => ?_)
  refine g_lstore_n 41 (gd rfl) rfl (Nat.le_of_ble_eq_true rfl) ?_
  refine g_lload_n 42 (gd rfl) rfl rfl ?_
  refine g_lload_n 43 (gd rfl) rfl rfl ?_
  refine g_bipush 16 45 (gd rfl) rfl rfl ?_
  refine g_lushr 46 (gd rfl) rfl (fun z13 e13 => ?_)
  refine g_ladd 47 (gd rfl) rfl (fun z14 e14 => ?_)
  refine g_lstore_n 48 (gd rfl) rfl (Nat.le_of_ble_eq_true rfl) ?_
  refine g_lload_n 49 (gd rfl) rfl rfl ?_
  refine g_lload_n 50 (gd rfl) rfl rfl ?_
  refine g_bipush 32 52 (gd rfl) rfl rfl ?_
  refine g_lushr 53 (gd rfl) rfl (fun z15 e15 => ?_)
  refine g_ladd 54 (gd rfl) rfl (fun z16 e16 => ?_)
  refine g_lstore_n 55 (gd rfl) rfl (Nat.le_of_ble_eq_true rfl) ?_
  refine g_lload_n 56 (gd rfl) rfl rfl ?_
  refine g_l2i 57 (gd rfl) rfl (fun z17 e17 => ?_)
  refine g_bipush 127 59 (gd rfl) rfl rfl ?_
  refine g_iand 60 (gd rfl) rfl (fun z18 e18 => ?_)
  exact g_ireturn (gd rfl) rfl rfl (hP _ _ ⟨by subst e1 e2 e3 e4 e5 e6 e7 e8 e9 e10 e11 e12 e13 e14 e15 e16 e17 e18; rfl, rfl⟩)
theorem ex_least (p : Nat → Bool) : ∀ n, p n = true → ∃ k, p k = true ∧ ∀ j, j < k → p j = false := by
  intro n
  induction n using Nat.strongRecOn with
  | ind n ih =>
    intro h
    by_cases hj : ∃ j, j < n ∧ p j = true
    · obtain ⟨j, a, b⟩ := hj
      exact ih j a b
    · refine ⟨n, h, fun j hj2 => ?_⟩
      cases e : p j with
      | true => exact absurd ⟨j, hj2, e⟩ hj
      | false => rfl
theorem bv_low {w : Nat} (x : BitVec w) (hx : x ≠ 0#w) : ∃ k, k < w ∧ x.getLsbD k = true ∧ x &&& -x = BitVec.twoPow w k := by
  have h1 : ∃ n, x.getLsbD n = true := by
    refine Classical.byContradiction fun hc => hx ?_
    refine BitVec.eq_of_getLsbD_eq fun i _ => ?_
    cases e : x.getLsbD i with
    | true => exact absurd ⟨i, e⟩ hc
    | false => simp
  obtain ⟨n, hn⟩ := h1
  obtain ⟨k, hk, hmin⟩ := ex_least (fun i => x.getLsbD i) n hn
  have hkw : k < w := BitVec.lt_of_getLsbD hk
  refine ⟨k, hkw, hk, ?_⟩
  refine BitVec.eq_of_getLsbD_eq fun i hi => ?_
  rw [BitVec.getLsbD_and, BitVec.getLsbD_neg, BitVec.getLsbD_twoPow]
  by_cases e : k = i
  · subst e
    have hno : ¬ ∃ j, j < k ∧ x.getLsbD j = true := fun ⟨j, a, b⟩ => by
      have h9 : x.getLsbD j = false := hmin j a
      rw [h9] at b
      cases b
    have hk : x.getLsbD k = true := hk
    simp [hk, hkw, hno]
  · have hr : (decide (k < w) && decide (k = i)) = false := by simp [e]
    rw [hr]
    rcases Nat.lt_or_ge i k with c | c
    · have h0 : x.getLsbD i = false := hmin i c
      rw [h0]
      rfl
    · have hex : ∃ j, j < i ∧ x.getLsbD j = true := ⟨k, by omega, hk⟩
      cases x.getLsbD i <;> simp [hex, hi]
theorem bc_all : ∀ k : Fin 32, (bc0 (Int32.ofBitVec (BitVec.twoPow 32 k.val) - Int32.ofInt 1)).toInt = (k.val : Int) := by decide +kernel
theorem bcL_all : ∀ k : Fin 64, (bcL (Int64.ofBitVec (BitVec.twoPow 64 k.val) - Int64.ofInt 1)).toInt = (k.val : Int) := by decide +kernel
/-- k is the lowest bit of x -/
def lowB (x : Int32) (k : Nat) : Prop := x &&& -x = Int32.ofBitVec (BitVec.twoPow 32 k)
theorem low32x {x : Int32} (hx : x.toInt ≠ 0) : ∃ k : Nat, k < 32 ∧ x.toBitVec.getLsbD k = true ∧ lowB x k ∧ (bc0 ((x &&& -x) - Int32.ofInt 1)).toInt = (k : Int) := by
  have hb : x.toBitVec ≠ 0#32 := fun e => hx (by
    show x.toBitVec.toInt = 0
    rw [e]
    rfl)
  obtain ⟨k, h1, h2, h3⟩ := bv_low x.toBitVec hb
  have e : x &&& -x = Int32.ofBitVec (BitVec.twoPow 32 k) := by
    rw [← h3]
    rfl
  refine ⟨k, h1, h2, e, ?_⟩
  rw [e]
  exact bc_all ⟨k, h1⟩
theorem low32 {x : Int32} (hx : x.toInt ≠ 0) : ∃ k : Nat, k < 32 ∧ x.toBitVec.getLsbD k = true ∧ (bc0 ((x &&& -x) - Int32.ofInt 1)).toInt = (k : Int) := by
  obtain ⟨k, a, b, _, c⟩ := low32x hx
  exact ⟨k, a, b, c⟩
theorem low64 {x : Int64} (hx : x.toInt ≠ 0) : ∃ k : Nat, k < 64 ∧ x.toBitVec.getLsbD k = true ∧ (bcL ((x &&& -x) - Int64.ofInt 1)).toInt = (k : Int) := by
  have hb : x.toBitVec ≠ 0#64 := fun e => hx (by
    show x.toBitVec.toInt = 0
    rw [e]
    rfl)
  obtain ⟨k, h1, h2, h3⟩ := bv_low x.toBitVec hb
  refine ⟨k, h1, h2, ?_⟩
  have e : x &&& -x = Int64.ofBitVec (BitVec.twoPow 64 k) := by
    rw [← h3]
    rfl
  rw [e]
  exact bcL_all ⟨k, h1⟩
def bt (x : Int32) (k : Nat) : Bool := x.toBitVec.getLsbD k
theorem clamp_eq {x : Int32} {k : Nat} (h : x.toInt = (k : Int)) : x.toNatClampNeg = k := by
  show x.toInt.toNat = k
  omega
section GB
variable {Z : AmZ} {d : Nat} {ws : va_W} {X : AmX}
theorem k_414 {A : Nat → Nat} {s : GS} {ex : va_W} {x0 : Int32} (hd : 1 ≤ d) (_ : Inv s) : GC Z d 414 [.int x0] (WW Z A s ++ ex) 0 0 (fun v u => ∃ z : Int32, v = some (.int z) ∧ u = WW Z A s ++ ex ∧ In z 0 63) X := by
  intro post xp hP hX
  exact x_414 hd post xp (fun v u h => hP v u ⟨_, h.1, h.2, in_and2 (y := Int32.ofInt 63) rfl (in_c 63 rfl) rfl⟩) hX
theorem k_415 {A : Nat → Nat} {s : GS} {ex : va_W} {x0 : Int64} (hd : 1 ≤ d) (_ : Inv s) : GC Z d 415 [.long x0] (WW Z A s ++ ex) 0 0 (fun v u => ∃ z : Int32, v = some (.int z) ∧ u = WW Z A s ++ ex ∧ In z 0 127) X := by
  intro post xp hP hX
  exact x_415 hd post xp (fun v u h => hP v u ⟨_, h.1, h.2, in_and2 (y := Int32.ofInt 127) rfl (in_c 127 rfl) rfl⟩) hX
theorem x_264 {x0 : Int32} (hd : 2 ≤ d) : GC Z d 264 [.int x0] ws 0 0 (fun v u => v = some (.int (bc0 ((x0 &&& -x0) - Int32.ofInt 1))) ∧ u = ws) X := by
  intro post xp hP hX
  refine g_enter2 (k := 264) (N := 50) (by omega) rfl (Nat.le_of_ble_eq_true rfl) ?_
  refine g_iload_n 1 (gd rfl) rfl rfl ?_
  refine g_iload_n 2 (gd rfl) rfl rfl ?_
  refine g_ineg 3 (gd rfl) rfl (fun z1 e1 => ?_)
  refine g_iand 4 (gd rfl) rfl (fun z2 e2 => ?_)
  refine g_iconst 1 5 (gd rfl) rfl rfl ?_
  refine g_isub 6 (gd rfl) rfl (fun z3 e3 => ?_)
  refine g_calls (As := [.int z3]) (r := []) 9 (gd rfl) rfl rfl rfl rfl rfl (Nat.le_of_ble_eq_true rfl) (Nat.zero_le _) (Nat.zero_le _) (x_414 (by omega)) (fun v u h => ?_)
  obtain ⟨rfl, rfl⟩ := h
  show GG _ _ _ _ _ _ _ _ [.int (bc0 z3)] _ _ _
  exact g_ireturn (gd rfl) rfl rfl (hP _ _ ⟨by rw [e3, e2, e1], rfl⟩)
theorem x_265 {x0 : Int64} (hd : 2 ≤ d) : GC Z d 265 [.long x0] ws 0 0 (fun v u => v = some (.int (bcL ((x0 &&& -x0) - Int64.ofInt 1))) ∧ u = ws) X := by
  intro post xp hP hX
  refine g_enter2 (k := 265) (N := 50) (by omega) rfl (Nat.le_of_ble_eq_true rfl) ?_
  refine g_lload_n 1 (gd rfl) rfl rfl ?_
  refine g_lload_n 2 (gd rfl) rfl rfl ?_
  refine g_lneg 3 (gd rfl) rfl (fun z1 e1 => ?_)
  refine g_land 4 (gd rfl) rfl (fun z2 e2 => ?_)
  refine g_lconst 1 5 (gd rfl) rfl rfl ?_
  refine g_lsub 6 (gd rfl) rfl (fun z3 e3 => ?_)
  refine g_calls (As := [.long z3]) (r := []) 9 (gd rfl) rfl rfl rfl rfl rfl (Nat.le_of_ble_eq_true rfl) (Nat.zero_le _) (Nat.zero_le _) (x_415 (by omega)) (fun v u h => ?_)
  obtain ⟨rfl, rfl⟩ := h
  show GG _ _ _ _ _ _ _ _ [.int (bcL z3)] _ _ _
  exact g_ireturn (gd rfl) rfl rfl (hP _ _ ⟨by rw [e3, e2, e1], rfl⟩)
theorem k_264n {x0 : Int32} (hd : 2 ≤ d) (hx : x0.toInt ≠ 0) : GC Z d 264 [.int x0] ws 0 0 (fun v u => ∃ z : Int32, v = some (.int z) ∧ u = ws ∧ In z 0 31 ∧ bt x0 z.toNatClampNeg = true ∧ lowB x0 z.toNatClampNeg) X := by
  intro post xp hP hX
  obtain ⟨k, h1, h2, h4, h3⟩ := low32x hx
  exact x_264 hd post xp (fun v u h => hP v u ⟨_, h.1, h.2, ⟨by omega, by omega⟩, by rw [clamp_eq h3]; exact h2, by rw [clamp_eq h3]; exact h4⟩) hX
theorem k_264 {x0 : Int32} (hd : 2 ≤ d) : GC Z d 264 [.int x0] ws 0 0 (fun v u => ∃ z : Int32, v = some (.int z) ∧ u = ws ∧ In z 0 32 ∧ (x0.toInt ≠ 0 → In z 0 31 ∧ bt x0 z.toNatClampNeg = true ∧ lowB x0 z.toNatClampNeg)) X := by
  intro post xp hP hX
  by_cases hx : x0.toInt = 0
  · have e : x0 = 0 := Int32.toInt_inj.mp hx
    refine x_264 hd post xp (fun v u h => hP v u ⟨_, h.1, h.2, ?_, fun z => absurd hx z⟩) hX
    rw [e]
    exact ⟨by decide, by decide⟩
  · exact k_264n hd hx post xp (fun v u ⟨z, a, b, c, e, g⟩ => hP v u ⟨z, a, b, in_w 0 32 c rfl, fun _ => ⟨c, e, g⟩⟩) hX
/-- of a row of bits below j -/
theorem k_265n {x0 : Int64} (j : Nat) (hd : 2 ≤ d) (hx : x0.toInt ≠ 0) (hj : j ≤ 63) (h0 : InL x0 0 (2 ^ j - 1)) : GC Z d 265 [.long x0] ws 0 0 (fun v u => ∃ z : Int32, v = some (.int z) ∧ u = ws ∧ In z 0 (j - 1) ∧ x0.toBitVec.getLsbD z.toNatClampNeg = true) X := by
  intro post xp hP hX
  obtain ⟨k, h1, h2, h3⟩ := low64 hx
  refine x_265 hd post xp (fun v u h => hP v u ⟨_, h.1, h.2, ⟨by omega, ?_⟩, by rw [clamp_eq h3]; exact h2⟩) hX
  rw [h3]
  have hge : 2 ^ k ≤ x0.toBitVec.toNat := Nat.ge_two_pow_of_testBit h2
  have hlt : x0.toBitVec.toNat < 2 ^ j := by
    obtain ⟨g1, g2⟩ := h0
    have g1 : 0 ≤ x0.toBitVec.toInt := g1
    have g2 : x0.toBitVec.toInt ≤ 2 ^ j - 1 := g2
    have hl : 2 * x0.toBitVec.toNat < 2 ^ 64 := by
      rw [BitVec.toInt_eq_toNat_cond] at g1
      split at g1
      · assumption
      · have := x0.toBitVec.isLt
        omega
    rw [BitVec.toInt_eq_toNat_of_lt hl] at g2
    have : ((2 ^ j : Nat) : Int) = 2 ^ j := by norm_cast
    omega
  have hkj : k < j := by
    refine Nat.lt_of_not_le fun c => ?_
    have := Nat.pow_le_pow_right (show 0 < 2 by decide) c
    omega
  omega
end GB
