/-! THE LAW'S WRAPPERS: what they promise -/
noncomputable def WPr (Z : AmZ) (A : Nat → Nat) (L : FM) (s : GS) : AmR := fun v u => ∃ (c : Int32) (A2 : Nat → Nat) (t : GS), v = some (.int c) ∧ u = WW Z A2 t ++ [] ∧ A2 0 = A 0 ∧ A2 109 = A 109 ∧ A2 195 = A 195 ∧ Inv t ∧ Fr (L.1, 195 :: L.2.1, L.2.2) s t ∧ KL t
theorem fr_up {L : FM} {s t : GS} (h : Fr ([], [], [], []) s t) : Fr L s t := ⟨fun q _ => h.1 q rfl, fun q _ => h.2.1 q rfl, fun q k _ => h.2.2.1 q k rfl, fun q k _ => h.2.2.2 q k rfl⟩
theorem kl_p {s : GS} (q : KL s) : 7 * (s.2.2.1 2 0).toInt ≤ (s.2.2.1 30 0).toInt := q.2.1

theorem w_7 {Z : AmZ} {A : Nat → Nat} {s : GS} {x1 : Int32} (hI : Inv s) (q : KL s) : WC Z 1300 7 [.ref (A 0), .int x1, .ref (A 195)] (WW Z A s ++ []) 3 18 (WPr Z A fm_219_0 s) := by
  intro post hP xp
  refine w_enter (k := 7) (d := 1299) (N := 60) rfl (Nat.le_of_ble_eq_true rfl) ?_
  refine g_aload_n 1 (gd rfl) rfl rfl ?_
  refine g_iconst 0 2 (gd rfl) rfl rfl ?_
  refine g_aload_n 3 (gd rfl) rfl rfl ?_
  refine g_iload_n 4 (gd rfl) rfl rfl ?_
  refine g_callvH (As := [.int x1]) (r := [.int (Int32.ofInt 0), .ref (A 195)]) (b := A 0) (q := 0) 7 (gd rfl) rfl rfl rfl rfl rfl rfl (ww_o rfl) (Nat.le_of_ble_eq_true rfl) (Nat.le_refl _) (Nat.le_refl _) (k_219_0 (by omega) hI ) (fun e u h => ?_) (fun v u h => ?_)
  · obtain ⟨rfl, t, hI2, hF2, rfl⟩ := h
    refine ⟨0, 12, by decide, rfl, rfl, fun a => ?_⟩
    refine g_astore_n 13 (gd rfl) rfl (Nat.le_of_ble_eq_true rfl) ?_
    refine g_iconst 1 14 (gd rfl) rfl rfl ?_
    exact g_ireturn (gd rfl) rfl rfl (hP _ _ ⟨_, A, t, rfl, rfl, rfl, rfl, rfl, hI2, fr_195' (hF2), (kl_fr q hF2 rfl)⟩)
  · obtain ⟨t, hI2, hF2, z, rfl, rfl, tl⟩ := h
    show GG _ _ _ _ _ _ _ _ [.int z, .int (Int32.ofInt 0), .ref (A 195)] _ _ _
    refine g_i2l 8 (gd rfl) rfl (fun z7 e7 => ?_)
    refine g_ouS (A := A) 9 (gd rfl) rfl ?_
    refine g_goto 15 (gd rfl) rfl ?_
    refine g_iconst 0 16 (gd rfl) rfl rfl ?_
    exact g_ireturn (gd rfl) rfl rfl (hP _ _ ⟨_, A, sL t 195 0 _, rfl, rfl, rfl, rfl, rfl, inv_195 hI2, fr_195 (hF2), kl_195 ((kl_fr q hF2 rfl))⟩)

theorem w_8 {Z : AmZ} {A : Nat → Nat} {s : GS} {x1 : Int32} {x2 : Int32} (hI : Inv s) (q : KL s) : WC Z 1300 8 [.ref (A 0), .int x1, .int x2, .ref (A 195)] (WW Z A s ++ []) 3 18 (WPr Z A fm_220_0 s) := by
  intro post hP xp
  refine w_enter (k := 8) (d := 1299) (N := 60) rfl (Nat.le_of_ble_eq_true rfl) ?_
  refine g_aload_n 1 (gd rfl) rfl rfl ?_
  refine g_iconst 0 2 (gd rfl) rfl rfl ?_
  refine g_aload_n 3 (gd rfl) rfl rfl ?_
  refine g_iload_n 4 (gd rfl) rfl rfl ?_
  refine g_iload_n 5 (gd rfl) rfl rfl ?_
  refine g_callvH (As := [.int x1, .int x2]) (r := [.int (Int32.ofInt 0), .ref (A 195)]) (b := A 0) (q := 0) 8 (gd rfl) rfl rfl rfl rfl rfl rfl (ww_o rfl) (Nat.le_of_ble_eq_true rfl) (Nat.le_refl _) (Nat.le_refl _) (k_220_0 (by omega) hI ) (fun e u h => ?_) (fun v u h => ?_)
  · obtain ⟨rfl, t, hI2, hF2, rfl⟩ := h
    refine ⟨0, 12, by decide, rfl, rfl, fun a => ?_⟩
    refine g_astore 14 (gd rfl) rfl (Nat.le_of_ble_eq_true rfl) ?_
    refine g_iconst 1 15 (gd rfl) rfl rfl ?_
    exact g_ireturn (gd rfl) rfl rfl (hP _ _ ⟨_, A, t, rfl, rfl, rfl, rfl, rfl, hI2, fr_195' (hF2), (kl_fr q hF2 rfl)⟩)
  · obtain ⟨t, hI2, hF2, z, rfl, rfl⟩ := h
    show GG _ _ _ _ _ _ _ _ [.long z, .int (Int32.ofInt 0), .ref (A 195)] _ _ _
    refine g_ouS (A := A) 9 (gd rfl) rfl ?_
    refine g_goto 16 (gd rfl) rfl ?_
    refine g_iconst 0 17 (gd rfl) rfl rfl ?_
    exact g_ireturn (gd rfl) rfl rfl (hP _ _ ⟨_, A, sL t 195 0 _, rfl, rfl, rfl, rfl, rfl, inv_195 hI2, fr_195 (hF2), kl_195 ((kl_fr q hF2 rfl))⟩)

theorem w_9 {Z : AmZ} {A : Nat → Nat} {s : GS} {x1 : Int32} (hI : Inv s) (q : KL s) : WC Z 1300 9 [.ref (A 0), .int x1, .ref (A 195)] (WW Z A s ++ []) 3 18 (WPr Z A fm_221_0 s) := by
  intro post hP xp
  refine w_enter (k := 9) (d := 1299) (N := 60) rfl (Nat.le_of_ble_eq_true rfl) ?_
  refine g_aload_n 1 (gd rfl) rfl rfl ?_
  refine g_iconst 0 2 (gd rfl) rfl rfl ?_
  refine g_aload_n 3 (gd rfl) rfl rfl ?_
  refine g_iload_n 4 (gd rfl) rfl rfl ?_
  refine g_callvH (As := [.int x1]) (r := [.int (Int32.ofInt 0), .ref (A 195)]) (b := A 0) (q := 0) 7 (gd rfl) rfl rfl rfl rfl rfl rfl (ww_o rfl) (Nat.le_of_ble_eq_true rfl) (Nat.le_refl _) (Nat.le_refl _) (k_221_0 (by omega) hI ) (fun e u h => ?_) (fun v u h => ?_)
  · obtain ⟨rfl, t, hI2, hF2, rfl⟩ := h
    refine ⟨0, 12, by decide, rfl, rfl, fun a => ?_⟩
    refine g_astore_n 13 (gd rfl) rfl (Nat.le_of_ble_eq_true rfl) ?_
    refine g_iconst 1 14 (gd rfl) rfl rfl ?_
    exact g_ireturn (gd rfl) rfl rfl (hP _ _ ⟨_, A, t, rfl, rfl, rfl, rfl, rfl, hI2, fr_195' (hF2), (kl_fr q hF2 rfl)⟩)
  · obtain ⟨t, hI2, hF2, z, rfl, rfl, tl⟩ := h
    show GG _ _ _ _ _ _ _ _ [.int z, .int (Int32.ofInt 0), .ref (A 195)] _ _ _
    refine g_i2l 8 (gd rfl) rfl (fun z7 e7 => ?_)
    refine g_ouS (A := A) 9 (gd rfl) rfl ?_
    refine g_goto 15 (gd rfl) rfl ?_
    refine g_iconst 0 16 (gd rfl) rfl rfl ?_
    exact g_ireturn (gd rfl) rfl rfl (hP _ _ ⟨_, A, sL t 195 0 _, rfl, rfl, rfl, rfl, rfl, inv_195 hI2, fr_195 (hF2), kl_195 ((kl_fr q hF2 rfl))⟩)

theorem w_10 {Z : AmZ} {A : Nat → Nat} {s : GS} {x1 : Int32} {x2 : Int32} {x3 : Int32} (hI : Inv s) (q : KL s) : WC Z 1300 10 [.ref (A 0), .int x1, .int x2, .int x3, .ref (A 195)] (WW Z A s ++ []) 3 18 (WPr Z A fm_222_0 s) := by
  intro post hP xp
  refine w_enter (k := 10) (d := 1299) (N := 60) rfl (Nat.le_of_ble_eq_true rfl) ?_
  refine g_aload 2 (gd rfl) rfl rfl ?_
  refine g_iconst 0 3 (gd rfl) rfl rfl ?_
  refine g_aload_n 4 (gd rfl) rfl rfl ?_
  refine g_iload_n 5 (gd rfl) rfl rfl ?_
  refine g_iload_n 6 (gd rfl) rfl rfl ?_
  refine g_iload_n 7 (gd rfl) rfl rfl ?_
  refine g_callvH (As := [.int x1, .int x2, .int x3]) (r := [.int (Int32.ofInt 0), .ref (A 195)]) (b := A 0) (q := 0) 10 (gd rfl) rfl rfl rfl rfl rfl rfl (ww_o rfl) (Nat.le_of_ble_eq_true rfl) (Nat.le_refl _) (Nat.le_refl _) (k_222_0 (by omega) hI ) (fun e u h => ?_) (fun v u h => ?_)
  · obtain ⟨rfl, t, hI2, hF2, rfl⟩ := h
    refine ⟨0, 15, by decide, rfl, rfl, fun a => ?_⟩
    refine g_astore 17 (gd rfl) rfl (Nat.le_of_ble_eq_true rfl) ?_
    refine g_iconst 1 18 (gd rfl) rfl rfl ?_
    exact g_ireturn (gd rfl) rfl rfl (hP _ _ ⟨_, A, t, rfl, rfl, rfl, rfl, rfl, hI2, fr_195' (hF2), (kl_fr q hF2 rfl)⟩)
  · obtain ⟨t, hI2, hF2, z, rfl, rfl, tl⟩ := h
    show GG _ _ _ _ _ _ _ _ [.int z, .int (Int32.ofInt 0), .ref (A 195)] _ _ _
    refine g_i2l 11 (gd rfl) rfl (fun z10 e10 => ?_)
    refine g_ouS (A := A) 12 (gd rfl) rfl ?_
    refine g_goto 19 (gd rfl) rfl ?_
    refine g_iconst 0 20 (gd rfl) rfl rfl ?_
    exact g_ireturn (gd rfl) rfl rfl (hP _ _ ⟨_, A, sL t 195 0 _, rfl, rfl, rfl, rfl, rfl, inv_195 hI2, fr_195 (hF2), kl_195 ((kl_fr q hF2 rfl))⟩)

theorem w_12 {Z : AmZ} {A : Nat → Nat} {s : GS} {x1 : Int32} (hI : Inv s) (q : KL s) : WC Z 1300 12 [.ref (A 0), .int x1, .ref (A 195)] (WW Z A s ++ []) 3 18 (WPr Z A fm_226_0 s) := by
  intro post hP xp
  refine w_enter (k := 12) (d := 1299) (N := 60) rfl (Nat.le_of_ble_eq_true rfl) ?_
  refine g_aload_n 1 (gd rfl) rfl rfl ?_
  refine g_iconst 0 2 (gd rfl) rfl rfl ?_
  refine g_aload_n 3 (gd rfl) rfl rfl ?_
  refine g_iload_n 4 (gd rfl) rfl rfl ?_
  refine g_callvH (As := [.int x1]) (r := [.int (Int32.ofInt 0), .ref (A 195)]) (b := A 0) (q := 0) 7 (gd rfl) rfl rfl rfl rfl rfl rfl (ww_o rfl) (Nat.le_of_ble_eq_true rfl) (Nat.le_refl _) (Nat.le_refl _) (k_226_0 (by omega) hI ) (fun e u h => ?_) (fun v u h => ?_)
  · obtain ⟨rfl, t, hI2, hF2, rfl⟩ := h
    refine ⟨0, 12, by decide, rfl, rfl, fun a => ?_⟩
    refine g_astore_n 13 (gd rfl) rfl (Nat.le_of_ble_eq_true rfl) ?_
    refine g_iconst 1 14 (gd rfl) rfl rfl ?_
    exact g_ireturn (gd rfl) rfl rfl (hP _ _ ⟨_, A, t, rfl, rfl, rfl, rfl, rfl, hI2, fr_195' (hF2), (kl_fr q hF2 rfl)⟩)
  · obtain ⟨t, hI2, hF2, z, rfl, rfl, tl⟩ := h
    show GG _ _ _ _ _ _ _ _ [.int z, .int (Int32.ofInt 0), .ref (A 195)] _ _ _
    refine g_i2l 8 (gd rfl) rfl (fun z7 e7 => ?_)
    refine g_ouS (A := A) 9 (gd rfl) rfl ?_
    refine g_goto 15 (gd rfl) rfl ?_
    refine g_iconst 0 16 (gd rfl) rfl rfl ?_
    exact g_ireturn (gd rfl) rfl rfl (hP _ _ ⟨_, A, sL t 195 0 _, rfl, rfl, rfl, rfl, rfl, inv_195 hI2, fr_195 (hF2), kl_195 ((kl_fr q hF2 rfl))⟩)

theorem w_13 {Z : AmZ} {A : Nat → Nat} {s : GS} {x1 : Int32} (hI : Inv s) (q : KL s) : WC Z 1300 13 [.ref (A 0), .int x1, .ref (A 195)] (WW Z A s ++ []) 3 18 (WPr Z A fm_228_0 s) := by
  intro post hP xp
  refine w_enter (k := 13) (d := 1299) (N := 60) rfl (Nat.le_of_ble_eq_true rfl) ?_
  refine g_aload_n 1 (gd rfl) rfl rfl ?_
  refine g_iconst 0 2 (gd rfl) rfl rfl ?_
  refine g_aload_n 3 (gd rfl) rfl rfl ?_
  refine g_iload_n 4 (gd rfl) rfl rfl ?_
  refine g_callvH (As := [.int x1]) (r := [.int (Int32.ofInt 0), .ref (A 195)]) (b := A 0) (q := 0) 7 (gd rfl) rfl rfl rfl rfl rfl rfl (ww_o rfl) (Nat.le_of_ble_eq_true rfl) (Nat.le_refl _) (Nat.le_refl _) (k_228_0 (by omega) hI ) (fun e u h => ?_) (fun v u h => ?_)
  · obtain ⟨rfl, t, hI2, hF2, rfl⟩ := h
    refine ⟨0, 12, by decide, rfl, rfl, fun a => ?_⟩
    refine g_astore_n 13 (gd rfl) rfl (Nat.le_of_ble_eq_true rfl) ?_
    refine g_iconst 1 14 (gd rfl) rfl rfl ?_
    exact g_ireturn (gd rfl) rfl rfl (hP _ _ ⟨_, A, t, rfl, rfl, rfl, rfl, rfl, hI2, fr_195' (hF2), (kl_fr q hF2 rfl)⟩)
  · obtain ⟨t, hI2, hF2, z, rfl, rfl, tl⟩ := h
    show GG _ _ _ _ _ _ _ _ [.int z, .int (Int32.ofInt 0), .ref (A 195)] _ _ _
    refine g_i2l 8 (gd rfl) rfl (fun z7 e7 => ?_)
    refine g_ouS (A := A) 9 (gd rfl) rfl ?_
    refine g_goto 15 (gd rfl) rfl ?_
    refine g_iconst 0 16 (gd rfl) rfl rfl ?_
    exact g_ireturn (gd rfl) rfl rfl (hP _ _ ⟨_, A, sL t 195 0 _, rfl, rfl, rfl, rfl, rfl, inv_195 hI2, fr_195 (hF2), kl_195 ((kl_fr q hF2 rfl))⟩)

theorem w_14 {Z : AmZ} {A : Nat → Nat} {s : GS} {x1 : Int32} {x2 : Int32} (hI : Inv s) (q : KL s) : WC Z 1300 14 [.ref (A 0), .int x1, .int x2, .ref (A 195)] (WW Z A s ++ []) 3 18 (WPr Z A fm_229_0 s) := by
  intro post hP xp
  refine w_enter (k := 14) (d := 1299) (N := 60) rfl (Nat.le_of_ble_eq_true rfl) ?_
  refine g_aload_n 1 (gd rfl) rfl rfl ?_
  refine g_iconst 0 2 (gd rfl) rfl rfl ?_
  refine g_aload_n 3 (gd rfl) rfl rfl ?_
  refine g_iload_n 4 (gd rfl) rfl rfl ?_
  refine g_iload_n 5 (gd rfl) rfl rfl ?_
  refine g_callvH (As := [.int x1, .int x2]) (r := [.int (Int32.ofInt 0), .ref (A 195)]) (b := A 0) (q := 0) 8 (gd rfl) rfl rfl rfl rfl rfl rfl (ww_o rfl) (Nat.le_of_ble_eq_true rfl) (Nat.le_refl _) (Nat.le_refl _) (k_229_0 (by omega) hI ) (fun e u h => ?_) (fun v u h => ?_)
  · obtain ⟨rfl, t, hI2, hF2, rfl⟩ := h
    refine ⟨0, 12, by decide, rfl, rfl, fun a => ?_⟩
    refine g_astore 14 (gd rfl) rfl (Nat.le_of_ble_eq_true rfl) ?_
    refine g_iconst 1 15 (gd rfl) rfl rfl ?_
    exact g_ireturn (gd rfl) rfl rfl (hP _ _ ⟨_, A, t, rfl, rfl, rfl, rfl, rfl, hI2, fr_195' (hF2), (kl_fr q hF2 rfl)⟩)
  · obtain ⟨t, hI2, hF2, z, rfl, rfl⟩ := h
    show GG _ _ _ _ _ _ _ _ [.long z, .int (Int32.ofInt 0), .ref (A 195)] _ _ _
    refine g_ouS (A := A) 9 (gd rfl) rfl ?_
    refine g_goto 16 (gd rfl) rfl ?_
    refine g_iconst 0 17 (gd rfl) rfl rfl ?_
    exact g_ireturn (gd rfl) rfl rfl (hP _ _ ⟨_, A, sL t 195 0 _, rfl, rfl, rfl, rfl, rfl, inv_195 hI2, fr_195 (hF2), kl_195 ((kl_fr q hF2 rfl))⟩)

theorem w_15 {Z : AmZ} {A : Nat → Nat} {s : GS} {x1 : Int32} {x2 : Int32} {x3 : Int32} (hI : Inv s) (q : KL s) : WC Z 1300 15 [.ref (A 0), .int x1, .int x2, .int x3, .ref (A 195)] (WW Z A s ++ []) 3 18 (WPr Z A fm_230_0 s) := by
  intro post hP xp
  refine w_enter (k := 15) (d := 1299) (N := 60) rfl (Nat.le_of_ble_eq_true rfl) ?_
  refine g_aload 2 (gd rfl) rfl rfl ?_
  refine g_iconst 0 3 (gd rfl) rfl rfl ?_
  refine g_aload_n 4 (gd rfl) rfl rfl ?_
  refine g_iload_n 5 (gd rfl) rfl rfl ?_
  refine g_iload_n 6 (gd rfl) rfl rfl ?_
  refine g_iload_n 7 (gd rfl) rfl rfl ?_
  refine g_callvH (As := [.int x1, .int x2, .int x3]) (r := [.int (Int32.ofInt 0), .ref (A 195)]) (b := A 0) (q := 0) 10 (gd rfl) rfl rfl rfl rfl rfl rfl (ww_o rfl) (Nat.le_of_ble_eq_true rfl) (Nat.le_refl _) (Nat.le_refl _) (k_230_0 (by omega) hI ) (fun e u h => ?_) (fun v u h => ?_)
  · obtain ⟨rfl, t, hI2, hF2, rfl⟩ := h
    refine ⟨0, 15, by decide, rfl, rfl, fun a => ?_⟩
    refine g_astore 17 (gd rfl) rfl (Nat.le_of_ble_eq_true rfl) ?_
    refine g_iconst 1 18 (gd rfl) rfl rfl ?_
    exact g_ireturn (gd rfl) rfl rfl (hP _ _ ⟨_, A, t, rfl, rfl, rfl, rfl, rfl, hI2, fr_195' (hF2), (kl_fr q hF2 rfl)⟩)
  · obtain ⟨t, hI2, hF2, z, rfl, rfl, tl⟩ := h
    show GG _ _ _ _ _ _ _ _ [.int z, .int (Int32.ofInt 0), .ref (A 195)] _ _ _
    refine g_i2l 11 (gd rfl) rfl (fun z10 e10 => ?_)
    refine g_ouS (A := A) 12 (gd rfl) rfl ?_
    refine g_goto 19 (gd rfl) rfl ?_
    refine g_iconst 0 20 (gd rfl) rfl rfl ?_
    exact g_ireturn (gd rfl) rfl rfl (hP _ _ ⟨_, A, sL t 195 0 _, rfl, rfl, rfl, rfl, rfl, inv_195 hI2, fr_195 (hF2), kl_195 ((kl_fr q hF2 rfl))⟩)

theorem w_16 {Z : AmZ} {A : Nat → Nat} {s : GS} {x1 : Int32} {x2 : Int32} (hI : Inv s) (q : KL s) : WC Z 1300 16 [.ref (A 0), .int x1, .int x2, .ref (A 195)] (WW Z A s ++ []) 3 18 (WPr Z A fm_231_0 s) := by
  intro post hP xp
  refine w_enter (k := 16) (d := 1299) (N := 60) rfl (Nat.le_of_ble_eq_true rfl) ?_
  refine g_aload_n 1 (gd rfl) rfl rfl ?_
  refine g_iconst 0 2 (gd rfl) rfl rfl ?_
  refine g_aload_n 3 (gd rfl) rfl rfl ?_
  refine g_iload_n 4 (gd rfl) rfl rfl ?_
  refine g_iload_n 5 (gd rfl) rfl rfl ?_
  refine g_callvH (As := [.int x1, .int x2]) (r := [.int (Int32.ofInt 0), .ref (A 195)]) (b := A 0) (q := 0) 8 (gd rfl) rfl rfl rfl rfl rfl rfl (ww_o rfl) (Nat.le_of_ble_eq_true rfl) (Nat.le_refl _) (Nat.le_refl _) (k_231_0 (by omega) hI ) (fun e u h => ?_) (fun v u h => ?_)
  · obtain ⟨rfl, t, hI2, hF2, rfl⟩ := h
    refine ⟨0, 13, by decide, rfl, rfl, fun a => ?_⟩
    refine g_astore 15 (gd rfl) rfl (Nat.le_of_ble_eq_true rfl) ?_
    refine g_iconst 1 16 (gd rfl) rfl rfl ?_
    exact g_ireturn (gd rfl) rfl rfl (hP _ _ ⟨_, A, t, rfl, rfl, rfl, rfl, rfl, hI2, fr_195' (hF2), (kl_fr q hF2 rfl)⟩)
  · obtain ⟨t, hI2, hF2, z, rfl, rfl, tl⟩ := h
    show GG _ _ _ _ _ _ _ _ [.int z, .int (Int32.ofInt 0), .ref (A 195)] _ _ _
    refine g_i2l 9 (gd rfl) rfl (fun z8 e8 => ?_)
    refine g_ouS (A := A) 10 (gd rfl) rfl ?_
    refine g_goto 17 (gd rfl) rfl ?_
    refine g_iconst 0 18 (gd rfl) rfl rfl ?_
    exact g_ireturn (gd rfl) rfl rfl (hP _ _ ⟨_, A, sL t 195 0 _, rfl, rfl, rfl, rfl, rfl, inv_195 hI2, fr_195 (hF2), kl_195 ((kl_fr q hF2 rfl))⟩)

theorem w_17 {Z : AmZ} {A : Nat → Nat} {s : GS} {x1 : Int32} {x2 : Int32} (hI : Inv s) (q : KL s) : WC Z 1300 17 [.ref (A 0), .int x1, .int x2, .ref (A 195)] (WW Z A s ++ []) 3 18 (WPr Z A fm_232_0 s) := by
  intro post hP xp
  refine w_enter (k := 17) (d := 1299) (N := 60) rfl (Nat.le_of_ble_eq_true rfl) ?_
  refine g_aload_n 1 (gd rfl) rfl rfl ?_
  refine g_iconst 0 2 (gd rfl) rfl rfl ?_
  refine g_aload_n 3 (gd rfl) rfl rfl ?_
  refine g_iload_n 4 (gd rfl) rfl rfl ?_
  refine g_iload_n 5 (gd rfl) rfl rfl ?_
  refine g_callvH (As := [.int x1, .int x2]) (r := [.int (Int32.ofInt 0), .ref (A 195)]) (b := A 0) (q := 0) 8 (gd rfl) rfl rfl rfl rfl rfl rfl (ww_o rfl) (Nat.le_of_ble_eq_true rfl) (Nat.le_refl _) (Nat.le_refl _) (k_232_0 (by omega) hI ) (fun e u h => ?_) (fun v u h => ?_)
  · obtain ⟨rfl, t, hI2, hF2, rfl⟩ := h
    refine ⟨0, 13, by decide, rfl, rfl, fun a => ?_⟩
    refine g_astore 15 (gd rfl) rfl (Nat.le_of_ble_eq_true rfl) ?_
    refine g_iconst 1 16 (gd rfl) rfl rfl ?_
    exact g_ireturn (gd rfl) rfl rfl (hP _ _ ⟨_, A, t, rfl, rfl, rfl, rfl, rfl, hI2, fr_195' (hF2), (kl_fr q hF2 rfl)⟩)
  · obtain ⟨t, hI2, hF2, z, rfl, rfl, tl⟩ := h
    show GG _ _ _ _ _ _ _ _ [.int z, .int (Int32.ofInt 0), .ref (A 195)] _ _ _
    refine g_i2l 9 (gd rfl) rfl (fun z8 e8 => ?_)
    refine g_ouS (A := A) 10 (gd rfl) rfl ?_
    refine g_goto 17 (gd rfl) rfl ?_
    refine g_iconst 0 18 (gd rfl) rfl rfl ?_
    exact g_ireturn (gd rfl) rfl rfl (hP _ _ ⟨_, A, sL t 195 0 _, rfl, rfl, rfl, rfl, rfl, inv_195 hI2, fr_195 (hF2), kl_195 ((kl_fr q hF2 rfl))⟩)

theorem w_18 {Z : AmZ} {A : Nat → Nat} {s : GS} {x1 : Int32} {x2 : Int32} {x3 : Int32} {x4 : Int32} (hI : Inv s) (q : KL s) : WC Z 1300 18 [.ref (A 0), .int x1, .int x2, .int x3, .int x4, .ref (A 195)] (WW Z A s ++ []) 3 18 (WPr Z A fm_233_0 s) := by
  intro post hP xp
  refine w_enter (k := 18) (d := 1299) (N := 60) rfl (Nat.le_of_ble_eq_true rfl) ?_
  refine g_aload 2 (gd rfl) rfl rfl ?_
  refine g_iconst 0 3 (gd rfl) rfl rfl ?_
  refine g_aload_n 4 (gd rfl) rfl rfl ?_
  refine g_iload_n 5 (gd rfl) rfl rfl ?_
  refine g_iload_n 6 (gd rfl) rfl rfl ?_
  refine g_iload_n 7 (gd rfl) rfl rfl ?_
  refine g_iload 9 (gd rfl) rfl rfl ?_
  refine g_callvH (As := [.int x1, .int x2, .int x3, .int x4]) (r := [.int (Int32.ofInt 0), .ref (A 195)]) (b := A 0) (q := 0) 12 (gd rfl) rfl rfl rfl rfl rfl rfl (ww_o rfl) (Nat.le_of_ble_eq_true rfl) (Nat.le_refl _) (Nat.le_refl _) (k_233_0 (by omega) hI ) (fun e u h => ?_) (fun v u h => ?_)
  · obtain ⟨rfl, t, hI2, hF2, rfl⟩ := h
    refine ⟨0, 17, by decide, rfl, rfl, fun a => ?_⟩
    refine g_astore 19 (gd rfl) rfl (Nat.le_of_ble_eq_true rfl) ?_
    refine g_iconst 1 20 (gd rfl) rfl rfl ?_
    exact g_ireturn (gd rfl) rfl rfl (hP _ _ ⟨_, A, t, rfl, rfl, rfl, rfl, rfl, hI2, fr_195' (hF2), (kl_fr q hF2 rfl)⟩)
  · obtain ⟨t, hI2, hF2, z, rfl, rfl, tl⟩ := h
    show GG _ _ _ _ _ _ _ _ [.int z, .int (Int32.ofInt 0), .ref (A 195)] _ _ _
    refine g_i2l 13 (gd rfl) rfl (fun z12 e12 => ?_)
    refine g_ouS (A := A) 14 (gd rfl) rfl ?_
    refine g_goto 21 (gd rfl) rfl ?_
    refine g_iconst 0 22 (gd rfl) rfl rfl ?_
    exact g_ireturn (gd rfl) rfl rfl (hP _ _ ⟨_, A, sL t 195 0 _, rfl, rfl, rfl, rfl, rfl, inv_195 hI2, fr_195 (hF2), kl_195 ((kl_fr q hF2 rfl))⟩)

theorem w_20 {Z : AmZ} {A : Nat → Nat} {s : GS} {x1 : Int32} (hI : Inv s) (q : KL s) : WC Z 1300 20 [.ref (A 0), .int x1, .ref (A 195)] (WW Z A s ++ []) 3 18 (WPr Z A fm_235_0 s) := by
  intro post hP xp
  refine w_enter (k := 20) (d := 1299) (N := 60) rfl (Nat.le_of_ble_eq_true rfl) ?_
  refine g_aload_n 1 (gd rfl) rfl rfl ?_
  refine g_iconst 0 2 (gd rfl) rfl rfl ?_
  refine g_aload_n 3 (gd rfl) rfl rfl ?_
  refine g_iload_n 4 (gd rfl) rfl rfl ?_
  refine g_callvH (As := [.int x1]) (r := [.int (Int32.ofInt 0), .ref (A 195)]) (b := A 0) (q := 0) 7 (gd rfl) rfl rfl rfl rfl rfl rfl (ww_o rfl) (Nat.le_of_ble_eq_true rfl) (Nat.le_refl _) (Nat.le_refl _) (k_235_0 (by omega) hI ) (fun e u h => ?_) (fun v u h => ?_)
  · obtain ⟨rfl, t, hI2, hF2, rfl⟩ := h
    refine ⟨0, 19, by decide, rfl, rfl, fun a => ?_⟩
    refine g_astore_n 20 (gd rfl) rfl (Nat.le_of_ble_eq_true rfl) ?_
    refine g_iconst 1 21 (gd rfl) rfl rfl ?_
    exact g_ireturn (gd rfl) rfl rfl (hP _ _ ⟨_, A, t, rfl, rfl, rfl, rfl, rfl, hI2, fr_195' (hF2), (kl_fr q hF2 rfl)⟩)
  · obtain ⟨t, hI2, hF2, z, rfl, rfl, tl⟩ := h
    show GG _ _ _ _ _ _ _ _ [.int z, .int (Int32.ofInt 0), .ref (A 195)] _ _ _
    refine g_if_eq 10 14 (gd rfl) rfl rfl (fun c => ?_) (fun c => ?_)
    · refine g_lconst 0 15 (gd rfl) rfl rfl ?_
      refine g_ouS (A := A) 16 (gd rfl) rfl ?_
      refine g_goto 22 (gd rfl) rfl ?_
      refine g_iconst 0 23 (gd rfl) rfl rfl ?_
      exact g_ireturn (gd rfl) rfl rfl (hP _ _ ⟨_, A, sL t 195 0 _, rfl, rfl, rfl, rfl, rfl, inv_195 hI2, fr_195 (hF2), kl_195 ((kl_fr q hF2 rfl))⟩)
    · refine g_lconst 1 11 (gd rfl) rfl rfl ?_
      refine g_goto 15 (gd rfl) rfl ?_
      refine g_ouS (A := A) 16 (gd rfl) rfl ?_
      refine g_goto 22 (gd rfl) rfl ?_
      refine g_iconst 0 23 (gd rfl) rfl rfl ?_
      exact g_ireturn (gd rfl) rfl rfl (hP _ _ ⟨_, A, sL t 195 0 _, rfl, rfl, rfl, rfl, rfl, inv_195 hI2, fr_195 (hF2), kl_195 ((kl_fr q hF2 rfl))⟩)

theorem w_21 {Z : AmZ} {A : Nat → Nat} {s : GS} {x1 : Int32} (hI : Inv s) (q : KL s) : WC Z 1300 21 [.ref (A 0), .int x1, .ref (A 195)] (WW Z A s ++ []) 3 18 (WPr Z A fm_236_0 s) := by
  intro post hP xp
  refine w_enter (k := 21) (d := 1299) (N := 60) rfl (Nat.le_of_ble_eq_true rfl) ?_
  refine g_aload_n 1 (gd rfl) rfl rfl ?_
  refine g_iconst 0 2 (gd rfl) rfl rfl ?_
  refine g_aload_n 3 (gd rfl) rfl rfl ?_
  refine g_iload_n 4 (gd rfl) rfl rfl ?_
  refine g_callvH (As := [.int x1]) (r := [.int (Int32.ofInt 0), .ref (A 195)]) (b := A 0) (q := 0) 7 (gd rfl) rfl rfl rfl rfl rfl rfl (ww_o rfl) (Nat.le_of_ble_eq_true rfl) (Nat.le_refl _) (Nat.le_refl _) (k_236_0 (by omega) hI ) (fun e u h => ?_) (fun v u h => ?_)
  · obtain ⟨rfl, t, hI2, hF2, rfl⟩ := h
    refine ⟨0, 19, by decide, rfl, rfl, fun a => ?_⟩
    refine g_astore_n 20 (gd rfl) rfl (Nat.le_of_ble_eq_true rfl) ?_
    refine g_iconst 1 21 (gd rfl) rfl rfl ?_
    exact g_ireturn (gd rfl) rfl rfl (hP _ _ ⟨_, A, t, rfl, rfl, rfl, rfl, rfl, hI2, fr_195' (hF2), (kl_fr q hF2 rfl)⟩)
  · obtain ⟨t, hI2, hF2, z, rfl, rfl, tl⟩ := h
    show GG _ _ _ _ _ _ _ _ [.int z, .int (Int32.ofInt 0), .ref (A 195)] _ _ _
    refine g_if_eq 10 14 (gd rfl) rfl rfl (fun c => ?_) (fun c => ?_)
    · refine g_lconst 0 15 (gd rfl) rfl rfl ?_
      refine g_ouS (A := A) 16 (gd rfl) rfl ?_
      refine g_goto 22 (gd rfl) rfl ?_
      refine g_iconst 0 23 (gd rfl) rfl rfl ?_
      exact g_ireturn (gd rfl) rfl rfl (hP _ _ ⟨_, A, sL t 195 0 _, rfl, rfl, rfl, rfl, rfl, inv_195 hI2, fr_195 (hF2), kl_195 ((kl_fr q hF2 rfl))⟩)
    · refine g_lconst 1 11 (gd rfl) rfl rfl ?_
      refine g_goto 15 (gd rfl) rfl ?_
      refine g_ouS (A := A) 16 (gd rfl) rfl ?_
      refine g_goto 22 (gd rfl) rfl ?_
      refine g_iconst 0 23 (gd rfl) rfl rfl ?_
      exact g_ireturn (gd rfl) rfl rfl (hP _ _ ⟨_, A, sL t 195 0 _, rfl, rfl, rfl, rfl, rfl, inv_195 hI2, fr_195 (hF2), kl_195 ((kl_fr q hF2 rfl))⟩)

theorem w_22 {Z : AmZ} {A : Nat → Nat} {s : GS} {x1 : Int32} (hI : Inv s) (q : KL s) : WC Z 1300 22 [.ref (A 0), .int x1, .ref (A 195)] (WW Z A s ++ []) 3 18 (WPr Z A fm_237_0 s) := by
  intro post hP xp
  refine w_enter (k := 22) (d := 1299) (N := 60) rfl (Nat.le_of_ble_eq_true rfl) ?_
  refine g_aload_n 1 (gd rfl) rfl rfl ?_
  refine g_iconst 0 2 (gd rfl) rfl rfl ?_
  refine g_aload_n 3 (gd rfl) rfl rfl ?_
  refine g_iload_n 4 (gd rfl) rfl rfl ?_
  refine g_callvH (As := [.int x1]) (r := [.int (Int32.ofInt 0), .ref (A 195)]) (b := A 0) (q := 0) 7 (gd rfl) rfl rfl rfl rfl rfl rfl (ww_o rfl) (Nat.le_of_ble_eq_true rfl) (Nat.le_refl _) (Nat.le_refl _) (k_237_0 (by omega) hI ) (fun e u h => ?_) (fun v u h => ?_)
  · obtain ⟨rfl, t, hI2, hF2, rfl⟩ := h
    refine ⟨0, 12, by decide, rfl, rfl, fun a => ?_⟩
    refine g_astore_n 13 (gd rfl) rfl (Nat.le_of_ble_eq_true rfl) ?_
    refine g_iconst 1 14 (gd rfl) rfl rfl ?_
    exact g_ireturn (gd rfl) rfl rfl (hP _ _ ⟨_, A, t, rfl, rfl, rfl, rfl, rfl, hI2, fr_195' (hF2), (kl_fr q hF2 rfl)⟩)
  · obtain ⟨t, hI2, hF2, z, rfl, rfl, tl⟩ := h
    show GG _ _ _ _ _ _ _ _ [.int z, .int (Int32.ofInt 0), .ref (A 195)] _ _ _
    refine g_i2l 8 (gd rfl) rfl (fun z7 e7 => ?_)
    refine g_ouS (A := A) 9 (gd rfl) rfl ?_
    refine g_goto 15 (gd rfl) rfl ?_
    refine g_iconst 0 16 (gd rfl) rfl rfl ?_
    exact g_ireturn (gd rfl) rfl rfl (hP _ _ ⟨_, A, sL t 195 0 _, rfl, rfl, rfl, rfl, rfl, inv_195 hI2, fr_195 (hF2), kl_195 ((kl_fr q hF2 rfl))⟩)

theorem w_23 {Z : AmZ} {A : Nat → Nat} {s : GS} {x1 : Int32} (hI : Inv s) (q : KL s) : WC Z 1300 23 [.ref (A 0), .int x1, .ref (A 195)] (WW Z A s ++ []) 3 18 (WPr Z A fm_238_0 s) := by
  intro post hP xp
  refine w_enter (k := 23) (d := 1299) (N := 60) rfl (Nat.le_of_ble_eq_true rfl) ?_
  refine g_aload_n 1 (gd rfl) rfl rfl ?_
  refine g_iconst 0 2 (gd rfl) rfl rfl ?_
  refine g_aload_n 3 (gd rfl) rfl rfl ?_
  refine g_iload_n 4 (gd rfl) rfl rfl ?_
  refine g_callvH (As := [.int x1]) (r := [.int (Int32.ofInt 0), .ref (A 195)]) (b := A 0) (q := 0) 7 (gd rfl) rfl rfl rfl rfl rfl rfl (ww_o rfl) (Nat.le_of_ble_eq_true rfl) (Nat.le_refl _) (Nat.le_refl _) (k_238_0 (by omega) hI ) (fun e u h => ?_) (fun v u h => ?_)
  · obtain ⟨rfl, t, hI2, hF2, rfl⟩ := h
    refine ⟨0, 12, by decide, rfl, rfl, fun a => ?_⟩
    refine g_astore_n 13 (gd rfl) rfl (Nat.le_of_ble_eq_true rfl) ?_
    refine g_iconst 1 14 (gd rfl) rfl rfl ?_
    exact g_ireturn (gd rfl) rfl rfl (hP _ _ ⟨_, A, t, rfl, rfl, rfl, rfl, rfl, hI2, fr_195' (hF2), (kl_fr q hF2 rfl)⟩)
  · obtain ⟨t, hI2, hF2, z, rfl, rfl, tl⟩ := h
    show GG _ _ _ _ _ _ _ _ [.int z, .int (Int32.ofInt 0), .ref (A 195)] _ _ _
    refine g_i2l 8 (gd rfl) rfl (fun z7 e7 => ?_)
    refine g_ouS (A := A) 9 (gd rfl) rfl ?_
    refine g_goto 15 (gd rfl) rfl ?_
    refine g_iconst 0 16 (gd rfl) rfl rfl ?_
    exact g_ireturn (gd rfl) rfl rfl (hP _ _ ⟨_, A, sL t 195 0 _, rfl, rfl, rfl, rfl, rfl, inv_195 hI2, fr_195 (hF2), kl_195 ((kl_fr q hF2 rfl))⟩)

theorem w_24 {Z : AmZ} {A : Nat → Nat} {s : GS} {x1 : Int32} (hI : Inv s) (q : KL s) : WC Z 1300 24 [.ref (A 0), .int x1, .ref (A 195)] (WW Z A s ++ []) 3 18 (WPr Z A fm_239_0 s) := by
  intro post hP xp
  refine w_enter (k := 24) (d := 1299) (N := 60) rfl (Nat.le_of_ble_eq_true rfl) ?_
  refine g_aload_n 1 (gd rfl) rfl rfl ?_
  refine g_iconst 0 2 (gd rfl) rfl rfl ?_
  refine g_aload_n 3 (gd rfl) rfl rfl ?_
  refine g_iload_n 4 (gd rfl) rfl rfl ?_
  refine g_callvH (As := [.int x1]) (r := [.int (Int32.ofInt 0), .ref (A 195)]) (b := A 0) (q := 0) 7 (gd rfl) rfl rfl rfl rfl rfl rfl (ww_o rfl) (Nat.le_of_ble_eq_true rfl) (Nat.le_refl _) (Nat.le_refl _) (k_239_0 (by omega) hI ) (fun e u h => ?_) (fun v u h => ?_)
  · obtain ⟨rfl, t, hI2, hF2, rfl⟩ := h
    refine ⟨0, 12, by decide, rfl, rfl, fun a => ?_⟩
    refine g_astore_n 13 (gd rfl) rfl (Nat.le_of_ble_eq_true rfl) ?_
    refine g_iconst 1 14 (gd rfl) rfl rfl ?_
    exact g_ireturn (gd rfl) rfl rfl (hP _ _ ⟨_, A, t, rfl, rfl, rfl, rfl, rfl, hI2, fr_195' (hF2), (kl_fr q hF2 rfl)⟩)
  · obtain ⟨t, hI2, hF2, z, rfl, rfl, tl⟩ := h
    show GG _ _ _ _ _ _ _ _ [.int z, .int (Int32.ofInt 0), .ref (A 195)] _ _ _
    refine g_i2l 8 (gd rfl) rfl (fun z7 e7 => ?_)
    refine g_ouS (A := A) 9 (gd rfl) rfl ?_
    refine g_goto 15 (gd rfl) rfl ?_
    refine g_iconst 0 16 (gd rfl) rfl rfl ?_
    exact g_ireturn (gd rfl) rfl rfl (hP _ _ ⟨_, A, sL t 195 0 _, rfl, rfl, rfl, rfl, rfl, inv_195 hI2, fr_195 (hF2), kl_195 ((kl_fr q hF2 rfl))⟩)

theorem w_25 {Z : AmZ} {A : Nat → Nat} {s : GS} {x1 : Int32} (hI : Inv s) (q : KL s) : WC Z 1300 25 [.ref (A 0), .int x1, .ref (A 195)] (WW Z A s ++ []) 3 18 (WPr Z A fm_240_0 s) := by
  intro post hP xp
  refine w_enter (k := 25) (d := 1299) (N := 60) rfl (Nat.le_of_ble_eq_true rfl) ?_
  refine g_aload_n 1 (gd rfl) rfl rfl ?_
  refine g_iconst 0 2 (gd rfl) rfl rfl ?_
  refine g_aload_n 3 (gd rfl) rfl rfl ?_
  refine g_iload_n 4 (gd rfl) rfl rfl ?_
  refine g_callvH (As := [.int x1]) (r := [.int (Int32.ofInt 0), .ref (A 195)]) (b := A 0) (q := 0) 7 (gd rfl) rfl rfl rfl rfl rfl rfl (ww_o rfl) (Nat.le_of_ble_eq_true rfl) (Nat.le_refl _) (Nat.le_refl _) (k_240_0 (by omega) hI ) (fun e u h => ?_) (fun v u h => ?_)
  · obtain ⟨rfl, t, hI2, hF2, rfl⟩ := h
    refine ⟨0, 12, by decide, rfl, rfl, fun a => ?_⟩
    refine g_astore_n 13 (gd rfl) rfl (Nat.le_of_ble_eq_true rfl) ?_
    refine g_iconst 1 14 (gd rfl) rfl rfl ?_
    exact g_ireturn (gd rfl) rfl rfl (hP _ _ ⟨_, A, t, rfl, rfl, rfl, rfl, rfl, hI2, fr_195' (hF2), (kl_fr q hF2 rfl)⟩)
  · obtain ⟨t, hI2, hF2, z, rfl, rfl, tl⟩ := h
    show GG _ _ _ _ _ _ _ _ [.int z, .int (Int32.ofInt 0), .ref (A 195)] _ _ _
    refine g_i2l 8 (gd rfl) rfl (fun z7 e7 => ?_)
    refine g_ouS (A := A) 9 (gd rfl) rfl ?_
    refine g_goto 15 (gd rfl) rfl ?_
    refine g_iconst 0 16 (gd rfl) rfl rfl ?_
    exact g_ireturn (gd rfl) rfl rfl (hP _ _ ⟨_, A, sL t 195 0 _, rfl, rfl, rfl, rfl, rfl, inv_195 hI2, fr_195 (hF2), kl_195 ((kl_fr q hF2 rfl))⟩)

theorem w_26 {Z : AmZ} {A : Nat → Nat} {s : GS} {x1 : Int32} {x2 : Int32} (hI : Inv s) (q : KL s) : WC Z 1300 26 [.ref (A 0), .int x1, .int x2, .ref (A 195)] (WW Z A s ++ []) 3 18 (WPr Z A fm_241_0 s) := by
  intro post hP xp
  refine w_enter (k := 26) (d := 1299) (N := 60) rfl (Nat.le_of_ble_eq_true rfl) ?_
  refine g_aload_n 1 (gd rfl) rfl rfl ?_
  refine g_iconst 0 2 (gd rfl) rfl rfl ?_
  refine g_aload_n 3 (gd rfl) rfl rfl ?_
  refine g_iload_n 4 (gd rfl) rfl rfl ?_
  refine g_iload_n 5 (gd rfl) rfl rfl ?_
  refine g_callvH (As := [.int x1, .int x2]) (r := [.int (Int32.ofInt 0), .ref (A 195)]) (b := A 0) (q := 0) 8 (gd rfl) rfl rfl rfl rfl rfl rfl (ww_o rfl) (Nat.le_of_ble_eq_true rfl) (Nat.le_refl _) (Nat.le_refl _) (k_241_0 (by omega) hI ) (fun e u h => ?_) (fun v u h => ?_)
  · obtain ⟨rfl, t, hI2, hF2, rfl⟩ := h
    refine ⟨0, 12, by decide, rfl, rfl, fun a => ?_⟩
    refine g_astore 14 (gd rfl) rfl (Nat.le_of_ble_eq_true rfl) ?_
    refine g_iconst 1 15 (gd rfl) rfl rfl ?_
    exact g_ireturn (gd rfl) rfl rfl (hP _ _ ⟨_, A, t, rfl, rfl, rfl, rfl, rfl, hI2, fr_195' (hF2), (kl_fr q hF2 rfl)⟩)
  · obtain ⟨t, hI2, hF2, z, rfl, rfl⟩ := h
    show GG _ _ _ _ _ _ _ _ [.long z, .int (Int32.ofInt 0), .ref (A 195)] _ _ _
    refine g_ouS (A := A) 9 (gd rfl) rfl ?_
    refine g_goto 16 (gd rfl) rfl ?_
    refine g_iconst 0 17 (gd rfl) rfl rfl ?_
    exact g_ireturn (gd rfl) rfl rfl (hP _ _ ⟨_, A, sL t 195 0 _, rfl, rfl, rfl, rfl, rfl, inv_195 hI2, fr_195 (hF2), kl_195 ((kl_fr q hF2 rfl))⟩)

theorem w_27 {Z : AmZ} {A : Nat → Nat} {s : GS} {x1 : Int32} {x2 : Int32} {x3 : Int32} (hI : Inv s) (q : KL s) : WC Z 1300 27 [.ref (A 0), .int x1, .int x2, .int x3, .ref (A 195)] (WW Z A s ++ []) 3 18 (WPr Z A fm_242_0 s) := by
  intro post hP xp
  refine w_enter (k := 27) (d := 1299) (N := 60) rfl (Nat.le_of_ble_eq_true rfl) ?_
  refine g_aload 2 (gd rfl) rfl rfl ?_
  refine g_iconst 0 3 (gd rfl) rfl rfl ?_
  refine g_aload_n 4 (gd rfl) rfl rfl ?_
  refine g_iload_n 5 (gd rfl) rfl rfl ?_
  refine g_iload_n 6 (gd rfl) rfl rfl ?_
  refine g_iload_n 7 (gd rfl) rfl rfl ?_
  refine g_callvH (As := [.int x1, .int x2, .int x3]) (r := [.int (Int32.ofInt 0), .ref (A 195)]) (b := A 0) (q := 0) 10 (gd rfl) rfl rfl rfl rfl rfl rfl (ww_o rfl) (Nat.le_of_ble_eq_true rfl) (Nat.le_refl _) (Nat.le_refl _) (k_242_0 (by omega) hI ) (fun e u h => ?_) (fun v u h => ?_)
  · obtain ⟨rfl, t, hI2, hF2, rfl⟩ := h
    refine ⟨0, 22, by decide, rfl, rfl, fun a => ?_⟩
    refine g_astore 24 (gd rfl) rfl (Nat.le_of_ble_eq_true rfl) ?_
    refine g_iconst 1 25 (gd rfl) rfl rfl ?_
    exact g_ireturn (gd rfl) rfl rfl (hP _ _ ⟨_, A, t, rfl, rfl, rfl, rfl, rfl, hI2, fr_195' (hF2), (kl_fr q hF2 rfl)⟩)
  · obtain ⟨t, hI2, hF2, z, rfl, rfl, tl⟩ := h
    show GG _ _ _ _ _ _ _ _ [.int z, .int (Int32.ofInt 0), .ref (A 195)] _ _ _
    refine g_if_eq 13 17 (gd rfl) rfl rfl (fun c => ?_) (fun c => ?_)
    · refine g_lconst 0 18 (gd rfl) rfl rfl ?_
      refine g_ouS (A := A) 19 (gd rfl) rfl ?_
      refine g_goto 26 (gd rfl) rfl ?_
      refine g_iconst 0 27 (gd rfl) rfl rfl ?_
      exact g_ireturn (gd rfl) rfl rfl (hP _ _ ⟨_, A, sL t 195 0 _, rfl, rfl, rfl, rfl, rfl, inv_195 hI2, fr_195 (hF2), kl_195 ((kl_fr q hF2 rfl))⟩)
    · refine g_lconst 1 14 (gd rfl) rfl rfl ?_
      refine g_goto 18 (gd rfl) rfl ?_
      refine g_ouS (A := A) 19 (gd rfl) rfl ?_
      refine g_goto 26 (gd rfl) rfl ?_
      refine g_iconst 0 27 (gd rfl) rfl rfl ?_
      exact g_ireturn (gd rfl) rfl rfl (hP _ _ ⟨_, A, sL t 195 0 _, rfl, rfl, rfl, rfl, rfl, inv_195 hI2, fr_195 (hF2), kl_195 ((kl_fr q hF2 rfl))⟩)

theorem w_28 {Z : AmZ} {A : Nat → Nat} {s : GS} {x1 : Int32} {x2 : Int32} {x3 : Int32} (hI : Inv s) (q : KL s) : WC Z 1300 28 [.ref (A 0), .int x1, .int x2, .int x3, .ref (A 195)] (WW Z A s ++ []) 3 18 (WPr Z A fm_243_0 s) := by
  intro post hP xp
  refine w_enter (k := 28) (d := 1299) (N := 60) rfl (Nat.le_of_ble_eq_true rfl) ?_
  refine g_aload 2 (gd rfl) rfl rfl ?_
  refine g_iconst 0 3 (gd rfl) rfl rfl ?_
  refine g_aload_n 4 (gd rfl) rfl rfl ?_
  refine g_iload_n 5 (gd rfl) rfl rfl ?_
  refine g_iload_n 6 (gd rfl) rfl rfl ?_
  refine g_iload_n 7 (gd rfl) rfl rfl ?_
  refine g_callvH (As := [.int x1, .int x2, .int x3]) (r := [.int (Int32.ofInt 0), .ref (A 195)]) (b := A 0) (q := 0) 10 (gd rfl) rfl rfl rfl rfl rfl rfl (ww_o rfl) (Nat.le_of_ble_eq_true rfl) (Nat.le_refl _) (Nat.le_refl _) (k_243_0 (by omega) hI ) (fun e u h => ?_) (fun v u h => ?_)
  · obtain ⟨rfl, t, hI2, hF2, rfl⟩ := h
    refine ⟨0, 14, by decide, rfl, rfl, fun a => ?_⟩
    refine g_astore 16 (gd rfl) rfl (Nat.le_of_ble_eq_true rfl) ?_
    refine g_iconst 1 17 (gd rfl) rfl rfl ?_
    exact g_ireturn (gd rfl) rfl rfl (hP _ _ ⟨_, A, t, rfl, rfl, rfl, rfl, rfl, hI2, fr_195' (hF2), (kl_fr q hF2 rfl)⟩)
  · obtain ⟨t, hI2, hF2, z, rfl, rfl⟩ := h
    show GG _ _ _ _ _ _ _ _ [.long z, .int (Int32.ofInt 0), .ref (A 195)] _ _ _
    refine g_ouS (A := A) 11 (gd rfl) rfl ?_
    refine g_goto 18 (gd rfl) rfl ?_
    refine g_iconst 0 19 (gd rfl) rfl rfl ?_
    exact g_ireturn (gd rfl) rfl rfl (hP _ _ ⟨_, A, sL t 195 0 _, rfl, rfl, rfl, rfl, rfl, inv_195 hI2, fr_195 (hF2), kl_195 ((kl_fr q hF2 rfl))⟩)

theorem w_29 {Z : AmZ} {A : Nat → Nat} {s : GS} {x1 : Int32} (hI : Inv s) (q : KL s) : WC Z 1300 29 [.ref (A 0), .int x1, .ref (A 195)] (WW Z A s ++ []) 3 18 (WPr Z A fm_244_0 s) := by
  intro post hP xp
  refine w_enter (k := 29) (d := 1299) (N := 60) rfl (Nat.le_of_ble_eq_true rfl) ?_
  refine g_aload_n 1 (gd rfl) rfl rfl ?_
  refine g_iconst 0 2 (gd rfl) rfl rfl ?_
  refine g_aload_n 3 (gd rfl) rfl rfl ?_
  refine g_iload_n 4 (gd rfl) rfl rfl ?_
  refine g_callvH (As := [.int x1]) (r := [.int (Int32.ofInt 0), .ref (A 195)]) (b := A 0) (q := 0) 7 (gd rfl) rfl rfl rfl rfl rfl rfl (ww_o rfl) (Nat.le_of_ble_eq_true rfl) (Nat.le_refl _) (Nat.le_refl _) (k_244_0 (by omega) hI ) (fun e u h => ?_) (fun v u h => ?_)
  · obtain ⟨rfl, t, hI2, hF2, rfl⟩ := h
    refine ⟨0, 11, by decide, rfl, rfl, fun a => ?_⟩
    refine g_astore_n 12 (gd rfl) rfl (Nat.le_of_ble_eq_true rfl) ?_
    refine g_iconst 1 13 (gd rfl) rfl rfl ?_
    exact g_ireturn (gd rfl) rfl rfl (hP _ _ ⟨_, A, t, rfl, rfl, rfl, rfl, rfl, hI2, fr_195' (hF2), (kl_fr q hF2 rfl)⟩)
  · obtain ⟨t, hI2, hF2, z, rfl, rfl⟩ := h
    show GG _ _ _ _ _ _ _ _ [.long z, .int (Int32.ofInt 0), .ref (A 195)] _ _ _
    refine g_ouS (A := A) 8 (gd rfl) rfl ?_
    refine g_goto 14 (gd rfl) rfl ?_
    refine g_iconst 0 15 (gd rfl) rfl rfl ?_
    exact g_ireturn (gd rfl) rfl rfl (hP _ _ ⟨_, A, sL t 195 0 _, rfl, rfl, rfl, rfl, rfl, inv_195 hI2, fr_195 (hF2), kl_195 ((kl_fr q hF2 rfl))⟩)

theorem w_30 {Z : AmZ} {A : Nat → Nat} {s : GS} {x1 : Int32} (hI : Inv s) (q : KL s) : WC Z 1300 30 [.ref (A 0), .int x1, .ref (A 195)] (WW Z A s ++ []) 3 18 (WPr Z A fm_245_0 s) := by
  intro post hP xp
  refine w_enter (k := 30) (d := 1299) (N := 60) rfl (Nat.le_of_ble_eq_true rfl) ?_
  refine g_aload_n 1 (gd rfl) rfl rfl ?_
  refine g_iconst 0 2 (gd rfl) rfl rfl ?_
  refine g_aload_n 3 (gd rfl) rfl rfl ?_
  refine g_iload_n 4 (gd rfl) rfl rfl ?_
  refine g_callvH (As := [.int x1]) (r := [.int (Int32.ofInt 0), .ref (A 195)]) (b := A 0) (q := 0) 7 (gd rfl) rfl rfl rfl rfl rfl rfl (ww_o rfl) (Nat.le_of_ble_eq_true rfl) (Nat.le_refl _) (Nat.le_refl _) (k_245_0 (by omega) hI rfl rfl q) (fun e u h => ?_) (fun v u h => ?_)
  · obtain ⟨rfl, t, hI2, hF2, rfl⟩ := h
    refine ⟨0, 11, by decide, rfl, rfl, fun a => ?_⟩
    refine g_astore_n 12 (gd rfl) rfl (Nat.le_of_ble_eq_true rfl) ?_
    refine g_iconst 1 13 (gd rfl) rfl rfl ?_
    exact g_ireturn (gd rfl) rfl rfl (hP _ _ ⟨_, A, t, rfl, rfl, rfl, rfl, rfl, hI2, fr_195' (fr_up hF2), (kl_fr q hF2 rfl)⟩)
  · obtain ⟨t, hI2, hF2, z, rfl, rfl⟩ := h
    show GG _ _ _ _ _ _ _ _ [.long z, .int (Int32.ofInt 0), .ref (A 195)] _ _ _
    refine g_ouS (A := A) 8 (gd rfl) rfl ?_
    refine g_goto 14 (gd rfl) rfl ?_
    refine g_iconst 0 15 (gd rfl) rfl rfl ?_
    exact g_ireturn (gd rfl) rfl rfl (hP _ _ ⟨_, A, sL t 195 0 _, rfl, rfl, rfl, rfl, rfl, inv_195 hI2, fr_195 (hF2), kl_195 ((kl_fr q hF2 rfl))⟩)

theorem w_31 {Z : AmZ} {A : Nat → Nat} {s : GS} {x1 : Int32} (hI : Inv s) (q : KL s) : WC Z 1300 31 [.ref (A 0), .int x1, .ref (A 195)] (WW Z A s ++ []) 3 18 (WPr Z A fm_246_0 s) := by
  intro post hP xp
  refine w_enter (k := 31) (d := 1299) (N := 60) rfl (Nat.le_of_ble_eq_true rfl) ?_
  refine g_aload_n 1 (gd rfl) rfl rfl ?_
  refine g_iconst 0 2 (gd rfl) rfl rfl ?_
  refine g_aload_n 3 (gd rfl) rfl rfl ?_
  refine g_iload_n 4 (gd rfl) rfl rfl ?_
  refine g_callvH (As := [.int x1]) (r := [.int (Int32.ofInt 0), .ref (A 195)]) (b := A 0) (q := 0) 7 (gd rfl) rfl rfl rfl rfl rfl rfl (ww_o rfl) (Nat.le_of_ble_eq_true rfl) (Nat.le_refl _) (Nat.le_refl _) (k_246_0 (by omega) hI ) (fun e u h => ?_) (fun v u h => ?_)
  · obtain ⟨rfl, t, hI2, hF2, rfl⟩ := h
    refine ⟨0, 19, by decide, rfl, rfl, fun a => ?_⟩
    refine g_astore_n 20 (gd rfl) rfl (Nat.le_of_ble_eq_true rfl) ?_
    refine g_iconst 1 21 (gd rfl) rfl rfl ?_
    exact g_ireturn (gd rfl) rfl rfl (hP _ _ ⟨_, A, t, rfl, rfl, rfl, rfl, rfl, hI2, fr_195' (hF2), (kl_fr q hF2 rfl)⟩)
  · obtain ⟨t, hI2, hF2, z, rfl, rfl, tl⟩ := h
    show GG _ _ _ _ _ _ _ _ [.int z, .int (Int32.ofInt 0), .ref (A 195)] _ _ _
    refine g_if_eq 10 14 (gd rfl) rfl rfl (fun c => ?_) (fun c => ?_)
    · refine g_lconst 0 15 (gd rfl) rfl rfl ?_
      refine g_ouS (A := A) 16 (gd rfl) rfl ?_
      refine g_goto 22 (gd rfl) rfl ?_
      refine g_iconst 0 23 (gd rfl) rfl rfl ?_
      exact g_ireturn (gd rfl) rfl rfl (hP _ _ ⟨_, A, sL t 195 0 _, rfl, rfl, rfl, rfl, rfl, inv_195 hI2, fr_195 (hF2), kl_195 ((kl_fr q hF2 rfl))⟩)
    · refine g_lconst 1 11 (gd rfl) rfl rfl ?_
      refine g_goto 15 (gd rfl) rfl ?_
      refine g_ouS (A := A) 16 (gd rfl) rfl ?_
      refine g_goto 22 (gd rfl) rfl ?_
      refine g_iconst 0 23 (gd rfl) rfl rfl ?_
      exact g_ireturn (gd rfl) rfl rfl (hP _ _ ⟨_, A, sL t 195 0 _, rfl, rfl, rfl, rfl, rfl, inv_195 hI2, fr_195 (hF2), kl_195 ((kl_fr q hF2 rfl))⟩)

theorem w_32 {Z : AmZ} {A : Nat → Nat} {s : GS} {x1 : Int32} {x2 : Int32} (hI : Inv s) (q : KL s) : WC Z 1300 32 [.ref (A 0), .int x1, .int x2, .ref (A 195)] (WW Z A s ++ []) 3 18 (WPr Z A fm_248_0 s) := by
  intro post hP xp
  refine w_enter (k := 32) (d := 1299) (N := 60) rfl (Nat.le_of_ble_eq_true rfl) ?_
  refine g_aload_n 1 (gd rfl) rfl rfl ?_
  refine g_iconst 0 2 (gd rfl) rfl rfl ?_
  refine g_aload_n 3 (gd rfl) rfl rfl ?_
  refine g_iload_n 4 (gd rfl) rfl rfl ?_
  refine g_iload_n 5 (gd rfl) rfl rfl ?_
  refine g_callvH (As := [.int x1, .int x2]) (r := [.int (Int32.ofInt 0), .ref (A 195)]) (b := A 0) (q := 0) 8 (gd rfl) rfl rfl rfl rfl rfl rfl (ww_o rfl) (Nat.le_of_ble_eq_true rfl) (Nat.le_refl _) (Nat.le_refl _) (k_248_0 (by omega) hI ) (fun e u h => ?_) (fun v u h => ?_)
  · obtain ⟨rfl, t, hI2, hF2, rfl⟩ := h
    refine ⟨0, 12, by decide, rfl, rfl, fun a => ?_⟩
    refine g_astore 14 (gd rfl) rfl (Nat.le_of_ble_eq_true rfl) ?_
    refine g_iconst 1 15 (gd rfl) rfl rfl ?_
    exact g_ireturn (gd rfl) rfl rfl (hP _ _ ⟨_, A, t, rfl, rfl, rfl, rfl, rfl, hI2, fr_195' (hF2), (kl_fr q hF2 rfl)⟩)
  · obtain ⟨xa, ya, t, hI2, hF2, z, rfl, rfl⟩ := h
    show GG _ _ _ _ _ _ _ _ [.long z, .int (Int32.ofInt 0), .ref (A 195)] _ _ _
    refine g_ouS (A := (a2 A xa ya)) 9 (gd rfl) rfl ?_
    refine g_goto 16 (gd rfl) rfl ?_
    refine g_iconst 0 17 (gd rfl) rfl rfl ?_
    exact g_ireturn (gd rfl) rfl rfl (hP _ _ ⟨_, (a2 A xa ya), sL t 195 0 _, rfl, rfl, (a2_ne (by decide) (by decide)), (a2_ne (by decide) (by decide)), (a2_ne (by decide) (by decide)), inv_195 hI2, fr_195 (hF2), kl_195 ((kl_fr q hF2 rfl))⟩)

theorem w_33 {Z : AmZ} {A : Nat → Nat} {s : GS} {x1 : Int32} {x2 : Int32} {x3 : Int32} {x4 : Int32} (hI : Inv s) (q : KL s) : WC Z 1300 33 [.ref (A 0), .int x1, .int x2, .int x3, .int x4, .ref (A 195)] (WW Z A s ++ []) 3 18 (WPr Z A fm_249_0 s) := by
  intro post hP xp
  refine w_enter (k := 33) (d := 1299) (N := 60) rfl (Nat.le_of_ble_eq_true rfl) ?_
  refine g_aload 2 (gd rfl) rfl rfl ?_
  refine g_iconst 0 3 (gd rfl) rfl rfl ?_
  refine g_aload_n 4 (gd rfl) rfl rfl ?_
  refine g_iload_n 5 (gd rfl) rfl rfl ?_
  refine g_iload_n 6 (gd rfl) rfl rfl ?_
  refine g_iload_n 7 (gd rfl) rfl rfl ?_
  refine g_iload 9 (gd rfl) rfl rfl ?_
  refine g_callvH (As := [.int x1, .int x2, .int x3, .int x4]) (r := [.int (Int32.ofInt 0), .ref (A 195)]) (b := A 0) (q := 0) 12 (gd rfl) rfl rfl rfl rfl rfl rfl (ww_o rfl) (Nat.le_of_ble_eq_true rfl) (Nat.le_refl _) (Nat.le_refl _) (k_249_0 (by omega) hI ) (fun e u h => ?_) (fun v u h => ?_)
  · obtain ⟨rfl, t, hI2, hF2, rfl⟩ := h
    refine ⟨0, 17, by decide, rfl, rfl, fun a => ?_⟩
    refine g_astore 19 (gd rfl) rfl (Nat.le_of_ble_eq_true rfl) ?_
    refine g_iconst 1 20 (gd rfl) rfl rfl ?_
    exact g_ireturn (gd rfl) rfl rfl (hP _ _ ⟨_, A, t, rfl, rfl, rfl, rfl, rfl, hI2, fr_195' (hF2), (kl_fr q hF2 rfl)⟩)
  · obtain ⟨t, hI2, hF2, z, rfl, rfl, tl⟩ := h
    show GG _ _ _ _ _ _ _ _ [.int z, .int (Int32.ofInt 0), .ref (A 195)] _ _ _
    refine g_i2l 13 (gd rfl) rfl (fun z12 e12 => ?_)
    refine g_ouS (A := A) 14 (gd rfl) rfl ?_
    refine g_goto 21 (gd rfl) rfl ?_
    refine g_iconst 0 22 (gd rfl) rfl rfl ?_
    exact g_ireturn (gd rfl) rfl rfl (hP _ _ ⟨_, A, sL t 195 0 _, rfl, rfl, rfl, rfl, rfl, inv_195 hI2, fr_195 (hF2), kl_195 ((kl_fr q hF2 rfl))⟩)

theorem w_34 {Z : AmZ} {A : Nat → Nat} {s : GS} {x1 : Int32} (hI : Inv s) (q : KL s) : WC Z 1300 34 [.ref (A 0), .int x1, .ref (A 195)] (WW Z A s ++ []) 3 18 (WPr Z A fm_250_0 s) := by
  intro post hP xp
  refine w_enter (k := 34) (d := 1299) (N := 60) rfl (Nat.le_of_ble_eq_true rfl) ?_
  refine g_aload_n 1 (gd rfl) rfl rfl ?_
  refine g_iconst 0 2 (gd rfl) rfl rfl ?_
  refine g_aload_n 3 (gd rfl) rfl rfl ?_
  refine g_iload_n 4 (gd rfl) rfl rfl ?_
  refine g_callvH (As := [.int x1]) (r := [.int (Int32.ofInt 0), .ref (A 195)]) (b := A 0) (q := 0) 7 (gd rfl) rfl rfl rfl rfl rfl rfl (ww_o rfl) (Nat.le_of_ble_eq_true rfl) (Nat.le_refl _) (Nat.le_refl _) (k_250_0 (by omega) hI ) (fun e u h => ?_) (fun v u h => ?_)
  · obtain ⟨rfl, t, hI2, hF2, rfl⟩ := h
    refine ⟨0, 12, by decide, rfl, rfl, fun a => ?_⟩
    refine g_astore_n 13 (gd rfl) rfl (Nat.le_of_ble_eq_true rfl) ?_
    refine g_iconst 1 14 (gd rfl) rfl rfl ?_
    exact g_ireturn (gd rfl) rfl rfl (hP _ _ ⟨_, A, t, rfl, rfl, rfl, rfl, rfl, hI2, fr_195' (hF2), (kl_fr q hF2 rfl)⟩)
  · obtain ⟨t, hI2, hF2, z, rfl, rfl, tl⟩ := h
    show GG _ _ _ _ _ _ _ _ [.int z, .int (Int32.ofInt 0), .ref (A 195)] _ _ _
    refine g_i2l 8 (gd rfl) rfl (fun z7 e7 => ?_)
    refine g_ouS (A := A) 9 (gd rfl) rfl ?_
    refine g_goto 15 (gd rfl) rfl ?_
    refine g_iconst 0 16 (gd rfl) rfl rfl ?_
    exact g_ireturn (gd rfl) rfl rfl (hP _ _ ⟨_, A, sL t 195 0 _, rfl, rfl, rfl, rfl, rfl, inv_195 hI2, fr_195 (hF2), kl_195 ((kl_fr q hF2 rfl))⟩)

theorem w_35 {Z : AmZ} {A : Nat → Nat} {s : GS} {x1 : Int32} (hI : Inv s) (q : KL s) : WC Z 1300 35 [.ref (A 0), .int x1, .ref (A 195)] (WW Z A s ++ []) 3 18 (WPr Z A fm_252_0 s) := by
  intro post hP xp
  refine w_enter (k := 35) (d := 1299) (N := 60) rfl (Nat.le_of_ble_eq_true rfl) ?_
  refine g_aload_n 1 (gd rfl) rfl rfl ?_
  refine g_iconst 0 2 (gd rfl) rfl rfl ?_
  refine g_aload_n 3 (gd rfl) rfl rfl ?_
  refine g_iload_n 4 (gd rfl) rfl rfl ?_
  refine g_callvH (As := [.int x1]) (r := [.int (Int32.ofInt 0), .ref (A 195)]) (b := A 0) (q := 0) 7 (gd rfl) rfl rfl rfl rfl rfl rfl (ww_o rfl) (Nat.le_of_ble_eq_true rfl) (Nat.le_refl _) (Nat.le_refl _) (k_252_0 (by omega) hI ) (fun e u h => ?_) (fun v u h => ?_)
  · obtain ⟨rfl, t, hI2, hF2, rfl⟩ := h
    refine ⟨0, 11, by decide, rfl, rfl, fun a => ?_⟩
    refine g_astore_n 12 (gd rfl) rfl (Nat.le_of_ble_eq_true rfl) ?_
    refine g_iconst 1 13 (gd rfl) rfl rfl ?_
    exact g_ireturn (gd rfl) rfl rfl (hP _ _ ⟨_, A, t, rfl, rfl, rfl, rfl, rfl, hI2, fr_195' (hF2), (kl_fr q hF2 rfl)⟩)
  · obtain ⟨t, hI2, hF2, z, rfl, rfl⟩ := h
    show GG _ _ _ _ _ _ _ _ [.long z, .int (Int32.ofInt 0), .ref (A 195)] _ _ _
    refine g_ouS (A := A) 8 (gd rfl) rfl ?_
    refine g_goto 14 (gd rfl) rfl ?_
    refine g_iconst 0 15 (gd rfl) rfl rfl ?_
    exact g_ireturn (gd rfl) rfl rfl (hP _ _ ⟨_, A, sL t 195 0 _, rfl, rfl, rfl, rfl, rfl, inv_195 hI2, fr_195 (hF2), kl_195 ((kl_fr q hF2 rfl))⟩)

theorem w_36 {Z : AmZ} {A : Nat → Nat} {s : GS} {x1 : Int32} {x2 : Int32} (hI : Inv s) (q : KL s) : WC Z 1300 36 [.ref (A 0), .int x1, .int x2, .ref (A 195)] (WW Z A s ++ []) 3 18 (WPr Z A fm_254_0 s) := by
  intro post hP xp
  refine w_enter (k := 36) (d := 1299) (N := 60) rfl (Nat.le_of_ble_eq_true rfl) ?_
  refine g_aload_n 1 (gd rfl) rfl rfl ?_
  refine g_iconst 0 2 (gd rfl) rfl rfl ?_
  refine g_aload_n 3 (gd rfl) rfl rfl ?_
  refine g_iload_n 4 (gd rfl) rfl rfl ?_
  refine g_iload_n 5 (gd rfl) rfl rfl ?_
  refine g_callvH (As := [.int x1, .int x2]) (r := [.int (Int32.ofInt 0), .ref (A 195)]) (b := A 0) (q := 0) 8 (gd rfl) rfl rfl rfl rfl rfl rfl (ww_o rfl) (Nat.le_of_ble_eq_true rfl) (Nat.le_refl _) (Nat.le_refl _) (k_254_0 (by omega) hI ) (fun e u h => ?_) (fun v u h => ?_)
  · obtain ⟨rfl, t, hI2, hF2, rfl⟩ := h
    refine ⟨0, 13, by decide, rfl, rfl, fun a => ?_⟩
    refine g_astore 15 (gd rfl) rfl (Nat.le_of_ble_eq_true rfl) ?_
    refine g_iconst 1 16 (gd rfl) rfl rfl ?_
    exact g_ireturn (gd rfl) rfl rfl (hP _ _ ⟨_, A, t, rfl, rfl, rfl, rfl, rfl, hI2, fr_195' (hF2), (kl_fr q hF2 rfl)⟩)
  · obtain ⟨t, hI2, hF2, z, rfl, rfl, tl⟩ := h
    show GG _ _ _ _ _ _ _ _ [.int z, .int (Int32.ofInt 0), .ref (A 195)] _ _ _
    refine g_i2l 9 (gd rfl) rfl (fun z8 e8 => ?_)
    refine g_ouS (A := A) 10 (gd rfl) rfl ?_
    refine g_goto 17 (gd rfl) rfl ?_
    refine g_iconst 0 18 (gd rfl) rfl rfl ?_
    exact g_ireturn (gd rfl) rfl rfl (hP _ _ ⟨_, A, sL t 195 0 _, rfl, rfl, rfl, rfl, rfl, inv_195 hI2, fr_195 (hF2), kl_195 ((kl_fr q hF2 rfl))⟩)

theorem w_37 {Z : AmZ} {A : Nat → Nat} {s : GS} {x1 : Int32} {x2 : Int32} {x3 : Int32} {x4 : Int64} (hI : Inv s) (q : KL s) : WC Z 1300 37 [.ref (A 0), .int x1, .int x2, .int x3, .long x4, .ref (A 195)] (WW Z A s ++ []) 3 18 (WPr Z A fm_256_0 s) := by
  intro post hP xp
  refine w_enter (k := 37) (d := 1299) (N := 60) rfl (Nat.le_of_ble_eq_true rfl) ?_
  refine g_aload 2 (gd rfl) rfl rfl ?_
  refine g_iconst 0 3 (gd rfl) rfl rfl ?_
  refine g_aload_n 4 (gd rfl) rfl rfl ?_
  refine g_iload_n 5 (gd rfl) rfl rfl ?_
  refine g_iload_n 6 (gd rfl) rfl rfl ?_
  refine g_iload_n 7 (gd rfl) rfl rfl ?_
  refine g_lload 9 (gd rfl) rfl rfl ?_
  refine g_callvH (As := [.int x1, .int x2, .int x3, .long x4]) (r := [.int (Int32.ofInt 0), .ref (A 195)]) (b := A 0) (q := 0) 12 (gd rfl) rfl rfl rfl rfl rfl rfl (ww_o rfl) (Nat.le_of_ble_eq_true rfl) (Nat.le_refl _) (Nat.le_refl _) (k_256_0 (by omega) hI ) (fun e u h => ?_) (fun v u h => ?_)
  · obtain ⟨rfl, t, hI2, hF2, rfl⟩ := h
    refine ⟨0, 17, by decide, rfl, rfl, fun a => ?_⟩
    refine g_astore 19 (gd rfl) rfl (Nat.le_of_ble_eq_true rfl) ?_
    refine g_iconst 1 20 (gd rfl) rfl rfl ?_
    exact g_ireturn (gd rfl) rfl rfl (hP _ _ ⟨_, A, t, rfl, rfl, rfl, rfl, rfl, hI2, fr_195' (hF2), (kl_fr q hF2 rfl)⟩)
  · obtain ⟨t, hI2, hF2, z, rfl, rfl, tl⟩ := h
    show GG _ _ _ _ _ _ _ _ [.int z, .int (Int32.ofInt 0), .ref (A 195)] _ _ _
    refine g_i2l 13 (gd rfl) rfl (fun z12 e12 => ?_)
    refine g_ouS (A := A) 14 (gd rfl) rfl ?_
    refine g_goto 21 (gd rfl) rfl ?_
    refine g_iconst 0 22 (gd rfl) rfl rfl ?_
    exact g_ireturn (gd rfl) rfl rfl (hP _ _ ⟨_, A, sL t 195 0 _, rfl, rfl, rfl, rfl, rfl, inv_195 hI2, fr_195 (hF2), kl_195 ((kl_fr q hF2 rfl))⟩)

theorem w_38 {Z : AmZ} {A : Nat → Nat} {s : GS} {x1 : Int32} (hI : Inv s) (q : KL s) : WC Z 1300 38 [.ref (A 0), .int x1, .ref (A 195)] (WW Z A s ++ []) 3 18 (WPr Z A fm_257_0 s) := by
  intro post hP xp
  refine w_enter (k := 38) (d := 1299) (N := 60) rfl (Nat.le_of_ble_eq_true rfl) ?_
  refine g_aload_n 1 (gd rfl) rfl rfl ?_
  refine g_iconst 0 2 (gd rfl) rfl rfl ?_
  refine g_aload_n 3 (gd rfl) rfl rfl ?_
  refine g_iload_n 4 (gd rfl) rfl rfl ?_
  refine g_callvH (As := [.int x1]) (r := [.int (Int32.ofInt 0), .ref (A 195)]) (b := A 0) (q := 0) 7 (gd rfl) rfl rfl rfl rfl rfl rfl (ww_o rfl) (Nat.le_of_ble_eq_true rfl) (Nat.le_refl _) (Nat.le_refl _) (k_257_0 (by omega) hI ) (fun e u h => ?_) (fun v u h => ?_)
  · obtain ⟨rfl, t, hI2, hF2, rfl⟩ := h
    refine ⟨0, 11, by decide, rfl, rfl, fun a => ?_⟩
    refine g_astore_n 12 (gd rfl) rfl (Nat.le_of_ble_eq_true rfl) ?_
    refine g_iconst 1 13 (gd rfl) rfl rfl ?_
    exact g_ireturn (gd rfl) rfl rfl (hP _ _ ⟨_, A, t, rfl, rfl, rfl, rfl, rfl, hI2, fr_195' (hF2), (kl_fr q hF2 rfl)⟩)
  · obtain ⟨t, hI2, hF2, z, rfl, rfl⟩ := h
    show GG _ _ _ _ _ _ _ _ [.long z, .int (Int32.ofInt 0), .ref (A 195)] _ _ _
    refine g_ouS (A := A) 8 (gd rfl) rfl ?_
    refine g_goto 14 (gd rfl) rfl ?_
    refine g_iconst 0 15 (gd rfl) rfl rfl ?_
    exact g_ireturn (gd rfl) rfl rfl (hP _ _ ⟨_, A, sL t 195 0 _, rfl, rfl, rfl, rfl, rfl, inv_195 hI2, fr_195 (hF2), kl_195 ((kl_fr q hF2 rfl))⟩)

theorem w_39 {Z : AmZ} {A : Nat → Nat} {s : GS} {x1 : Int32} (hI : Inv s) (q : KL s) : WC Z 1300 39 [.ref (A 0), .int x1, .ref (A 195)] (WW Z A s ++ []) 3 18 (WPr Z A fm_258_0 s) := by
  intro post hP xp
  refine w_enter (k := 39) (d := 1299) (N := 60) rfl (Nat.le_of_ble_eq_true rfl) ?_
  refine g_aload_n 1 (gd rfl) rfl rfl ?_
  refine g_iconst 0 2 (gd rfl) rfl rfl ?_
  refine g_aload_n 3 (gd rfl) rfl rfl ?_
  refine g_iload_n 4 (gd rfl) rfl rfl ?_
  refine g_callvH (As := [.int x1]) (r := [.int (Int32.ofInt 0), .ref (A 195)]) (b := A 0) (q := 0) 7 (gd rfl) rfl rfl rfl rfl rfl rfl (ww_o rfl) (Nat.le_of_ble_eq_true rfl) (Nat.le_refl _) (Nat.le_refl _) (k_258_0 (by omega) hI ) (fun e u h => ?_) (fun v u h => ?_)
  · obtain ⟨rfl, t, hI2, hF2, rfl⟩ := h
    refine ⟨0, 12, by decide, rfl, rfl, fun a => ?_⟩
    refine g_astore_n 13 (gd rfl) rfl (Nat.le_of_ble_eq_true rfl) ?_
    refine g_iconst 1 14 (gd rfl) rfl rfl ?_
    exact g_ireturn (gd rfl) rfl rfl (hP _ _ ⟨_, A, t, rfl, rfl, rfl, rfl, rfl, hI2, fr_195' (hF2), (kl_fr q hF2 rfl)⟩)
  · obtain ⟨t, hI2, hF2, z, rfl, rfl, tl⟩ := h
    show GG _ _ _ _ _ _ _ _ [.int z, .int (Int32.ofInt 0), .ref (A 195)] _ _ _
    refine g_i2l 8 (gd rfl) rfl (fun z7 e7 => ?_)
    refine g_ouS (A := A) 9 (gd rfl) rfl ?_
    refine g_goto 15 (gd rfl) rfl ?_
    refine g_iconst 0 16 (gd rfl) rfl rfl ?_
    exact g_ireturn (gd rfl) rfl rfl (hP _ _ ⟨_, A, sL t 195 0 _, rfl, rfl, rfl, rfl, rfl, inv_195 hI2, fr_195 (hF2), kl_195 ((kl_fr q hF2 rfl))⟩)
