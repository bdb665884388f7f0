/-! methods, by vc.py -/
def fm_60_102_46 : FM := ([104], [], [(46, 2), (46, 3), (46, 4), (46, 5), (46, 6), (46, 7), (102, 4)], [])
def fm_59_102_46 : FM := ([104], [], [(46, 2), (46, 3), (46, 4), (46, 5), (46, 6), (46, 7), (102, 4)], [])
def fm_58_102_46 : FM := ([104], [], [(46, 2), (46, 3), (46, 4), (46, 5), (46, 6), (46, 7), (102, 4)], [])
def fm_61_102_46 : FM := ([104], [], [(46, 2), (46, 3), (46, 4), (46, 5), (46, 6), (46, 7), (102, 4)], [])
theorem k_60_102_46_r {Z : AmZ} {A : Nat → Nat} {ex : va_W} (kk : Nat) (ih : ∀ {s : GS} {d : Nat} {X : AmX} {x2 : Int32} {u_46_2 : Int32} {u_46_1 : Int32} {u_46_4 : Int32} {u_46_3 : Int32} {u_46_5 : Int32} {u_102_4 : Int32}, 60 + kk * 20 ≤ d → Inv s → (In x2 0 10) → (u_46_2 = s.2.2.1 46 2) → (u_46_1 = s.2.2.1 46 1) → (u_46_4 = s.2.2.1 46 4) → (u_46_3 = s.2.2.1 46 3) → (u_46_5 = s.2.2.1 46 5) → (u_102_4 = s.2.2.1 102 4) → (In u_46_1 0 120) → ((u_46_2).toInt ≤ (u_46_1).toInt) → ((u_46_4).toInt ≤ (u_46_2).toInt) → ((u_102_4).toInt ≤ (u_46_4).toInt) → (TK s) → 10 - (x2).toInt < ((kk : Nat) : Int) → GC Z d 61 [.ref (A 102), .ref (A 46), .int x2] (WW Z A s ++ ex) 0 0 (fun v u => ∃ t : GS, Inv t ∧ Fr fm_61_102_46 s t ∧ ((t.2.2.1 46 2).toInt ≤ (t.2.2.1 46 1).toInt) ∧ ((t.2.2.1 46 4).toInt ≤ (t.2.2.1 46 2).toInt) ∧ ((t.2.2.1 102 4).toInt ≤ (t.2.2.1 46 4).toInt) ∧ ((s.2.2.1 46 4).toInt - (s.2.2.1 102 4).toInt ≤ (t.2.2.1 46 4).toInt - (t.2.2.1 102 4).toInt) ∧ ∃ z : Int32, v = some (.int z) ∧ u = WW Z A t ++ ex ∧ In z 0 1 ∧ (TK t) ∧ ((z).toInt ≠ 0 → PCV s t 1)) X) : ∀ {s : GS} {d : Nat} {X : AmX} {x2 : Int32} {u_46_2 : Int32} {u_46_1 : Int32} {u_46_4 : Int32} {u_46_3 : Int32} {u_46_5 : Int32} {u_102_4 : Int32}, 65 + kk * 20 ≤ d → Inv s → (In x2 0 10) → (u_46_2 = s.2.2.1 46 2) → (u_46_1 = s.2.2.1 46 1) → (u_46_4 = s.2.2.1 46 4) → (u_46_3 = s.2.2.1 46 3) → (u_46_5 = s.2.2.1 46 5) → (u_102_4 = s.2.2.1 102 4) → (In u_46_1 0 120) → ((u_46_2).toInt ≤ (u_46_1).toInt) → ((u_46_4).toInt ≤ (u_46_2).toInt) → ((u_102_4).toInt ≤ (u_46_4).toInt) → (TK s) → 10 - (x2).toInt < ((kk : Nat) : Int) → GC Z d 60 [.ref (A 102), .ref (A 46), .int x2] (WW Z A s ++ ex) 0 0 (fun v u => ∃ t : GS, Inv t ∧ Fr fm_60_102_46 s t ∧ ((t.2.2.1 46 2).toInt ≤ (t.2.2.1 46 1).toInt) ∧ ((t.2.2.1 46 4).toInt ≤ (t.2.2.1 46 2).toInt) ∧ ((t.2.2.1 102 4).toInt ≤ (t.2.2.1 46 4).toInt) ∧ ((s.2.2.1 46 4).toInt - (s.2.2.1 102 4).toInt ≤ (t.2.2.1 46 4).toInt - (t.2.2.1 102 4).toInt) ∧ ∃ z : Int32, v = some (.int z) ∧ u = WW Z A t ++ ex ∧ In z 0 1 ∧ (TK t) ∧ ((z).toInt ≠ 0 → PCV s t 1)) X := by
  intro s d X x2 u_46_2 u_46_1 u_46_4 u_46_3 u_46_5 u_102_4 hd hI h2 e_46_2 e_46_1 e_46_4 e_46_3 e_46_5 e_102_4 r_46_1 p_0 p_1 p_2 q_0 hm
  intro post xp hP hX
  have ct13 : ∀ (k13 : Nat) (sc13 : GS) (y13_3 : Int32) (w13_46_2 : Int32) (w13_46_4 : Int32) (w13_46_3 : Int32) (w13_46_5 : Int32) (w13_102_4 : Int32), Inv sc13 → Fr fm_60_102_46 s sc13 → (In y13_3 0 120) → (w13_46_2 = sc13.2.2.1 46 2) → (w13_46_4 = sc13.2.2.1 46 4) → (w13_46_3 = sc13.2.2.1 46 3) → (w13_46_5 = sc13.2.2.1 46 5) → (w13_102_4 = sc13.2.2.1 102 4) → ((w13_46_2).toInt ≤ (u_46_1).toInt) → ((w13_46_4).toInt ≤ (w13_46_2).toInt) → ((w13_102_4).toInt ≤ (w13_46_4).toInt) → ((u_46_4).toInt - (u_102_4).toInt ≤ (w13_46_4).toInt - (w13_102_4).toInt) → (PCV s sc13 1) → (TK sc13) → 120 - (y13_3).toInt < (k13 : Int) → GG Z (d - 1) 60 post (gx xp) (1 + k13 * 900) 13 (fun j => xlook j [(0, .ref (A 102)), (1, .ref (A 46)), (2, .int x2), (3, .int y13_3)]) [] (WW Z A sc13 ++ ex) 0 0 := by
    intro k13
    induction k13 with
    | zero => intro sc13 y13_3 w13_46_2 w13_46_4 w13_46_3 w13_46_5 w13_102_4 hIc13 hFc13 j13_3 v13_46_2 v13_46_4 v13_46_3 v13_46_5 v13_102_4 n13_0 n13_1 n13_2 n13_3 g13_0 g13_1 mm13; exact m_no mm13 j13_3 rfl
    | succ k13 ih13 =>
      intro sc13 y13_3 w13_46_2 w13_46_4 w13_46_3 w13_46_5 w13_102_4 hIc13 hFc13 j13_3 v13_46_2 v13_46_4 v13_46_3 v13_46_5 v13_102_4 n13_0 n13_1 n13_2 n13_3 g13_0 g13_1 mm13
      refine gg_w (M := 1 + k13 * 900 + 900) gws ?_
      refine g_iload_n 14 (gd rfl) rfl rfl ?_
      refine g_bipush 120 16 (gd rfl) rfl rfl ?_
      refine g_cmp_ge 19 59 (gd rfl) rfl rfl (fun c16 => ?_) (fun c16 => ?_)
      · skip
        have i16 := r_le2 120 120 c16 (in_c 120 rfl) j13_3 rfl
        refine g_iconst 1 60 (gd rfl) rfl rfl ?_
        have n60 : TK sc13 := by first | exact g13_1 | exact p38a | exact p3a
        have n60a : ((Int32.ofInt 1)).toInt ≠ 0 → PCV s sc13 1 := by first | (intro _; exact g13_0) | (intro h; exact absurd rfl h)
        have n60b : (w13_46_2).toInt ≤ (u_46_1).toInt := by first | exact n13_0 | (have a0 := in_u h2; have a1 := in_u r_46_1; have a2 := in_u ((inv_F hIc13 0 120 rfl v13_102_4)); have a3 := in_u ((inv_F hIc13 0 5 rfl v13_46_3)); have a4 := in_u ((inv_F hIc13 0 1000 rfl v13_46_4)); have a5 := in_u ((inv_F hIc13 0 1000 rfl v13_46_2)); have a6 := in_u i16; omega)
        have n60c : (sc13.2.2.1 46 2).toInt ≤ (sc13.2.2.1 46 1).toInt := by have b0 : w13_46_2 = sc13.2.2.1 46 2 := v13_46_2; have b1 : u_46_1 = sc13.2.2.1 46 1 := fr_F e_46_1 hFc13 rfl; rw [← b0, ← b1]; exact n60b
        have n60d : (w13_46_4).toInt ≤ (w13_46_2).toInt := by first | exact n13_1 | (have a0 := in_u h2; have a1 := in_u r_46_1; have a2 := in_u ((inv_F hIc13 0 120 rfl v13_102_4)); have a3 := in_u ((inv_F hIc13 0 5 rfl v13_46_3)); have a4 := in_u ((inv_F hIc13 0 1000 rfl v13_46_4)); have a5 := in_u ((inv_F hIc13 0 1000 rfl v13_46_2)); have a6 := in_u i16; omega)
        have n60e : (sc13.2.2.1 46 4).toInt ≤ (sc13.2.2.1 46 2).toInt := by have b0 : w13_46_4 = sc13.2.2.1 46 4 := v13_46_4; have b1 : w13_46_2 = sc13.2.2.1 46 2 := v13_46_2; rw [← b0, ← b1]; exact n60d
        have n60f : (w13_102_4).toInt ≤ (w13_46_4).toInt := by first | exact n13_2 | (have a0 := in_u h2; have a1 := in_u r_46_1; have a2 := in_u ((inv_F hIc13 0 120 rfl v13_102_4)); have a3 := in_u ((inv_F hIc13 0 5 rfl v13_46_3)); have a4 := in_u ((inv_F hIc13 0 1000 rfl v13_46_4)); have a5 := in_u ((inv_F hIc13 0 1000 rfl v13_46_2)); have a6 := in_u i16; omega)
        have n60g : (sc13.2.2.1 102 4).toInt ≤ (sc13.2.2.1 46 4).toInt := by have b0 : w13_102_4 = sc13.2.2.1 102 4 := v13_102_4; have b1 : w13_46_4 = sc13.2.2.1 46 4 := v13_46_4; rw [← b0, ← b1]; exact n60f
        have n60h : (u_46_4).toInt - (u_102_4).toInt ≤ (w13_46_4).toInt - (w13_102_4).toInt := by first | exact n13_3 | (have a0 := in_u h2; have a1 := in_u r_46_1; have a2 := in_u ((inv_F hIc13 0 120 rfl v13_102_4)); have a3 := in_u ((inv_F hIc13 0 5 rfl v13_46_3)); have a4 := in_u ((inv_F hIc13 0 1000 rfl v13_46_4)); have a5 := in_u ((inv_F hIc13 0 1000 rfl v13_46_2)); have a6 := in_u i16; omega)
        have n60i : (s.2.2.1 46 4).toInt - (s.2.2.1 102 4).toInt ≤ (sc13.2.2.1 46 4).toInt - (sc13.2.2.1 102 4).toInt := by have b0 : w13_46_4 = sc13.2.2.1 46 4 := v13_46_4; have b1 : w13_102_4 = sc13.2.2.1 102 4 := v13_102_4; first | (rw [← b0, ← b1, ← e_46_4, ← e_102_4]; exact n60h) | (rw [← b0, ← b1]; exact n60h)
        exact g_ireturn (gd rfl) rfl (nb01 (in_w 0 1 (in_c 1 rfl) rfl)) (hP _ _ ⟨sc13, hIc13, hFc13, n60c, n60e, n60g, n60i, (Int32.ofInt 1), rfl, rfl, in_w 0 1 (in_c 1 rfl) rfl, n60, n60a⟩)
      · skip
        have i16 := r_lt1 0 119 c16 j13_3 (in_c 120 rfl) rfl
        refine g_aload_n 20 (gd rfl) rfl rfl ?_
        refine g_bipush 42 22 (gd rfl) rfl rfl ?_
        refine g_callv (X := _) (As := [.int (Int32.ofInt 42)]) (r := []) (b := A 46) (q := 46) 25 (gd rfl) rfl rfl rfl rfl rfl (ww_o rfl) (Nat.le_of_ble_eq_true rfl) (mc := 0) (ms := 0) (Nat.zero_le _) (Nat.zero_le _) (P := fun v u => _) ?_ (fun e u h => h) (fun v u h => h)
        intro po22 xx22 hp22 hx22
        refine g_enter2 (k := 170) (N := 300) (by first | exact dq1 hd rfl | exact dq0 hd rfl | exact dq2 hd rfl | exact dq3 hd rfl | omega) rfl (Nat.le_of_ble_eq_true rfl) ?_
        refine g_aload_n 1 (gd rfl) rfl rfl ?_
        refine g_getI 4 (gd rfl) rfl rfl rfl (fun z22x1 e22x1 => ?_)
        have q22x1 : w13_46_3 = z22x1 := (v13_46_3).trans e22x1.symm
        subst q22x1
        refine g_iconst 3 5 (gd rfl) rfl rfl ?_
        refine g_cmp_ne 8 20 (gd rfl) rfl rfl (fun c22x5 => ?_) (fun c22x5 => ?_)
        · skip
          refine g_iconst 0 21 (gd rfl) rfl rfl ?_
          refine g_ireturn (gd rfl) rfl (nb01 (in_w 0 1 (in_c 0 rfl) rfl)) (hp22 _ _ ?_)
          show GG _ _ _ _ _ _ _ _ [.int (Int32.ofInt 0)] _ _ _
          refine g_if_eq 28 59 (gd rfl) rfl rfl (fun c25 => ?_) (fun c25 => ?_)
          · skip
            refine g_iconst 1 60 (gd rfl) rfl rfl ?_
            have n60 : TK sc13 := by first | exact g13_1 | exact p38a | exact p3a
            have n60a : ((Int32.ofInt 1)).toInt ≠ 0 → PCV s sc13 1 := by first | (intro _; exact g13_0) | (intro h; exact absurd rfl h)
            have n60b : (w13_46_2).toInt ≤ (u_46_1).toInt := by first | exact n13_0 | (have a0 := in_u h2; have a1 := in_u r_46_1; have a2 := in_u ((inv_F hIc13 0 120 rfl v13_102_4)); have a3 := in_u ((inv_F hIc13 0 5 rfl v13_46_3)); have a4 := in_u ((inv_F hIc13 0 1000 rfl v13_46_4)); have a5 := in_u ((inv_F hIc13 0 1000 rfl v13_46_2)); have a6 := in_u i16; omega)
            have n60c : (sc13.2.2.1 46 2).toInt ≤ (sc13.2.2.1 46 1).toInt := by have b0 : w13_46_2 = sc13.2.2.1 46 2 := v13_46_2; have b1 : u_46_1 = sc13.2.2.1 46 1 := fr_F e_46_1 hFc13 rfl; rw [← b0, ← b1]; exact n60b
            have n60d : (w13_46_4).toInt ≤ (w13_46_2).toInt := by first | exact n13_1 | (have a0 := in_u h2; have a1 := in_u r_46_1; have a2 := in_u ((inv_F hIc13 0 120 rfl v13_102_4)); have a3 := in_u ((inv_F hIc13 0 5 rfl v13_46_3)); have a4 := in_u ((inv_F hIc13 0 1000 rfl v13_46_4)); have a5 := in_u ((inv_F hIc13 0 1000 rfl v13_46_2)); have a6 := in_u i16; omega)
            have n60e : (sc13.2.2.1 46 4).toInt ≤ (sc13.2.2.1 46 2).toInt := by have b0 : w13_46_4 = sc13.2.2.1 46 4 := v13_46_4; have b1 : w13_46_2 = sc13.2.2.1 46 2 := v13_46_2; rw [← b0, ← b1]; exact n60d
            have n60f : (w13_102_4).toInt ≤ (w13_46_4).toInt := by first | exact n13_2 | (have a0 := in_u h2; have a1 := in_u r_46_1; have a2 := in_u ((inv_F hIc13 0 120 rfl v13_102_4)); have a3 := in_u ((inv_F hIc13 0 5 rfl v13_46_3)); have a4 := in_u ((inv_F hIc13 0 1000 rfl v13_46_4)); have a5 := in_u ((inv_F hIc13 0 1000 rfl v13_46_2)); have a6 := in_u i16; omega)
            have n60g : (sc13.2.2.1 102 4).toInt ≤ (sc13.2.2.1 46 4).toInt := by have b0 : w13_102_4 = sc13.2.2.1 102 4 := v13_102_4; have b1 : w13_46_4 = sc13.2.2.1 46 4 := v13_46_4; rw [← b0, ← b1]; exact n60f
            have n60h : (u_46_4).toInt - (u_102_4).toInt ≤ (w13_46_4).toInt - (w13_102_4).toInt := by first | exact n13_3 | (have a0 := in_u h2; have a1 := in_u r_46_1; have a2 := in_u ((inv_F hIc13 0 120 rfl v13_102_4)); have a3 := in_u ((inv_F hIc13 0 5 rfl v13_46_3)); have a4 := in_u ((inv_F hIc13 0 1000 rfl v13_46_4)); have a5 := in_u ((inv_F hIc13 0 1000 rfl v13_46_2)); have a6 := in_u i16; omega)
            have n60i : (s.2.2.1 46 4).toInt - (s.2.2.1 102 4).toInt ≤ (sc13.2.2.1 46 4).toInt - (sc13.2.2.1 102 4).toInt := by have b0 : w13_46_4 = sc13.2.2.1 46 4 := v13_46_4; have b1 : w13_102_4 = sc13.2.2.1 102 4 := v13_102_4; first | (rw [← b0, ← b1, ← e_46_4, ← e_102_4]; exact n60h) | (rw [← b0, ← b1]; exact n60h)
            exact g_ireturn (gd rfl) rfl (nb01 (in_w 0 1 (in_c 1 rfl) rfl)) (hP _ _ ⟨sc13, hIc13, hFc13, n60c, n60e, n60g, n60i, (Int32.ofInt 1), rfl, rfl, in_w 0 1 (in_c 1 rfl) rfl, n60, n60a⟩)
          · skip
            exact zn_ne c25 (in_c 0 rfl) rfl
        · skip
          have i22x5 := r_eq1 3 3 c22x5 (inv_F hIc13 0 5 rfl v13_46_3) (in_c 3 rfl) rfl
          refine g_aload_n 9 (gd rfl) rfl rfl ?_
          refine g_getI 12 (gd rfl) rfl rfl rfl (fun z22x9 e22x9 => ?_)
          have q22x9 : w13_46_5 = z22x9 := (v13_46_5).trans e22x9.symm
          subst q22x9
          refine g_iload_n 13 (gd rfl) rfl rfl ?_
          refine g_cmp_ne 16 20 (gd rfl) rfl rfl (fun c22x13 => ?_) (fun c22x13 => ?_)
          · skip
            refine g_iconst 0 21 (gd rfl) rfl rfl ?_
            refine g_ireturn (gd rfl) rfl (nb01 (in_w 0 1 (in_c 0 rfl) rfl)) (hp22 _ _ ?_)
            show GG _ _ _ _ _ _ _ _ [.int (Int32.ofInt 0)] _ _ _
            refine g_if_eq 28 59 (gd rfl) rfl rfl (fun c25 => ?_) (fun c25 => ?_)
            · skip
              refine g_iconst 1 60 (gd rfl) rfl rfl ?_
              have n60 : TK sc13 := by first | exact g13_1 | exact p38a | exact p3a
              have n60a : ((Int32.ofInt 1)).toInt ≠ 0 → PCV s sc13 1 := by first | (intro _; exact g13_0) | (intro h; exact absurd rfl h)
              have n60b : (w13_46_2).toInt ≤ (u_46_1).toInt := by first | exact n13_0 | (have a0 := in_u h2; have a1 := in_u r_46_1; have a2 := in_u ((inv_F hIc13 0 120 rfl v13_102_4)); have a3 := in_u i22x5; have a4 := in_u ((inv_F hIc13 0 1000 rfl v13_46_4)); have a5 := in_u ((inv_F hIc13 0 1000 rfl v13_46_2)); have a6 := in_u i16; omega)
              have n60c : (sc13.2.2.1 46 2).toInt ≤ (sc13.2.2.1 46 1).toInt := by have b0 : w13_46_2 = sc13.2.2.1 46 2 := v13_46_2; have b1 : u_46_1 = sc13.2.2.1 46 1 := fr_F e_46_1 hFc13 rfl; rw [← b0, ← b1]; exact n60b
              have n60d : (w13_46_4).toInt ≤ (w13_46_2).toInt := by first | exact n13_1 | (have a0 := in_u h2; have a1 := in_u r_46_1; have a2 := in_u ((inv_F hIc13 0 120 rfl v13_102_4)); have a3 := in_u i22x5; have a4 := in_u ((inv_F hIc13 0 1000 rfl v13_46_4)); have a5 := in_u ((inv_F hIc13 0 1000 rfl v13_46_2)); have a6 := in_u i16; omega)
              have n60e : (sc13.2.2.1 46 4).toInt ≤ (sc13.2.2.1 46 2).toInt := by have b0 : w13_46_4 = sc13.2.2.1 46 4 := v13_46_4; have b1 : w13_46_2 = sc13.2.2.1 46 2 := v13_46_2; rw [← b0, ← b1]; exact n60d
              have n60f : (w13_102_4).toInt ≤ (w13_46_4).toInt := by first | exact n13_2 | (have a0 := in_u h2; have a1 := in_u r_46_1; have a2 := in_u ((inv_F hIc13 0 120 rfl v13_102_4)); have a3 := in_u i22x5; have a4 := in_u ((inv_F hIc13 0 1000 rfl v13_46_4)); have a5 := in_u ((inv_F hIc13 0 1000 rfl v13_46_2)); have a6 := in_u i16; omega)
              have n60g : (sc13.2.2.1 102 4).toInt ≤ (sc13.2.2.1 46 4).toInt := by have b0 : w13_102_4 = sc13.2.2.1 102 4 := v13_102_4; have b1 : w13_46_4 = sc13.2.2.1 46 4 := v13_46_4; rw [← b0, ← b1]; exact n60f
              have n60h : (u_46_4).toInt - (u_102_4).toInt ≤ (w13_46_4).toInt - (w13_102_4).toInt := by first | exact n13_3 | (have a0 := in_u h2; have a1 := in_u r_46_1; have a2 := in_u ((inv_F hIc13 0 120 rfl v13_102_4)); have a3 := in_u i22x5; have a4 := in_u ((inv_F hIc13 0 1000 rfl v13_46_4)); have a5 := in_u ((inv_F hIc13 0 1000 rfl v13_46_2)); have a6 := in_u i16; omega)
              have n60i : (s.2.2.1 46 4).toInt - (s.2.2.1 102 4).toInt ≤ (sc13.2.2.1 46 4).toInt - (sc13.2.2.1 102 4).toInt := by have b0 : w13_46_4 = sc13.2.2.1 46 4 := v13_46_4; have b1 : w13_102_4 = sc13.2.2.1 102 4 := v13_102_4; first | (rw [← b0, ← b1, ← e_46_4, ← e_102_4]; exact n60h) | (rw [← b0, ← b1]; exact n60h)
              exact g_ireturn (gd rfl) rfl (nb01 (in_w 0 1 (in_c 1 rfl) rfl)) (hP _ _ ⟨sc13, hIc13, hFc13, n60c, n60e, n60g, n60i, (Int32.ofInt 1), rfl, rfl, in_w 0 1 (in_c 1 rfl) rfl, n60, n60a⟩)
            · skip
              exact zn_ne c25 (in_c 0 rfl) rfl
          · skip
            have i22x13 := r_eq1 42 42 c22x13 (inv_F hIc13 (-2147483648) 2147483647 rfl v13_46_5) (in_c 42 rfl) rfl
            refine g_iconst 1 17 (gd rfl) rfl rfl ?_
            refine g_goto 21 (gd rfl) rfl ?_
            refine g_ireturn (gd rfl) rfl (nb01 (in_w 0 1 (in_c 1 rfl) rfl)) (hp22 _ _ ?_)
            show GG _ _ _ _ _ _ _ _ [.int (Int32.ofInt 1)] _ _ _
            refine g_if_eq 28 59 (gd rfl) rfl rfl (fun c25 => ?_) (fun c25 => ?_)
            · skip
              exact zn_eq c25 (in_c 1 rfl) rfl
            · skip
              refine g_aload_n 29 (gd rfl) rfl rfl ?_
              refine g_bipush 6 31 (gd rfl) rfl rfl ?_
              refine g_iconst 0 32 (gd rfl) rfl rfl ?_
              have hk := tka_1 g13_1 (show w13_46_3 = sc13.2.2.1 46 3 from v13_46_3) (show w13_46_4 = sc13.2.2.1 46 4 from v13_46_4) (show w13_46_2 = sc13.2.2.1 46 2 from v13_46_2) (by have a0 := in_u h2; have a1 := in_u r_46_1; have a2 := in_u ((inv_F hIc13 0 120 rfl v13_102_4)); have a3 := in_u i22x13; have a4 := in_u i22x5; have a5 := in_u ((inv_F hIc13 0 1000 rfl v13_46_4)); have a6 := in_u ((inv_F hIc13 0 1000 rfl v13_46_2)); have a7 := in_u i16; omega)
              have v32 : u_46_1 = sc13.2.2.1 46 1 := fr_F e_46_1 hFc13 rfl
              have n32 : (w13_46_2).toInt ≤ (u_46_1).toInt := by first | exact n13_0 | (have a0 := in_u h2; have a1 := in_u r_46_1; have a2 := in_u ((inv_F hIc13 0 120 rfl v13_102_4)); have a3 := in_u i22x13; have a4 := in_u i22x5; have a5 := in_u ((inv_F hIc13 0 1000 rfl v13_46_4)); have a6 := in_u ((inv_F hIc13 0 1000 rfl v13_46_2)); have a7 := in_u i16; omega)
              refine g_callv (X := _) (As := [.int (Int32.ofInt 6), .int (Int32.ofInt 0)]) (r := []) (b := A 46) (q := 46) 35 (gd rfl) rfl rfl rfl rfl rfl (ww_o rfl) (Nat.le_of_ble_eq_true rfl) (Nat.zero_le _) (Nat.zero_le _) (k_171_46 (by first | exact dq1 hd rfl | exact dq0 hd rfl | exact dq2 hd rfl | exact dq3 hd rfl | omega) hIc13 (in_w 6 7 (in_c 6 rfl) rfl) (in_w 0 1 (in_c 0 rfl) rfl) v13_46_2 v32 n32) (fun e u h => h) (fun v u h => ?_)
              obtain ⟨s32, hI32, hF32, n32a, n32b, n32c, rfl, rfl, p32, p32a⟩ := h
              obtain ⟨z32a, e32⟩ : ∃ w, w = s32.2.2.1 46 2 := ⟨_, rfl⟩
              have i32a := inv_F hI32 0 1000 rfl e32
              obtain ⟨z32b, e32a⟩ : ∃ w, w = s32.2.2.1 46 4 := ⟨_, rfl⟩
              have i32b := inv_F hI32 0 1000 rfl e32a
              rw [← (show z32a = s32.2.2.1 46 2 from e32)] at n32a
              rw [← (show u_46_1 = s32.2.2.1 46 1 from fr_F (fr_F e_46_1 hFc13 rfl) hF32 rfl)] at n32a
              rw [← (show z32a = s32.2.2.1 46 2 from e32)] at n32b
              rw [← (show z32b = s32.2.2.1 46 4 from e32a)] at n32b
              rw [← (show w13_46_2 = sc13.2.2.1 46 2 from v13_46_2)] at n32c
              rw [← (show z32b = s32.2.2.1 46 4 from e32a)] at n32c
              show GG _ _ _ _ _ _ _ _ [] _ _ _
              refine g_aload_n 36 (gd rfl) rfl rfl ?_
              refine g_aload_n 37 (gd rfl) rfl rfl ?_
              refine g_iload_n 38 (gd rfl) rfl rfl ?_
              have v38 : u_46_1 = s32.2.2.1 46 1 := fr_F (fr_F e_46_1 hFc13 rfl) hF32 rfl
              have v38a : w13_102_4 = s32.2.2.1 102 4 := fr_F (v13_102_4) hF32 rfl
              have n38 : (z32a).toInt ≤ (u_46_1).toInt := by have a0 := in_u h2; have a1 := in_u r_46_1; have a2 := in_u ((inv_F hIc13 0 120 rfl v13_102_4)); have a3 := in_u i22x13; have a4 := in_u i22x5; have a5 := in_u ((inv_F hIc13 0 1000 rfl v13_46_4)); have a6 := in_u ((inv_F hIc13 0 1000 rfl v13_46_2)); have a7 := in_u i16; have a8 := in_u i32b; have a9 := in_u i32a; omega
              have n38a : (z32b).toInt ≤ (z32a).toInt := by have a0 := in_u h2; have a1 := in_u r_46_1; have a2 := in_u ((inv_F hIc13 0 120 rfl v13_102_4)); have a3 := in_u i22x13; have a4 := in_u i22x5; have a5 := in_u ((inv_F hIc13 0 1000 rfl v13_46_4)); have a6 := in_u ((inv_F hIc13 0 1000 rfl v13_46_2)); have a7 := in_u i16; have a8 := in_u i32b; have a9 := in_u i32a; omega
              have n38b : (w13_102_4).toInt ≤ (z32b).toInt := by have a0 := in_u h2; have a1 := in_u r_46_1; have a2 := in_u ((inv_F hIc13 0 120 rfl v13_102_4)); have a3 := in_u i22x13; have a4 := in_u i22x5; have a5 := in_u ((inv_F hIc13 0 1000 rfl v13_46_4)); have a6 := in_u ((inv_F hIc13 0 1000 rfl v13_46_2)); have a7 := in_u i16; have a8 := in_u i32b; have a9 := in_u i32a; omega
              have p38 : TK s32 := by exact p32 (by decide)
              have n38c : 10 - (x2).toInt < ((kk : Nat) : Int) := by have a0 := in_u h2; have a1 := in_u r_46_1; have a2 := in_u ((inv_F hIc13 0 120 rfl v13_102_4)); have a3 := in_u i22x13; have a4 := in_u i22x5; have a5 := in_u ((inv_F hIc13 0 1000 rfl v13_46_4)); have a6 := in_u ((inv_F hIc13 0 1000 rfl v13_46_2)); have a7 := in_u i16; have a8 := in_u i32b; have a9 := in_u i32a; omega
              refine g_callv (X := _) (As := [.ref (A 46), .int x2]) (r := []) (b := A 102) (q := 102) 41 (gd rfl) rfl rfl rfl rfl rfl (ww_o rfl) (Nat.le_of_ble_eq_true rfl) (Nat.zero_le _) (Nat.zero_le _) (ih (by omega) hI32 (in_w 0 10 h2 rfl) e32 v38 e32a rfl rfl v38a (in_w 0 120 r_46_1 rfl) n38 n38a n38b p38 n38c) (fun e u h => h) (fun v u h => ?_)
              obtain ⟨s38, hI38, hF38, n38d, n38e, n38f, n38g, z38, rfl, rfl, i38, p38a, p38b⟩ := h
              obtain ⟨z38a, e38⟩ : ∃ w, w = s38.2.2.1 46 2 := ⟨_, rfl⟩
              have i38a := inv_F hI38 0 1000 rfl e38
              obtain ⟨z38b, e38a⟩ : ∃ w, w = s38.2.2.1 46 4 := ⟨_, rfl⟩
              have i38b := inv_F hI38 0 1000 rfl e38a
              obtain ⟨z38c, e38b⟩ : ∃ w, w = s38.2.2.1 102 4 := ⟨_, rfl⟩
              have i38c := inv_F hI38 0 120 rfl e38b
              rw [← (show z38a = s38.2.2.1 46 2 from e38)] at n38d
              rw [← (show u_46_1 = s38.2.2.1 46 1 from fr_F (fr_F (fr_F e_46_1 hFc13 rfl) hF32 rfl) hF38 rfl)] at n38d
              rw [← (show z38a = s38.2.2.1 46 2 from e38)] at n38e
              rw [← (show z38b = s38.2.2.1 46 4 from e38a)] at n38e
              rw [← (show z38b = s38.2.2.1 46 4 from e38a)] at n38f
              rw [← (show z38c = s38.2.2.1 102 4 from e38b)] at n38f
              rw [← (show z32b = s32.2.2.1 46 4 from e32a)] at n38g
              rw [← (show w13_102_4 = s32.2.2.1 102 4 from fr_F (v13_102_4) hF32 rfl)] at n38g
              rw [← (show z38b = s38.2.2.1 46 4 from e38a)] at n38g
              rw [← (show z38c = s38.2.2.1 102 4 from e38b)] at n38g
              show GG _ _ _ _ _ _ _ _ [.int z38] _ _ _
              refine g_if_ne 44 46 (gd rfl) rfl rfl (fun c41 => ?_) (fun c41 => ?_)
              · skip
                have i41 := z_ne 1 1 c41 i38 rfl
                refine g_aload_n 47 (gd rfl) rfl rfl ?_
                refine g_ldc 1000142 49 (gd rfl) rfl rfl ?_
                have hDe : _ = s38.2.2.1 102 4 := (show z38c = s38.2.2.1 102 4 from e38b)
                have n49 : (z38c).toInt ≤ 119 := by have a0 := in_u h2; have a1 := in_u r_46_1; have a2 := in_u ((inv_F hIc13 0 120 rfl v13_102_4)); have a3 := in_u i22x13; have a4 := in_u i22x5; have a5 := in_u ((inv_F hIc13 0 1000 rfl v13_46_4)); have a6 := in_u ((inv_F hIc13 0 1000 rfl v13_46_2)); have a7 := in_u i16; have a8 := in_u i38c; have a9 := in_u i38b; have a10 := in_u i38a; omega
                refine g_callv (X := _) (As := [.int (Int32.ofInt 1000142)]) (r := []) (b := A 102) (q := 102) 52 (gd rfl) rfl rfl rfl rfl rfl (ww_o rfl) (Nat.le_of_ble_eq_true rfl) (Nat.zero_le _) (Nat.zero_le _) (k_57_102 (by first | exact dq1 hd rfl | exact dq0 hd rfl | exact dq2 hd rfl | exact dq3 hd rfl | omega) hI38 e38b n49) (fun e u h => h) (fun v u h => ?_)
                obtain ⟨s49, hI49, hF49, n49a, z49, rfl, rfl, i49, p49⟩ := h
                obtain ⟨z49a, e49⟩ : ∃ w, w = s49.2.2.1 102 4 := ⟨_, rfl⟩
                have i49a := inv_F hI49 0 120 rfl e49
                rw [← (show z38c = s38.2.2.1 102 4 from e38b)] at n49a
                rw [← (show z49a = s49.2.2.1 102 4 from e49)] at n49a
                show GG _ _ _ _ _ _ _ _ [.int z49] _ _ _
                refine g_pop 53 (gd rfl) rfl rfl ?_
                refine g_iinc 56 (gd rfl) rfl rfl (Nat.le_of_ble_eq_true rfl) (fun z53 e53 => ?_)
                have i53 := in_add 1 120 e53 i16 (in_c 1 rfl) rfl rfl
                refine g_goto 13 (gd rfl) rfl ?_
                have v13 : z38a = s49.2.2.1 46 2 := fr_F (e38) hF49 rfl
                have v13a : z38b = s49.2.2.1 46 4 := fr_F (e38a) hF49 rfl
                have n13 : (z38a).toInt ≤ (u_46_1).toInt := by have a0 := in_u h2; have a1 := in_u r_46_1; have a2 := in_u ((inv_F hIc13 0 120 rfl v13_102_4)); have a3 := in_u i22x13; have a4 := in_u i22x5; have a5 := in_u ((inv_F hIc13 0 1000 rfl v13_46_4)); have a6 := in_u ((inv_F hIc13 0 1000 rfl v13_46_2)); have a7 := in_u i16; have a8 := in_u i53; have a9 := t_add e53 i16 (in_c 1 rfl) rfl; have a10 := in_u ((in_c 1 rfl)); have a11 := in_u i49a; have a12 := in_u i38b; have a13 := in_u i38a; omega
                have n13a : (z38b).toInt ≤ (z38a).toInt := by have a0 := in_u h2; have a1 := in_u r_46_1; have a2 := in_u ((inv_F hIc13 0 120 rfl v13_102_4)); have a3 := in_u i22x13; have a4 := in_u i22x5; have a5 := in_u ((inv_F hIc13 0 1000 rfl v13_46_4)); have a6 := in_u ((inv_F hIc13 0 1000 rfl v13_46_2)); have a7 := in_u i16; have a8 := in_u i53; have a9 := t_add e53 i16 (in_c 1 rfl) rfl; have a10 := in_u ((in_c 1 rfl)); have a11 := in_u i49a; have a12 := in_u i38b; have a13 := in_u i38a; omega
                have n13b : (z49a).toInt ≤ (z38b).toInt := by have a0 := in_u h2; have a1 := in_u r_46_1; have a2 := in_u ((inv_F hIc13 0 120 rfl v13_102_4)); have a3 := in_u i22x13; have a4 := in_u i22x5; have a5 := in_u ((inv_F hIc13 0 1000 rfl v13_46_4)); have a6 := in_u ((inv_F hIc13 0 1000 rfl v13_46_2)); have a7 := in_u i16; have a8 := in_u i53; have a9 := t_add e53 i16 (in_c 1 rfl) rfl; have a10 := in_u ((in_c 1 rfl)); have a11 := in_u i49a; have a12 := in_u i38b; have a13 := in_u i38a; omega
                have n13c : (u_46_4).toInt - (u_102_4).toInt ≤ (z38b).toInt - (z49a).toInt := by have a0 := in_u h2; have a1 := in_u r_46_1; have a2 := in_u ((inv_F hIc13 0 120 rfl v13_102_4)); have a3 := in_u i22x13; have a4 := in_u i22x5; have a5 := in_u ((inv_F hIc13 0 1000 rfl v13_46_4)); have a6 := in_u ((inv_F hIc13 0 1000 rfl v13_46_2)); have a7 := in_u i16; have a8 := in_u i53; have a9 := t_add e53 i16 (in_c 1 rfl) rfl; have a10 := in_u ((in_c 1 rfl)); have a11 := in_u i49a; have a12 := in_u i38b; have a13 := in_u i38a; omega
                have n13d : PCV s s49 1 := by exact pv_st (j := 2) (k := 1) (pv_tr (j := 1) (k := 1) (pv_tr (j := 1) (k := 0) g13_0 (pv_sm (hF32.1 104 rfl) (hF32.2.2.1 102 4 rfl))) (p38b c41)) (inv_F hI38 0 120 rfl rfl).1 p49 (by rw [← (show z49a = s49.2.2.1 102 4 from e49), ← hDe]; have a0 := in_u h2; have a1 := in_u r_46_1; have a2 := in_u ((inv_F hIc13 0 120 rfl v13_102_4)); have a3 := in_u i22x13; have a4 := in_u i22x5; have a5 := in_u ((inv_F hIc13 0 1000 rfl v13_46_4)); have a6 := in_u ((inv_F hIc13 0 1000 rfl v13_46_2)); have a7 := in_u i16; have a8 := in_u i53; have a9 := t_add e53 i16 (in_c 1 rfl) rfl; have a10 := in_u ((in_c 1 rfl)); have a11 := in_u i49a; have a12 := in_u i38b; have a13 := in_u i38a; omega) (fun e => hc_b (by decide) (by decide) e)
                have n13e : TK s49 := by exact tk_fr hF49 rfl p38a
                exact gg_w (by first | exact Nat.le_add_right _ _ | exact gw2 | exact gw3 | exact gwe rfl | exact gwf rfl | exact gwg rfl | exact gwh rfl | omega) (gg_f (gf_cons rfl (gf_cons rfl (gf_cons rfl (gf_cons rfl gf_nil)))) (ih13 s49 z53 z38a z38b _ _ z49a hI49 (fr_tr rfl (fr_tr rfl (fr_tr rfl hFc13 hF32) hF38) hF49) (in_w 0 120 i53 rfl) v13 v13a rfl rfl e49 n13 n13a n13b n13c n13d n13e (m_up mm13 (t_add e53 i16 (in_c 1 rfl) rfl) (in_w 1 1 (in_c 1 rfl) rfl))))
              · skip
                have i41 := z_eq 0 0 c41 i38 rfl
                refine g_iconst 0 45 (gd rfl) rfl rfl ?_
                have n45 : TK s38 := by first | exact g13_1 | exact p38a | exact p3a
                have n45a : ((Int32.ofInt 0)).toInt ≠ 0 → PCV s s38 1 := by first | (intro _; exact g13_0) | (intro h; exact absurd rfl h)
                have n45b : (z38a).toInt ≤ (u_46_1).toInt := by have a0 := in_u h2; have a1 := in_u r_46_1; have a2 := in_u ((inv_F hIc13 0 120 rfl v13_102_4)); have a3 := in_u i22x13; have a4 := in_u i22x5; have a5 := in_u ((inv_F hIc13 0 1000 rfl v13_46_4)); have a6 := in_u ((inv_F hIc13 0 1000 rfl v13_46_2)); have a7 := in_u i16; have a8 := in_u i38c; have a9 := in_u i38b; have a10 := in_u i38a; omega
                have n45c : (s38.2.2.1 46 2).toInt ≤ (s38.2.2.1 46 1).toInt := by have b0 : z38a = s38.2.2.1 46 2 := e38; have b1 : u_46_1 = s38.2.2.1 46 1 := fr_F (fr_F (fr_F e_46_1 hFc13 rfl) hF32 rfl) hF38 rfl; rw [← b0, ← b1]; exact n45b
                have n45d : (z38b).toInt ≤ (z38a).toInt := by have a0 := in_u h2; have a1 := in_u r_46_1; have a2 := in_u ((inv_F hIc13 0 120 rfl v13_102_4)); have a3 := in_u i22x13; have a4 := in_u i22x5; have a5 := in_u ((inv_F hIc13 0 1000 rfl v13_46_4)); have a6 := in_u ((inv_F hIc13 0 1000 rfl v13_46_2)); have a7 := in_u i16; have a8 := in_u i38c; have a9 := in_u i38b; have a10 := in_u i38a; omega
                have n45e : (s38.2.2.1 46 4).toInt ≤ (s38.2.2.1 46 2).toInt := by have b0 : z38b = s38.2.2.1 46 4 := e38a; have b1 : z38a = s38.2.2.1 46 2 := e38; rw [← b0, ← b1]; exact n45d
                have n45f : (z38c).toInt ≤ (z38b).toInt := by have a0 := in_u h2; have a1 := in_u r_46_1; have a2 := in_u ((inv_F hIc13 0 120 rfl v13_102_4)); have a3 := in_u i22x13; have a4 := in_u i22x5; have a5 := in_u ((inv_F hIc13 0 1000 rfl v13_46_4)); have a6 := in_u ((inv_F hIc13 0 1000 rfl v13_46_2)); have a7 := in_u i16; have a8 := in_u i38c; have a9 := in_u i38b; have a10 := in_u i38a; omega
                have n45g : (s38.2.2.1 102 4).toInt ≤ (s38.2.2.1 46 4).toInt := by have b0 : z38c = s38.2.2.1 102 4 := e38b; have b1 : z38b = s38.2.2.1 46 4 := e38a; rw [← b0, ← b1]; exact n45f
                have n45h : (u_46_4).toInt - (u_102_4).toInt ≤ (z38b).toInt - (z38c).toInt := by have a0 := in_u h2; have a1 := in_u r_46_1; have a2 := in_u ((inv_F hIc13 0 120 rfl v13_102_4)); have a3 := in_u i22x13; have a4 := in_u i22x5; have a5 := in_u ((inv_F hIc13 0 1000 rfl v13_46_4)); have a6 := in_u ((inv_F hIc13 0 1000 rfl v13_46_2)); have a7 := in_u i16; have a8 := in_u i38c; have a9 := in_u i38b; have a10 := in_u i38a; omega
                have n45i : (s.2.2.1 46 4).toInt - (s.2.2.1 102 4).toInt ≤ (s38.2.2.1 46 4).toInt - (s38.2.2.1 102 4).toInt := by have b0 : z38b = s38.2.2.1 46 4 := e38a; have b1 : z38c = s38.2.2.1 102 4 := e38b; first | (rw [← b0, ← b1, ← e_46_4, ← e_102_4]; exact n45h) | (rw [← b0, ← b1]; exact n45h)
                exact g_ireturn (gd rfl) rfl (nb01 (in_w 0 1 (in_c 0 rfl) rfl)) (hP _ _ ⟨s38, hI38, (fr_tr rfl (fr_tr rfl hFc13 hF32) hF38), n45c, n45e, n45g, n45i, (Int32.ofInt 0), rfl, rfl, in_w 0 1 (in_c 0 rfl) rfl, n45, n45a⟩)
  refine g_enter2 (k := 60) (N := 109801) (by first | exact dq1 hd rfl | exact dq0 hd rfl | exact dq2 hd rfl | exact dq3 hd rfl | omega) rfl (Nat.le_of_ble_eq_true rfl) ?_
  refine g_aload_n 1 (gd rfl) rfl rfl ?_
  refine g_aload_n 2 (gd rfl) rfl rfl ?_
  refine g_iload_n 3 (gd rfl) rfl rfl ?_
  have n3 : (u_46_2).toInt ≤ (u_46_1).toInt := by have a0 := in_u ((inv_F hI 0 120 rfl e_102_4)); have a1 := in_u ((inv_F hI 0 5 rfl e_46_3)); have a2 := in_u ((inv_F hI 0 1000 rfl e_46_4)); have a3 := in_u r_46_1; have a4 := in_u ((inv_F hI 0 1000 rfl e_46_2)); have a5 := in_u h2; omega
  have n3a : (u_46_4).toInt ≤ (u_46_2).toInt := by have a0 := in_u ((inv_F hI 0 120 rfl e_102_4)); have a1 := in_u ((inv_F hI 0 5 rfl e_46_3)); have a2 := in_u ((inv_F hI 0 1000 rfl e_46_4)); have a3 := in_u r_46_1; have a4 := in_u ((inv_F hI 0 1000 rfl e_46_2)); have a5 := in_u h2; omega
  have n3b : (u_102_4).toInt ≤ (u_46_4).toInt := by have a0 := in_u ((inv_F hI 0 120 rfl e_102_4)); have a1 := in_u ((inv_F hI 0 5 rfl e_46_3)); have a2 := in_u ((inv_F hI 0 1000 rfl e_46_4)); have a3 := in_u r_46_1; have a4 := in_u ((inv_F hI 0 1000 rfl e_46_2)); have a5 := in_u h2; omega
  have p3 : TK s := by exact q_0
  have n3c : 10 - (x2).toInt < ((kk : Nat) : Int) := by have a0 := in_u ((inv_F hI 0 120 rfl e_102_4)); have a1 := in_u ((inv_F hI 0 5 rfl e_46_3)); have a2 := in_u ((inv_F hI 0 1000 rfl e_46_4)); have a3 := in_u r_46_1; have a4 := in_u ((inv_F hI 0 1000 rfl e_46_2)); have a5 := in_u h2; omega
  refine g_callv (X := _) (As := [.ref (A 46), .int x2]) (r := []) (b := A 102) (q := 102) 6 (gd rfl) rfl rfl rfl rfl rfl (ww_o rfl) (Nat.le_of_ble_eq_true rfl) (Nat.zero_le _) (Nat.zero_le _) (ih (by omega) hI (in_w 0 10 h2 rfl) e_46_2 e_46_1 e_46_4 e_46_3 e_46_5 e_102_4 (in_w 0 120 r_46_1 rfl) n3 n3a n3b p3 n3c) (fun e u h => h) (fun v u h => ?_)
  obtain ⟨s3, hI3, hF3, n3d, n3e, n3f, n3g, z3, rfl, rfl, i3, p3a, p3b⟩ := h
  obtain ⟨z3a, e3⟩ : ∃ w, w = s3.2.2.1 46 2 := ⟨_, rfl⟩
  have i3a := inv_F hI3 0 1000 rfl e3
  obtain ⟨z3b, e3a⟩ : ∃ w, w = s3.2.2.1 46 4 := ⟨_, rfl⟩
  have i3b := inv_F hI3 0 1000 rfl e3a
  obtain ⟨z3c, e3b⟩ : ∃ w, w = s3.2.2.1 102 4 := ⟨_, rfl⟩
  have i3c := inv_F hI3 0 120 rfl e3b
  rw [← (show z3a = s3.2.2.1 46 2 from e3)] at n3d
  rw [← (show u_46_1 = s3.2.2.1 46 1 from fr_F (e_46_1) hF3 rfl)] at n3d
  rw [← (show z3a = s3.2.2.1 46 2 from e3)] at n3e
  rw [← (show z3b = s3.2.2.1 46 4 from e3a)] at n3e
  rw [← (show z3b = s3.2.2.1 46 4 from e3a)] at n3f
  rw [← (show z3c = s3.2.2.1 102 4 from e3b)] at n3f
  rw [← (show u_46_4 = s.2.2.1 46 4 from e_46_4)] at n3g
  rw [← (show u_102_4 = s.2.2.1 102 4 from e_102_4)] at n3g
  rw [← (show z3b = s3.2.2.1 46 4 from e3a)] at n3g
  rw [← (show z3c = s3.2.2.1 102 4 from e3b)] at n3g
  show GG _ _ _ _ _ _ _ _ [.int z3] _ _ _
  refine g_if_ne 9 11 (gd rfl) rfl rfl (fun c6 => ?_) (fun c6 => ?_)
  · skip
    have i6 := z_ne 1 1 c6 i3 rfl
    refine g_iconst 0 12 (gd rfl) rfl rfl ?_
    refine g_istore_n 13 (gd rfl) rfl (Nat.le_of_ble_eq_true rfl) ?_
    have n13 : (z3a).toInt ≤ (u_46_1).toInt := by have a0 := in_u ((inv_F hI 0 120 rfl e_102_4)); have a1 := in_u ((inv_F hI 0 5 rfl e_46_3)); have a2 := in_u ((inv_F hI 0 1000 rfl e_46_4)); have a3 := in_u r_46_1; have a4 := in_u ((inv_F hI 0 1000 rfl e_46_2)); have a5 := in_u h2; have a6 := in_u ((in_c 0 rfl)); have a7 := in_u i3c; have a8 := in_u i3b; have a9 := in_u i3a; omega
    have n13a : (z3b).toInt ≤ (z3a).toInt := by have a0 := in_u ((inv_F hI 0 120 rfl e_102_4)); have a1 := in_u ((inv_F hI 0 5 rfl e_46_3)); have a2 := in_u ((inv_F hI 0 1000 rfl e_46_4)); have a3 := in_u r_46_1; have a4 := in_u ((inv_F hI 0 1000 rfl e_46_2)); have a5 := in_u h2; have a6 := in_u ((in_c 0 rfl)); have a7 := in_u i3c; have a8 := in_u i3b; have a9 := in_u i3a; omega
    have n13b : (z3c).toInt ≤ (z3b).toInt := by have a0 := in_u ((inv_F hI 0 120 rfl e_102_4)); have a1 := in_u ((inv_F hI 0 5 rfl e_46_3)); have a2 := in_u ((inv_F hI 0 1000 rfl e_46_4)); have a3 := in_u r_46_1; have a4 := in_u ((inv_F hI 0 1000 rfl e_46_2)); have a5 := in_u h2; have a6 := in_u ((in_c 0 rfl)); have a7 := in_u i3c; have a8 := in_u i3b; have a9 := in_u i3a; omega
    have n13c : (u_46_4).toInt - (u_102_4).toInt ≤ (z3b).toInt - (z3c).toInt := by have a0 := in_u ((inv_F hI 0 120 rfl e_102_4)); have a1 := in_u ((inv_F hI 0 5 rfl e_46_3)); have a2 := in_u ((inv_F hI 0 1000 rfl e_46_4)); have a3 := in_u r_46_1; have a4 := in_u ((inv_F hI 0 1000 rfl e_46_2)); have a5 := in_u h2; have a6 := in_u ((in_c 0 rfl)); have a7 := in_u i3c; have a8 := in_u i3b; have a9 := in_u i3a; omega
    have n13d : PCV s s3 1 := by exact p3b c6
    have n13e : TK s3 := by exact p3a
    exact gg_w (by first | exact Nat.le_of_ble_eq_true rfl | omega) (gg_f (gf_cons rfl (gf_cons rfl (gf_cons rfl (gf_cons rfl gf_nil)))) (ct13 121 s3 (Int32.ofInt 0) z3a z3b _ _ z3c hI3 (fr_tr rfl fr_rf hF3) (in_w 0 120 (in_c 0 rfl) rfl) e3 e3a rfl rfl e3b n13 n13a n13b n13c n13d n13e (m_in 121 (in_w 0 120 (in_c 0 rfl) rfl) rfl)))
  · skip
    have i6 := z_eq 0 0 c6 i3 rfl
    refine g_iconst 0 10 (gd rfl) rfl rfl ?_
    have n10 : TK s3 := by first | exact g13_1 | exact p38a | exact p3a
    have n10a : ((Int32.ofInt 0)).toInt ≠ 0 → PCV s s3 1 := by first | (intro _; exact g13_0) | (intro h; exact absurd rfl h)
    have n10b : (z3a).toInt ≤ (u_46_1).toInt := by have a0 := in_u ((inv_F hI 0 120 rfl e_102_4)); have a1 := in_u ((inv_F hI 0 5 rfl e_46_3)); have a2 := in_u ((inv_F hI 0 1000 rfl e_46_4)); have a3 := in_u r_46_1; have a4 := in_u ((inv_F hI 0 1000 rfl e_46_2)); have a5 := in_u h2; have a6 := in_u i3c; have a7 := in_u i3b; have a8 := in_u i3a; omega
    have n10c : (s3.2.2.1 46 2).toInt ≤ (s3.2.2.1 46 1).toInt := by have b0 : z3a = s3.2.2.1 46 2 := e3; have b1 : u_46_1 = s3.2.2.1 46 1 := fr_F (e_46_1) hF3 rfl; rw [← b0, ← b1]; exact n10b
    have n10d : (z3b).toInt ≤ (z3a).toInt := by have a0 := in_u ((inv_F hI 0 120 rfl e_102_4)); have a1 := in_u ((inv_F hI 0 5 rfl e_46_3)); have a2 := in_u ((inv_F hI 0 1000 rfl e_46_4)); have a3 := in_u r_46_1; have a4 := in_u ((inv_F hI 0 1000 rfl e_46_2)); have a5 := in_u h2; have a6 := in_u i3c; have a7 := in_u i3b; have a8 := in_u i3a; omega
    have n10e : (s3.2.2.1 46 4).toInt ≤ (s3.2.2.1 46 2).toInt := by have b0 : z3b = s3.2.2.1 46 4 := e3a; have b1 : z3a = s3.2.2.1 46 2 := e3; rw [← b0, ← b1]; exact n10d
    have n10f : (z3c).toInt ≤ (z3b).toInt := by have a0 := in_u ((inv_F hI 0 120 rfl e_102_4)); have a1 := in_u ((inv_F hI 0 5 rfl e_46_3)); have a2 := in_u ((inv_F hI 0 1000 rfl e_46_4)); have a3 := in_u r_46_1; have a4 := in_u ((inv_F hI 0 1000 rfl e_46_2)); have a5 := in_u h2; have a6 := in_u i3c; have a7 := in_u i3b; have a8 := in_u i3a; omega
    have n10g : (s3.2.2.1 102 4).toInt ≤ (s3.2.2.1 46 4).toInt := by have b0 : z3c = s3.2.2.1 102 4 := e3b; have b1 : z3b = s3.2.2.1 46 4 := e3a; rw [← b0, ← b1]; exact n10f
    have n10h : (u_46_4).toInt - (u_102_4).toInt ≤ (z3b).toInt - (z3c).toInt := by have a0 := in_u ((inv_F hI 0 120 rfl e_102_4)); have a1 := in_u ((inv_F hI 0 5 rfl e_46_3)); have a2 := in_u ((inv_F hI 0 1000 rfl e_46_4)); have a3 := in_u r_46_1; have a4 := in_u ((inv_F hI 0 1000 rfl e_46_2)); have a5 := in_u h2; have a6 := in_u i3c; have a7 := in_u i3b; have a8 := in_u i3a; omega
    have n10i : (s.2.2.1 46 4).toInt - (s.2.2.1 102 4).toInt ≤ (s3.2.2.1 46 4).toInt - (s3.2.2.1 102 4).toInt := by have b0 : z3b = s3.2.2.1 46 4 := e3a; have b1 : z3c = s3.2.2.1 102 4 := e3b; first | (rw [← b0, ← b1, ← e_46_4, ← e_102_4]; exact n10h) | (rw [← b0, ← b1]; exact n10h)
    exact g_ireturn (gd rfl) rfl (nb01 (in_w 0 1 (in_c 0 rfl) rfl)) (hP _ _ ⟨s3, hI3, (fr_tr rfl fr_rf hF3), n10c, n10e, n10g, n10i, (Int32.ofInt 0), rfl, rfl, in_w 0 1 (in_c 0 rfl) rfl, n10, n10a⟩)
theorem k_59_102_46_r {Z : AmZ} {A : Nat → Nat} {ex : va_W} (kk : Nat) (ih : ∀ {s : GS} {d : Nat} {X : AmX} {x2 : Int32} {u_46_2 : Int32} {u_46_1 : Int32} {u_46_4 : Int32} {u_46_3 : Int32} {u_46_5 : Int32} {u_102_4 : Int32}, 65 + kk * 20 ≤ d → Inv s → (In x2 0 10) → (u_46_2 = s.2.2.1 46 2) → (u_46_1 = s.2.2.1 46 1) → (u_46_4 = s.2.2.1 46 4) → (u_46_3 = s.2.2.1 46 3) → (u_46_5 = s.2.2.1 46 5) → (u_102_4 = s.2.2.1 102 4) → (In u_46_1 0 120) → ((u_46_2).toInt ≤ (u_46_1).toInt) → ((u_46_4).toInt ≤ (u_46_2).toInt) → ((u_102_4).toInt ≤ (u_46_4).toInt) → (TK s) → 10 - (x2).toInt < ((kk : Nat) : Int) → GC Z d 60 [.ref (A 102), .ref (A 46), .int x2] (WW Z A s ++ ex) 0 0 (fun v u => ∃ t : GS, Inv t ∧ Fr fm_60_102_46 s t ∧ ((t.2.2.1 46 2).toInt ≤ (t.2.2.1 46 1).toInt) ∧ ((t.2.2.1 46 4).toInt ≤ (t.2.2.1 46 2).toInt) ∧ ((t.2.2.1 102 4).toInt ≤ (t.2.2.1 46 4).toInt) ∧ ((s.2.2.1 46 4).toInt - (s.2.2.1 102 4).toInt ≤ (t.2.2.1 46 4).toInt - (t.2.2.1 102 4).toInt) ∧ ∃ z : Int32, v = some (.int z) ∧ u = WW Z A t ++ ex ∧ In z 0 1 ∧ (TK t) ∧ ((z).toInt ≠ 0 → PCV s t 1)) X) : ∀ {s : GS} {d : Nat} {X : AmX} {x2 : Int32} {u_46_2 : Int32} {u_46_1 : Int32} {u_46_4 : Int32} {u_46_3 : Int32} {u_46_5 : Int32} {u_102_4 : Int32}, 70 + kk * 20 ≤ d → Inv s → (In x2 0 10) → (u_46_2 = s.2.2.1 46 2) → (u_46_1 = s.2.2.1 46 1) → (u_46_4 = s.2.2.1 46 4) → (u_46_3 = s.2.2.1 46 3) → (u_46_5 = s.2.2.1 46 5) → (u_102_4 = s.2.2.1 102 4) → (In u_46_1 0 120) → ((u_46_2).toInt ≤ (u_46_1).toInt) → ((u_46_4).toInt ≤ (u_46_2).toInt) → ((u_102_4).toInt ≤ (u_46_4).toInt) → (TK s) → 10 - (x2).toInt < ((kk : Nat) : Int) → GC Z d 59 [.ref (A 102), .ref (A 46), .int x2] (WW Z A s ++ ex) 0 0 (fun v u => ∃ t : GS, Inv t ∧ Fr fm_59_102_46 s t ∧ ((t.2.2.1 46 2).toInt ≤ (t.2.2.1 46 1).toInt) ∧ ((t.2.2.1 46 4).toInt ≤ (t.2.2.1 46 2).toInt) ∧ ((t.2.2.1 102 4).toInt ≤ (t.2.2.1 46 4).toInt) ∧ ((s.2.2.1 46 4).toInt - (s.2.2.1 102 4).toInt ≤ (t.2.2.1 46 4).toInt - (t.2.2.1 102 4).toInt) ∧ ∃ z : Int32, v = some (.int z) ∧ u = WW Z A t ++ ex ∧ In z 0 1 ∧ (TK t) ∧ ((z).toInt ≠ 0 → PCV s t 1)) X := by
  intro s d X x2 u_46_2 u_46_1 u_46_4 u_46_3 u_46_5 u_102_4 hd hI h2 e_46_2 e_46_1 e_46_4 e_46_3 e_46_5 e_102_4 r_46_1 p_0 p_1 p_2 q_0 hm
  intro post xp hP hX
  have ct13 : ∀ (k13 : Nat) (sc13 : GS) (y13_3 : Int32) (w13_46_2 : Int32) (w13_46_4 : Int32) (w13_46_3 : Int32) (w13_46_5 : Int32) (w13_102_4 : Int32), Inv sc13 → Fr fm_59_102_46 s sc13 → (In y13_3 0 120) → (w13_46_2 = sc13.2.2.1 46 2) → (w13_46_4 = sc13.2.2.1 46 4) → (w13_46_3 = sc13.2.2.1 46 3) → (w13_46_5 = sc13.2.2.1 46 5) → (w13_102_4 = sc13.2.2.1 102 4) → ((w13_46_2).toInt ≤ (u_46_1).toInt) → ((w13_46_4).toInt ≤ (w13_46_2).toInt) → ((w13_102_4).toInt ≤ (w13_46_4).toInt) → ((u_46_4).toInt - (u_102_4).toInt ≤ (w13_46_4).toInt - (w13_102_4).toInt) → (PCV s sc13 1) → (TK sc13) → 120 - (y13_3).toInt < (k13 : Int) → GG Z (d - 1) 59 post (gx xp) (1 + k13 * 900) 13 (fun j => xlook j [(0, .ref (A 102)), (1, .ref (A 46)), (2, .int x2), (3, .int y13_3)]) [] (WW Z A sc13 ++ ex) 0 0 := by
    intro k13
    induction k13 with
    | zero => intro sc13 y13_3 w13_46_2 w13_46_4 w13_46_3 w13_46_5 w13_102_4 hIc13 hFc13 j13_3 v13_46_2 v13_46_4 v13_46_3 v13_46_5 v13_102_4 n13_0 n13_1 n13_2 n13_3 g13_0 g13_1 mm13; exact m_no mm13 j13_3 rfl
    | succ k13 ih13 =>
      intro sc13 y13_3 w13_46_2 w13_46_4 w13_46_3 w13_46_5 w13_102_4 hIc13 hFc13 j13_3 v13_46_2 v13_46_4 v13_46_3 v13_46_5 v13_102_4 n13_0 n13_1 n13_2 n13_3 g13_0 g13_1 mm13
      refine gg_w (M := 1 + k13 * 900 + 900) gws ?_
      refine g_iload_n 14 (gd rfl) rfl rfl ?_
      refine g_bipush 120 16 (gd rfl) rfl rfl ?_
      refine g_cmp_ge 19 77 (gd rfl) rfl rfl (fun c16 => ?_) (fun c16 => ?_)
      · skip
        have i16 := r_le2 120 120 c16 (in_c 120 rfl) j13_3 rfl
        refine g_iconst 1 78 (gd rfl) rfl rfl ?_
        have n78 : TK sc13 := by first | exact g13_1 | exact p53a | exact p3a
        have n78a : ((Int32.ofInt 1)).toInt ≠ 0 → PCV s sc13 1 := by first | (intro _; exact g13_0) | (intro h; exact absurd rfl h)
        have n78b : (w13_46_2).toInt ≤ (u_46_1).toInt := by first | exact n13_0 | (have a0 := in_u h2; have a1 := in_u r_46_1; have a2 := in_u ((inv_F hIc13 0 120 rfl v13_102_4)); have a3 := in_u ((inv_F hIc13 0 5 rfl v13_46_3)); have a4 := in_u ((inv_F hIc13 0 1000 rfl v13_46_4)); have a5 := in_u ((inv_F hIc13 0 1000 rfl v13_46_2)); have a6 := in_u i16; omega)
        have n78c : (sc13.2.2.1 46 2).toInt ≤ (sc13.2.2.1 46 1).toInt := by have b0 : w13_46_2 = sc13.2.2.1 46 2 := v13_46_2; have b1 : u_46_1 = sc13.2.2.1 46 1 := fr_F e_46_1 hFc13 rfl; rw [← b0, ← b1]; exact n78b
        have n78d : (w13_46_4).toInt ≤ (w13_46_2).toInt := by first | exact n13_1 | (have a0 := in_u h2; have a1 := in_u r_46_1; have a2 := in_u ((inv_F hIc13 0 120 rfl v13_102_4)); have a3 := in_u ((inv_F hIc13 0 5 rfl v13_46_3)); have a4 := in_u ((inv_F hIc13 0 1000 rfl v13_46_4)); have a5 := in_u ((inv_F hIc13 0 1000 rfl v13_46_2)); have a6 := in_u i16; omega)
        have n78e : (sc13.2.2.1 46 4).toInt ≤ (sc13.2.2.1 46 2).toInt := by have b0 : w13_46_4 = sc13.2.2.1 46 4 := v13_46_4; have b1 : w13_46_2 = sc13.2.2.1 46 2 := v13_46_2; rw [← b0, ← b1]; exact n78d
        have n78f : (w13_102_4).toInt ≤ (w13_46_4).toInt := by first | exact n13_2 | (have a0 := in_u h2; have a1 := in_u r_46_1; have a2 := in_u ((inv_F hIc13 0 120 rfl v13_102_4)); have a3 := in_u ((inv_F hIc13 0 5 rfl v13_46_3)); have a4 := in_u ((inv_F hIc13 0 1000 rfl v13_46_4)); have a5 := in_u ((inv_F hIc13 0 1000 rfl v13_46_2)); have a6 := in_u i16; omega)
        have n78g : (sc13.2.2.1 102 4).toInt ≤ (sc13.2.2.1 46 4).toInt := by have b0 : w13_102_4 = sc13.2.2.1 102 4 := v13_102_4; have b1 : w13_46_4 = sc13.2.2.1 46 4 := v13_46_4; rw [← b0, ← b1]; exact n78f
        have n78h : (u_46_4).toInt - (u_102_4).toInt ≤ (w13_46_4).toInt - (w13_102_4).toInt := by first | exact n13_3 | (have a0 := in_u h2; have a1 := in_u r_46_1; have a2 := in_u ((inv_F hIc13 0 120 rfl v13_102_4)); have a3 := in_u ((inv_F hIc13 0 5 rfl v13_46_3)); have a4 := in_u ((inv_F hIc13 0 1000 rfl v13_46_4)); have a5 := in_u ((inv_F hIc13 0 1000 rfl v13_46_2)); have a6 := in_u i16; omega)
        have n78i : (s.2.2.1 46 4).toInt - (s.2.2.1 102 4).toInt ≤ (sc13.2.2.1 46 4).toInt - (sc13.2.2.1 102 4).toInt := by have b0 : w13_46_4 = sc13.2.2.1 46 4 := v13_46_4; have b1 : w13_102_4 = sc13.2.2.1 102 4 := v13_102_4; first | (rw [← b0, ← b1, ← e_46_4, ← e_102_4]; exact n78h) | (rw [← b0, ← b1]; exact n78h)
        exact g_ireturn (gd rfl) rfl (nb01 (in_w 0 1 (in_c 1 rfl) rfl)) (hP _ _ ⟨sc13, hIc13, hFc13, n78c, n78e, n78g, n78i, (Int32.ofInt 1), rfl, rfl, in_w 0 1 (in_c 1 rfl) rfl, n78, n78a⟩)
      · skip
        have i16 := r_lt1 0 119 c16 j13_3 (in_c 120 rfl) rfl
        refine g_aload_n 20 (gd rfl) rfl rfl ?_
        refine g_bipush 43 22 (gd rfl) rfl rfl ?_
        refine g_callv (X := _) (As := [.int (Int32.ofInt 43)]) (r := []) (b := A 46) (q := 46) 25 (gd rfl) rfl rfl rfl rfl rfl (ww_o rfl) (Nat.le_of_ble_eq_true rfl) (mc := 0) (ms := 0) (Nat.zero_le _) (Nat.zero_le _) (P := fun v u => _) ?_ (fun e u h => h) (fun v u h => h)
        intro po22 xx22 hp22 hx22
        refine g_enter2 (k := 170) (N := 300) (by first | exact dq1 hd rfl | exact dq0 hd rfl | exact dq2 hd rfl | exact dq3 hd rfl | omega) rfl (Nat.le_of_ble_eq_true rfl) ?_
        refine g_aload_n 1 (gd rfl) rfl rfl ?_
        refine g_getI 4 (gd rfl) rfl rfl rfl (fun z22x1 e22x1 => ?_)
        have q22x1 : w13_46_3 = z22x1 := (v13_46_3).trans e22x1.symm
        subst q22x1
        refine g_iconst 3 5 (gd rfl) rfl rfl ?_
        refine g_cmp_ne 8 20 (gd rfl) rfl rfl (fun c22x5 => ?_) (fun c22x5 => ?_)
        · skip
          refine g_iconst 0 21 (gd rfl) rfl rfl ?_
          refine g_ireturn (gd rfl) rfl (nb01 (in_w 0 1 (in_c 0 rfl) rfl)) (hp22 _ _ ?_)
          show GG _ _ _ _ _ _ _ _ [.int (Int32.ofInt 0)] _ _ _
          refine g_if_ne 28 37 (gd rfl) rfl rfl (fun c25 => ?_) (fun c25 => ?_)
          · skip
            exact zn_ne c25 (in_c 0 rfl) rfl
          · skip
            refine g_aload_n 29 (gd rfl) rfl rfl ?_
            refine g_bipush 45 31 (gd rfl) rfl rfl ?_
            refine g_callv (X := _) (As := [.int (Int32.ofInt 45)]) (r := []) (b := A 46) (q := 46) 34 (gd rfl) rfl rfl rfl rfl rfl (ww_o rfl) (Nat.le_of_ble_eq_true rfl) (mc := 0) (ms := 0) (Nat.zero_le _) (Nat.zero_le _) (P := fun v u => _) ?_ (fun e u h => h) (fun v u h => h)
            intro po31 xx31 hp31 hx31
            refine g_enter2 (k := 170) (N := 300) (by first | exact dq1 hd rfl | exact dq0 hd rfl | exact dq2 hd rfl | exact dq3 hd rfl | omega) rfl (Nat.le_of_ble_eq_true rfl) ?_
            refine g_aload_n 1 (gd rfl) rfl rfl ?_
            refine g_getI 4 (gd rfl) rfl rfl rfl (fun z31x1 e31x1 => ?_)
            have q31x1 : w13_46_3 = z31x1 := (v13_46_3).trans e31x1.symm
            subst q31x1
            refine g_iconst 3 5 (gd rfl) rfl rfl ?_
            refine g_cmp_ne 8 20 (gd rfl) rfl rfl (fun c31x5 => ?_) (fun c31x5 => ?_)
            · skip
              refine g_iconst 0 21 (gd rfl) rfl rfl ?_
              refine g_ireturn (gd rfl) rfl (nb01 (in_w 0 1 (in_c 0 rfl) rfl)) (hp31 _ _ ?_)
              show GG _ _ _ _ _ _ _ _ [.int (Int32.ofInt 0)] _ _ _
              refine g_if_eq 37 77 (gd rfl) rfl rfl (fun c34 => ?_) (fun c34 => ?_)
              · skip
                refine g_iconst 1 78 (gd rfl) rfl rfl ?_
                have n78 : TK sc13 := by first | exact g13_1 | exact p53a | exact p3a
                have n78a : ((Int32.ofInt 1)).toInt ≠ 0 → PCV s sc13 1 := by first | (intro _; exact g13_0) | (intro h; exact absurd rfl h)
                have n78b : (w13_46_2).toInt ≤ (u_46_1).toInt := by first | exact n13_0 | (have a0 := in_u h2; have a1 := in_u r_46_1; have a2 := in_u ((inv_F hIc13 0 120 rfl v13_102_4)); have a3 := in_u ((inv_F hIc13 0 5 rfl v13_46_3)); have a4 := in_u ((inv_F hIc13 0 1000 rfl v13_46_4)); have a5 := in_u ((inv_F hIc13 0 1000 rfl v13_46_2)); have a6 := in_u i16; omega)
                have n78c : (sc13.2.2.1 46 2).toInt ≤ (sc13.2.2.1 46 1).toInt := by have b0 : w13_46_2 = sc13.2.2.1 46 2 := v13_46_2; have b1 : u_46_1 = sc13.2.2.1 46 1 := fr_F e_46_1 hFc13 rfl; rw [← b0, ← b1]; exact n78b
                have n78d : (w13_46_4).toInt ≤ (w13_46_2).toInt := by first | exact n13_1 | (have a0 := in_u h2; have a1 := in_u r_46_1; have a2 := in_u ((inv_F hIc13 0 120 rfl v13_102_4)); have a3 := in_u ((inv_F hIc13 0 5 rfl v13_46_3)); have a4 := in_u ((inv_F hIc13 0 1000 rfl v13_46_4)); have a5 := in_u ((inv_F hIc13 0 1000 rfl v13_46_2)); have a6 := in_u i16; omega)
                have n78e : (sc13.2.2.1 46 4).toInt ≤ (sc13.2.2.1 46 2).toInt := by have b0 : w13_46_4 = sc13.2.2.1 46 4 := v13_46_4; have b1 : w13_46_2 = sc13.2.2.1 46 2 := v13_46_2; rw [← b0, ← b1]; exact n78d
                have n78f : (w13_102_4).toInt ≤ (w13_46_4).toInt := by first | exact n13_2 | (have a0 := in_u h2; have a1 := in_u r_46_1; have a2 := in_u ((inv_F hIc13 0 120 rfl v13_102_4)); have a3 := in_u ((inv_F hIc13 0 5 rfl v13_46_3)); have a4 := in_u ((inv_F hIc13 0 1000 rfl v13_46_4)); have a5 := in_u ((inv_F hIc13 0 1000 rfl v13_46_2)); have a6 := in_u i16; omega)
                have n78g : (sc13.2.2.1 102 4).toInt ≤ (sc13.2.2.1 46 4).toInt := by have b0 : w13_102_4 = sc13.2.2.1 102 4 := v13_102_4; have b1 : w13_46_4 = sc13.2.2.1 46 4 := v13_46_4; rw [← b0, ← b1]; exact n78f
                have n78h : (u_46_4).toInt - (u_102_4).toInt ≤ (w13_46_4).toInt - (w13_102_4).toInt := by first | exact n13_3 | (have a0 := in_u h2; have a1 := in_u r_46_1; have a2 := in_u ((inv_F hIc13 0 120 rfl v13_102_4)); have a3 := in_u ((inv_F hIc13 0 5 rfl v13_46_3)); have a4 := in_u ((inv_F hIc13 0 1000 rfl v13_46_4)); have a5 := in_u ((inv_F hIc13 0 1000 rfl v13_46_2)); have a6 := in_u i16; omega)
                have n78i : (s.2.2.1 46 4).toInt - (s.2.2.1 102 4).toInt ≤ (sc13.2.2.1 46 4).toInt - (sc13.2.2.1 102 4).toInt := by have b0 : w13_46_4 = sc13.2.2.1 46 4 := v13_46_4; have b1 : w13_102_4 = sc13.2.2.1 102 4 := v13_102_4; first | (rw [← b0, ← b1, ← e_46_4, ← e_102_4]; exact n78h) | (rw [← b0, ← b1]; exact n78h)
                exact g_ireturn (gd rfl) rfl (nb01 (in_w 0 1 (in_c 1 rfl) rfl)) (hP _ _ ⟨sc13, hIc13, hFc13, n78c, n78e, n78g, n78i, (Int32.ofInt 1), rfl, rfl, in_w 0 1 (in_c 1 rfl) rfl, n78, n78a⟩)
              · skip
                exact zn_ne c34 (in_c 0 rfl) rfl
            · skip
              exact absurd c31x5 c22x5
        · skip
          have i22x5 := r_eq1 3 3 c22x5 (inv_F hIc13 0 5 rfl v13_46_3) (in_c 3 rfl) rfl
          refine g_aload_n 9 (gd rfl) rfl rfl ?_
          refine g_getI 12 (gd rfl) rfl rfl rfl (fun z22x9 e22x9 => ?_)
          have q22x9 : w13_46_5 = z22x9 := (v13_46_5).trans e22x9.symm
          subst q22x9
          refine g_iload_n 13 (gd rfl) rfl rfl ?_
          refine g_cmp_ne 16 20 (gd rfl) rfl rfl (fun c22x13 => ?_) (fun c22x13 => ?_)
          · skip
            refine g_iconst 0 21 (gd rfl) rfl rfl ?_
            refine g_ireturn (gd rfl) rfl (nb01 (in_w 0 1 (in_c 0 rfl) rfl)) (hp22 _ _ ?_)
            show GG _ _ _ _ _ _ _ _ [.int (Int32.ofInt 0)] _ _ _
            refine g_if_ne 28 37 (gd rfl) rfl rfl (fun c25 => ?_) (fun c25 => ?_)
            · skip
              exact zn_ne c25 (in_c 0 rfl) rfl
            · skip
              refine g_aload_n 29 (gd rfl) rfl rfl ?_
              refine g_bipush 45 31 (gd rfl) rfl rfl ?_
              refine g_callv (X := _) (As := [.int (Int32.ofInt 45)]) (r := []) (b := A 46) (q := 46) 34 (gd rfl) rfl rfl rfl rfl rfl (ww_o rfl) (Nat.le_of_ble_eq_true rfl) (mc := 0) (ms := 0) (Nat.zero_le _) (Nat.zero_le _) (P := fun v u => _) ?_ (fun e u h => h) (fun v u h => h)
              intro po31 xx31 hp31 hx31
              refine g_enter2 (k := 170) (N := 300) (by first | exact dq1 hd rfl | exact dq0 hd rfl | exact dq2 hd rfl | exact dq3 hd rfl | omega) rfl (Nat.le_of_ble_eq_true rfl) ?_
              refine g_aload_n 1 (gd rfl) rfl rfl ?_
              refine g_getI 4 (gd rfl) rfl rfl rfl (fun z31x1 e31x1 => ?_)
              have q31x1 : w13_46_3 = z31x1 := (v13_46_3).trans e31x1.symm
              subst q31x1
              refine g_iconst 3 5 (gd rfl) rfl rfl ?_
              refine g_cmp_ne 8 20 (gd rfl) rfl rfl (fun c31x5 => ?_) (fun c31x5 => ?_)
              · skip
                exact n_ne c31x5 i22x5 (in_c 3 rfl) rfl
              · skip
                refine g_aload_n 9 (gd rfl) rfl rfl ?_
                refine g_getI 12 (gd rfl) rfl rfl rfl (fun z31x9 e31x9 => ?_)
                have q31x9 : w13_46_5 = z31x9 := (v13_46_5).trans e31x9.symm
                subst q31x9
                refine g_iload_n 13 (gd rfl) rfl rfl ?_
                refine g_cmp_ne 16 20 (gd rfl) rfl rfl (fun c31x13 => ?_) (fun c31x13 => ?_)
                · skip
                  refine g_iconst 0 21 (gd rfl) rfl rfl ?_
                  refine g_ireturn (gd rfl) rfl (nb01 (in_w 0 1 (in_c 0 rfl) rfl)) (hp31 _ _ ?_)
                  show GG _ _ _ _ _ _ _ _ [.int (Int32.ofInt 0)] _ _ _
                  refine g_if_eq 37 77 (gd rfl) rfl rfl (fun c34 => ?_) (fun c34 => ?_)
                  · skip
                    refine g_iconst 1 78 (gd rfl) rfl rfl ?_
                    have n78 : TK sc13 := by first | exact g13_1 | exact p53a | exact p3a
                    have n78a : ((Int32.ofInt 1)).toInt ≠ 0 → PCV s sc13 1 := by first | (intro _; exact g13_0) | (intro h; exact absurd rfl h)
                    have n78b : (w13_46_2).toInt ≤ (u_46_1).toInt := by first | exact n13_0 | (have a0 := in_u h2; have a1 := in_u r_46_1; have a2 := in_u ((inv_F hIc13 0 120 rfl v13_102_4)); have a3 := in_u i22x5; have a4 := in_u ((inv_F hIc13 0 1000 rfl v13_46_4)); have a5 := in_u ((inv_F hIc13 0 1000 rfl v13_46_2)); have a6 := in_u i16; omega)
                    have n78c : (sc13.2.2.1 46 2).toInt ≤ (sc13.2.2.1 46 1).toInt := by have b0 : w13_46_2 = sc13.2.2.1 46 2 := v13_46_2; have b1 : u_46_1 = sc13.2.2.1 46 1 := fr_F e_46_1 hFc13 rfl; rw [← b0, ← b1]; exact n78b
                    have n78d : (w13_46_4).toInt ≤ (w13_46_2).toInt := by first | exact n13_1 | (have a0 := in_u h2; have a1 := in_u r_46_1; have a2 := in_u ((inv_F hIc13 0 120 rfl v13_102_4)); have a3 := in_u i22x5; have a4 := in_u ((inv_F hIc13 0 1000 rfl v13_46_4)); have a5 := in_u ((inv_F hIc13 0 1000 rfl v13_46_2)); have a6 := in_u i16; omega)
                    have n78e : (sc13.2.2.1 46 4).toInt ≤ (sc13.2.2.1 46 2).toInt := by have b0 : w13_46_4 = sc13.2.2.1 46 4 := v13_46_4; have b1 : w13_46_2 = sc13.2.2.1 46 2 := v13_46_2; rw [← b0, ← b1]; exact n78d
                    have n78f : (w13_102_4).toInt ≤ (w13_46_4).toInt := by first | exact n13_2 | (have a0 := in_u h2; have a1 := in_u r_46_1; have a2 := in_u ((inv_F hIc13 0 120 rfl v13_102_4)); have a3 := in_u i22x5; have a4 := in_u ((inv_F hIc13 0 1000 rfl v13_46_4)); have a5 := in_u ((inv_F hIc13 0 1000 rfl v13_46_2)); have a6 := in_u i16; omega)
                    have n78g : (sc13.2.2.1 102 4).toInt ≤ (sc13.2.2.1 46 4).toInt := by have b0 : w13_102_4 = sc13.2.2.1 102 4 := v13_102_4; have b1 : w13_46_4 = sc13.2.2.1 46 4 := v13_46_4; rw [← b0, ← b1]; exact n78f
                    have n78h : (u_46_4).toInt - (u_102_4).toInt ≤ (w13_46_4).toInt - (w13_102_4).toInt := by first | exact n13_3 | (have a0 := in_u h2; have a1 := in_u r_46_1; have a2 := in_u ((inv_F hIc13 0 120 rfl v13_102_4)); have a3 := in_u i22x5; have a4 := in_u ((inv_F hIc13 0 1000 rfl v13_46_4)); have a5 := in_u ((inv_F hIc13 0 1000 rfl v13_46_2)); have a6 := in_u i16; omega)
                    have n78i : (s.2.2.1 46 4).toInt - (s.2.2.1 102 4).toInt ≤ (sc13.2.2.1 46 4).toInt - (sc13.2.2.1 102 4).toInt := by have b0 : w13_46_4 = sc13.2.2.1 46 4 := v13_46_4; have b1 : w13_102_4 = sc13.2.2.1 102 4 := v13_102_4; first | (rw [← b0, ← b1, ← e_46_4, ← e_102_4]; exact n78h) | (rw [← b0, ← b1]; exact n78h)
                    exact g_ireturn (gd rfl) rfl (nb01 (in_w 0 1 (in_c 1 rfl) rfl)) (hP _ _ ⟨sc13, hIc13, hFc13, n78c, n78e, n78g, n78i, (Int32.ofInt 1), rfl, rfl, in_w 0 1 (in_c 1 rfl) rfl, n78, n78a⟩)
                  · skip
                    exact zn_ne c34 (in_c 0 rfl) rfl
                · skip
                  have i31x13 := r_eq1 45 45 c31x13 (inv_F hIc13 (-2147483648) 2147483647 rfl v13_46_5) (in_c 45 rfl) rfl
                  refine g_iconst 1 17 (gd rfl) rfl rfl ?_
                  refine g_goto 21 (gd rfl) rfl ?_
                  refine g_ireturn (gd rfl) rfl (nb01 (in_w 0 1 (in_c 1 rfl) rfl)) (hp31 _ _ ?_)
                  show GG _ _ _ _ _ _ _ _ [.int (Int32.ofInt 1)] _ _ _
                  refine g_if_eq 37 77 (gd rfl) rfl rfl (fun c34 => ?_) (fun c34 => ?_)
                  · skip
                    exact zn_eq c34 (in_c 1 rfl) rfl
                  · skip
                    refine g_aload_n 38 (gd rfl) rfl rfl ?_
                    refine g_getI 41 (gd rfl) rfl rfl rfl (fun z38 e38 => ?_)
                    have q38 : w13_46_5 = z38 := (v13_46_5).trans e38.symm
                    subst q38
                    refine g_istore 43 (gd rfl) rfl (Nat.le_of_ble_eq_true rfl) ?_
                    refine g_aload_n 44 (gd rfl) rfl rfl ?_
                    refine g_bipush 6 46 (gd rfl) rfl rfl ?_
                    refine g_iconst 0 47 (gd rfl) rfl rfl ?_
                    have hk := tka_1 g13_1 (show w13_46_3 = sc13.2.2.1 46 3 from v13_46_3) (show w13_46_4 = sc13.2.2.1 46 4 from v13_46_4) (show w13_46_2 = sc13.2.2.1 46 2 from v13_46_2) (by have a0 := in_u h2; have a1 := in_u r_46_1; have a2 := in_u ((inv_F hIc13 0 120 rfl v13_102_4)); have a3 := in_u i31x13; have a4 := in_u i22x5; have a5 := in_u ((inv_F hIc13 0 1000 rfl v13_46_4)); have a6 := in_u ((inv_F hIc13 0 1000 rfl v13_46_2)); have a7 := in_u i16; omega)
                    have v47 : u_46_1 = sc13.2.2.1 46 1 := fr_F e_46_1 hFc13 rfl
                    have n47 : (w13_46_2).toInt ≤ (u_46_1).toInt := by first | exact n13_0 | (have a0 := in_u h2; have a1 := in_u r_46_1; have a2 := in_u ((inv_F hIc13 0 120 rfl v13_102_4)); have a3 := in_u i31x13; have a4 := in_u i22x5; have a5 := in_u ((inv_F hIc13 0 1000 rfl v13_46_4)); have a6 := in_u ((inv_F hIc13 0 1000 rfl v13_46_2)); have a7 := in_u i16; omega)
                    refine g_callv (X := _) (As := [.int (Int32.ofInt 6), .int (Int32.ofInt 0)]) (r := []) (b := A 46) (q := 46) 50 (gd rfl) rfl rfl rfl rfl rfl (ww_o rfl) (Nat.le_of_ble_eq_true rfl) (Nat.zero_le _) (Nat.zero_le _) (k_171_46 (by first | exact dq1 hd rfl | exact dq0 hd rfl | exact dq2 hd rfl | exact dq3 hd rfl | omega) hIc13 (in_w 6 7 (in_c 6 rfl) rfl) (in_w 0 1 (in_c 0 rfl) rfl) v13_46_2 v47 n47) (fun e u h => h) (fun v u h => ?_)
                    obtain ⟨s47, hI47, hF47, n47a, n47b, n47c, rfl, rfl, p47, p47a⟩ := h
                    obtain ⟨z47a, e47⟩ : ∃ w, w = s47.2.2.1 46 2 := ⟨_, rfl⟩
                    have i47a := inv_F hI47 0 1000 rfl e47
                    obtain ⟨z47b, e47a⟩ : ∃ w, w = s47.2.2.1 46 4 := ⟨_, rfl⟩
                    have i47b := inv_F hI47 0 1000 rfl e47a
                    rw [← (show z47a = s47.2.2.1 46 2 from e47)] at n47a
                    rw [← (show u_46_1 = s47.2.2.1 46 1 from fr_F (fr_F e_46_1 hFc13 rfl) hF47 rfl)] at n47a
                    rw [← (show z47a = s47.2.2.1 46 2 from e47)] at n47b
                    rw [← (show z47b = s47.2.2.1 46 4 from e47a)] at n47b
                    rw [← (show w13_46_2 = sc13.2.2.1 46 2 from v13_46_2)] at n47c
                    rw [← (show z47b = s47.2.2.1 46 4 from e47a)] at n47c
                    show GG _ _ _ _ _ _ _ _ [] _ _ _
                    refine g_aload_n 51 (gd rfl) rfl rfl ?_
                    refine g_aload_n 52 (gd rfl) rfl rfl ?_
                    refine g_iload_n 53 (gd rfl) rfl rfl ?_
                    have v53 : u_46_1 = s47.2.2.1 46 1 := fr_F (fr_F e_46_1 hFc13 rfl) hF47 rfl
                    have v53a : w13_102_4 = s47.2.2.1 102 4 := fr_F (v13_102_4) hF47 rfl
                    have n53 : (z47a).toInt ≤ (u_46_1).toInt := by have a0 := in_u h2; have a1 := in_u r_46_1; have a2 := in_u ((inv_F hIc13 0 120 rfl v13_102_4)); have a3 := in_u i31x13; have a4 := in_u i22x5; have a5 := in_u ((inv_F hIc13 0 1000 rfl v13_46_4)); have a6 := in_u ((inv_F hIc13 0 1000 rfl v13_46_2)); have a7 := in_u i16; have a8 := in_u i47b; have a9 := in_u i47a; omega
                    have n53a : (z47b).toInt ≤ (z47a).toInt := by have a0 := in_u h2; have a1 := in_u r_46_1; have a2 := in_u ((inv_F hIc13 0 120 rfl v13_102_4)); have a3 := in_u i31x13; have a4 := in_u i22x5; have a5 := in_u ((inv_F hIc13 0 1000 rfl v13_46_4)); have a6 := in_u ((inv_F hIc13 0 1000 rfl v13_46_2)); have a7 := in_u i16; have a8 := in_u i47b; have a9 := in_u i47a; omega
                    have n53b : (w13_102_4).toInt ≤ (z47b).toInt := by have a0 := in_u h2; have a1 := in_u r_46_1; have a2 := in_u ((inv_F hIc13 0 120 rfl v13_102_4)); have a3 := in_u i31x13; have a4 := in_u i22x5; have a5 := in_u ((inv_F hIc13 0 1000 rfl v13_46_4)); have a6 := in_u ((inv_F hIc13 0 1000 rfl v13_46_2)); have a7 := in_u i16; have a8 := in_u i47b; have a9 := in_u i47a; omega
                    have p53 : TK s47 := by exact p47 (by decide)
                    have n53c : 10 - (x2).toInt < ((kk : Nat) : Int) := by have a0 := in_u h2; have a1 := in_u r_46_1; have a2 := in_u ((inv_F hIc13 0 120 rfl v13_102_4)); have a3 := in_u i31x13; have a4 := in_u i22x5; have a5 := in_u ((inv_F hIc13 0 1000 rfl v13_46_4)); have a6 := in_u ((inv_F hIc13 0 1000 rfl v13_46_2)); have a7 := in_u i16; have a8 := in_u i47b; have a9 := in_u i47a; omega
                    refine g_callv (X := _) (As := [.ref (A 46), .int x2]) (r := []) (b := A 102) (q := 102) 56 (gd rfl) rfl rfl rfl rfl rfl (ww_o rfl) (Nat.le_of_ble_eq_true rfl) (Nat.zero_le _) (Nat.zero_le _) (ih (by omega) hI47 (in_w 0 10 h2 rfl) e47 v53 e47a rfl rfl v53a (in_w 0 120 r_46_1 rfl) n53 n53a n53b p53 n53c) (fun e u h => h) (fun v u h => ?_)
                    obtain ⟨s53, hI53, hF53, n53d, n53e, n53f, n53g, z53, rfl, rfl, i53, p53a, p53b⟩ := h
                    obtain ⟨z53a, e53⟩ : ∃ w, w = s53.2.2.1 46 2 := ⟨_, rfl⟩
                    have i53a := inv_F hI53 0 1000 rfl e53
                    obtain ⟨z53b, e53a⟩ : ∃ w, w = s53.2.2.1 46 4 := ⟨_, rfl⟩
                    have i53b := inv_F hI53 0 1000 rfl e53a
                    obtain ⟨z53c, e53b⟩ : ∃ w, w = s53.2.2.1 102 4 := ⟨_, rfl⟩
                    have i53c := inv_F hI53 0 120 rfl e53b
                    rw [← (show z53a = s53.2.2.1 46 2 from e53)] at n53d
                    rw [← (show u_46_1 = s53.2.2.1 46 1 from fr_F (fr_F (fr_F e_46_1 hFc13 rfl) hF47 rfl) hF53 rfl)] at n53d
                    rw [← (show z53a = s53.2.2.1 46 2 from e53)] at n53e
                    rw [← (show z53b = s53.2.2.1 46 4 from e53a)] at n53e
                    rw [← (show z53b = s53.2.2.1 46 4 from e53a)] at n53f
                    rw [← (show z53c = s53.2.2.1 102 4 from e53b)] at n53f
                    rw [← (show z47b = s47.2.2.1 46 4 from e47a)] at n53g
                    rw [← (show w13_102_4 = s47.2.2.1 102 4 from fr_F (v13_102_4) hF47 rfl)] at n53g
                    rw [← (show z53b = s53.2.2.1 46 4 from e53a)] at n53g
                    rw [← (show z53c = s53.2.2.1 102 4 from e53b)] at n53g
                    show GG _ _ _ _ _ _ _ _ [.int z53] _ _ _
                    refine g_if_ne 59 61 (gd rfl) rfl rfl (fun c56 => ?_) (fun c56 => ?_)
                    · skip
                      have i56 := z_ne 1 1 c56 i53 rfl
                      refine g_aload_n 62 (gd rfl) rfl rfl ?_
                      refine g_ldc 1000100 64 (gd rfl) rfl rfl ?_
                      refine g_iload 66 (gd rfl) rfl rfl ?_
                      refine g_iadd 67 (gd rfl) rfl (fun z66 e66 => ?_)
                      have i66 := in_add 1000145 1000145 e66 (in_c 1000100 rfl) i31x13 rfl rfl
                      have hDe : _ = s53.2.2.1 102 4 := (show z53c = s53.2.2.1 102 4 from e53b)
                      have n67 : (z53c).toInt ≤ 119 := by have a0 := in_u h2; have a1 := in_u r_46_1; have a2 := in_u ((inv_F hIc13 0 120 rfl v13_102_4)); have a3 := in_u i31x13; have a4 := in_u i22x5; have a5 := in_u ((inv_F hIc13 0 1000 rfl v13_46_4)); have a6 := in_u ((inv_F hIc13 0 1000 rfl v13_46_2)); have a7 := in_u i16; have a8 := in_u i53c; have a9 := in_u i53b; have a10 := in_u i53a; have a11 := in_u i66; have a12 := t_add e66 (in_c 1000100 rfl) i31x13 rfl; have a13 := in_u ((in_c 1000100 rfl)); omega
                      refine g_callv (X := _) (As := [.int z66]) (r := []) (b := A 102) (q := 102) 70 (gd rfl) rfl rfl rfl rfl rfl (ww_o rfl) (Nat.le_of_ble_eq_true rfl) (Nat.zero_le _) (Nat.zero_le _) (k_57_102 (by first | exact dq1 hd rfl | exact dq0 hd rfl | exact dq2 hd rfl | exact dq3 hd rfl | omega) hI53 e53b n67) (fun e u h => h) (fun v u h => ?_)
                      obtain ⟨s67, hI67, hF67, n67a, z67, rfl, rfl, i67, p67⟩ := h
                      obtain ⟨z67a, e67⟩ : ∃ w, w = s67.2.2.1 102 4 := ⟨_, rfl⟩
                      have i67a := inv_F hI67 0 120 rfl e67
                      rw [← (show z53c = s53.2.2.1 102 4 from e53b)] at n67a
                      rw [← (show z67a = s67.2.2.1 102 4 from e67)] at n67a
                      show GG _ _ _ _ _ _ _ _ [.int z67] _ _ _
                      refine g_pop 71 (gd rfl) rfl rfl ?_
                      refine g_iinc 74 (gd rfl) rfl rfl (Nat.le_of_ble_eq_true rfl) (fun z71 e71 => ?_)
                      have i71 := in_add 1 120 e71 i16 (in_c 1 rfl) rfl rfl
                      refine g_goto 13 (gd rfl) rfl ?_
                      have v13 : z53a = s67.2.2.1 46 2 := fr_F (e53) hF67 rfl
                      have v13a : z53b = s67.2.2.1 46 4 := fr_F (e53a) hF67 rfl
                      have n13 : (z53a).toInt ≤ (u_46_1).toInt := by have a0 := in_u h2; have a1 := in_u r_46_1; have a2 := in_u ((inv_F hIc13 0 120 rfl v13_102_4)); have a3 := in_u i31x13; have a4 := in_u i22x5; have a5 := in_u ((inv_F hIc13 0 1000 rfl v13_46_4)); have a6 := in_u ((inv_F hIc13 0 1000 rfl v13_46_2)); have a7 := in_u i16; have a8 := in_u i71; have a9 := t_add e71 i16 (in_c 1 rfl) rfl; have a10 := in_u ((in_c 1 rfl)); have a11 := in_u i67a; have a12 := in_u i53b; have a13 := in_u i53a; have a14 := in_u i66; have a15 := t_add e66 (in_c 1000100 rfl) i31x13 rfl; have a16 := in_u ((in_c 1000100 rfl)); omega
                      have n13a : (z53b).toInt ≤ (z53a).toInt := by have a0 := in_u h2; have a1 := in_u r_46_1; have a2 := in_u ((inv_F hIc13 0 120 rfl v13_102_4)); have a3 := in_u i31x13; have a4 := in_u i22x5; have a5 := in_u ((inv_F hIc13 0 1000 rfl v13_46_4)); have a6 := in_u ((inv_F hIc13 0 1000 rfl v13_46_2)); have a7 := in_u i16; have a8 := in_u i71; have a9 := t_add e71 i16 (in_c 1 rfl) rfl; have a10 := in_u ((in_c 1 rfl)); have a11 := in_u i67a; have a12 := in_u i53b; have a13 := in_u i53a; have a14 := in_u i66; have a15 := t_add e66 (in_c 1000100 rfl) i31x13 rfl; have a16 := in_u ((in_c 1000100 rfl)); omega
                      have n13b : (z67a).toInt ≤ (z53b).toInt := by have a0 := in_u h2; have a1 := in_u r_46_1; have a2 := in_u ((inv_F hIc13 0 120 rfl v13_102_4)); have a3 := in_u i31x13; have a4 := in_u i22x5; have a5 := in_u ((inv_F hIc13 0 1000 rfl v13_46_4)); have a6 := in_u ((inv_F hIc13 0 1000 rfl v13_46_2)); have a7 := in_u i16; have a8 := in_u i71; have a9 := t_add e71 i16 (in_c 1 rfl) rfl; have a10 := in_u ((in_c 1 rfl)); have a11 := in_u i67a; have a12 := in_u i53b; have a13 := in_u i53a; have a14 := in_u i66; have a15 := t_add e66 (in_c 1000100 rfl) i31x13 rfl; have a16 := in_u ((in_c 1000100 rfl)); omega
                      have n13c : (u_46_4).toInt - (u_102_4).toInt ≤ (z53b).toInt - (z67a).toInt := by have a0 := in_u h2; have a1 := in_u r_46_1; have a2 := in_u ((inv_F hIc13 0 120 rfl v13_102_4)); have a3 := in_u i31x13; have a4 := in_u i22x5; have a5 := in_u ((inv_F hIc13 0 1000 rfl v13_46_4)); have a6 := in_u ((inv_F hIc13 0 1000 rfl v13_46_2)); have a7 := in_u i16; have a8 := in_u i71; have a9 := t_add e71 i16 (in_c 1 rfl) rfl; have a10 := in_u ((in_c 1 rfl)); have a11 := in_u i67a; have a12 := in_u i53b; have a13 := in_u i53a; have a14 := in_u i66; have a15 := t_add e66 (in_c 1000100 rfl) i31x13 rfl; have a16 := in_u ((in_c 1000100 rfl)); omega
                      have n13d : PCV s s67 1 := by exact pv_st (j := 2) (k := 1) (pv_tr (j := 1) (k := 1) (pv_tr (j := 1) (k := 0) g13_0 (pv_sm (hF47.1 104 rfl) (hF47.2.2.1 102 4 rfl))) (p53b c56)) (inv_F hI53 0 120 rfl rfl).1 p67 (by rw [← (show z67a = s67.2.2.1 102 4 from e67), ← hDe]; have a0 := in_u h2; have a1 := in_u r_46_1; have a2 := in_u ((inv_F hIc13 0 120 rfl v13_102_4)); have a3 := in_u i31x13; have a4 := in_u i22x5; have a5 := in_u ((inv_F hIc13 0 1000 rfl v13_46_4)); have a6 := in_u ((inv_F hIc13 0 1000 rfl v13_46_2)); have a7 := in_u i16; have a8 := in_u i71; have a9 := t_add e71 i16 (in_c 1 rfl) rfl; have a10 := in_u ((in_c 1 rfl)); have a11 := in_u i67a; have a12 := in_u i53b; have a13 := in_u i53a; have a14 := in_u i66; have a15 := t_add e66 (in_c 1000100 rfl) i31x13 rfl; have a16 := in_u ((in_c 1000100 rfl)); omega) (fun e => hc_b (by have a0 := in_u h2; have a1 := in_u r_46_1; have a2 := in_u ((inv_F hIc13 0 120 rfl v13_102_4)); have a3 := in_u i31x13; have a4 := in_u i22x5; have a5 := in_u ((inv_F hIc13 0 1000 rfl v13_46_4)); have a6 := in_u ((inv_F hIc13 0 1000 rfl v13_46_2)); have a7 := in_u i16; have a8 := in_u i71; have a9 := t_add e71 i16 (in_c 1 rfl) rfl; have a10 := in_u ((in_c 1 rfl)); have a11 := in_u i67a; have a12 := in_u i53b; have a13 := in_u i53a; have a14 := in_u i66; have a15 := t_add e66 (in_c 1000100 rfl) i31x13 rfl; have a16 := in_u ((in_c 1000100 rfl)); omega) (by have a0 := in_u h2; have a1 := in_u r_46_1; have a2 := in_u ((inv_F hIc13 0 120 rfl v13_102_4)); have a3 := in_u i31x13; have a4 := in_u i22x5; have a5 := in_u ((inv_F hIc13 0 1000 rfl v13_46_4)); have a6 := in_u ((inv_F hIc13 0 1000 rfl v13_46_2)); have a7 := in_u i16; have a8 := in_u i71; have a9 := t_add e71 i16 (in_c 1 rfl) rfl; have a10 := in_u ((in_c 1 rfl)); have a11 := in_u i67a; have a12 := in_u i53b; have a13 := in_u i53a; have a14 := in_u i66; have a15 := t_add e66 (in_c 1000100 rfl) i31x13 rfl; have a16 := in_u ((in_c 1000100 rfl)); omega) e)
                      have n13e : TK s67 := by exact tk_fr hF67 rfl p53a
                      exact gg_w (by first | exact Nat.le_add_right _ _ | exact gw2 | exact gw3 | exact gwe rfl | exact gwf rfl | exact gwg rfl | exact gwh rfl | omega) (gg_f (gf_cons rfl (gf_cons rfl (gf_cons rfl (gf_cons rfl gf_nil)))) (ih13 s67 z71 z53a z53b _ _ z67a hI67 (fr_tr rfl (fr_tr rfl (fr_tr rfl hFc13 hF47) hF53) hF67) (in_w 0 120 i71 rfl) v13 v13a rfl rfl e67 n13 n13a n13b n13c n13d n13e (m_up mm13 (t_add e71 i16 (in_c 1 rfl) rfl) (in_w 1 1 (in_c 1 rfl) rfl))))
                    · skip
                      have i56 := z_eq 0 0 c56 i53 rfl
                      refine g_iconst 0 60 (gd rfl) rfl rfl ?_
                      have n60 : TK s53 := by first | exact g13_1 | exact p53a | exact p3a
                      have n60a : ((Int32.ofInt 0)).toInt ≠ 0 → PCV s s53 1 := by first | (intro _; exact g13_0) | (intro h; exact absurd rfl h)
                      have n60b : (z53a).toInt ≤ (u_46_1).toInt := by have a0 := in_u h2; have a1 := in_u r_46_1; have a2 := in_u ((inv_F hIc13 0 120 rfl v13_102_4)); have a3 := in_u i31x13; have a4 := in_u i22x5; have a5 := in_u ((inv_F hIc13 0 1000 rfl v13_46_4)); have a6 := in_u ((inv_F hIc13 0 1000 rfl v13_46_2)); have a7 := in_u i16; have a8 := in_u i53c; have a9 := in_u i53b; have a10 := in_u i53a; omega
                      have n60c : (s53.2.2.1 46 2).toInt ≤ (s53.2.2.1 46 1).toInt := by have b0 : z53a = s53.2.2.1 46 2 := e53; have b1 : u_46_1 = s53.2.2.1 46 1 := fr_F (fr_F (fr_F e_46_1 hFc13 rfl) hF47 rfl) hF53 rfl; rw [← b0, ← b1]; exact n60b
                      have n60d : (z53b).toInt ≤ (z53a).toInt := by have a0 := in_u h2; have a1 := in_u r_46_1; have a2 := in_u ((inv_F hIc13 0 120 rfl v13_102_4)); have a3 := in_u i31x13; have a4 := in_u i22x5; have a5 := in_u ((inv_F hIc13 0 1000 rfl v13_46_4)); have a6 := in_u ((inv_F hIc13 0 1000 rfl v13_46_2)); have a7 := in_u i16; have a8 := in_u i53c; have a9 := in_u i53b; have a10 := in_u i53a; omega
                      have n60e : (s53.2.2.1 46 4).toInt ≤ (s53.2.2.1 46 2).toInt := by have b0 : z53b = s53.2.2.1 46 4 := e53a; have b1 : z53a = s53.2.2.1 46 2 := e53; rw [← b0, ← b1]; exact n60d
                      have n60f : (z53c).toInt ≤ (z53b).toInt := by have a0 := in_u h2; have a1 := in_u r_46_1; have a2 := in_u ((inv_F hIc13 0 120 rfl v13_102_4)); have a3 := in_u i31x13; have a4 := in_u i22x5; have a5 := in_u ((inv_F hIc13 0 1000 rfl v13_46_4)); have a6 := in_u ((inv_F hIc13 0 1000 rfl v13_46_2)); have a7 := in_u i16; have a8 := in_u i53c; have a9 := in_u i53b; have a10 := in_u i53a; omega
                      have n60g : (s53.2.2.1 102 4).toInt ≤ (s53.2.2.1 46 4).toInt := by have b0 : z53c = s53.2.2.1 102 4 := e53b; have b1 : z53b = s53.2.2.1 46 4 := e53a; rw [← b0, ← b1]; exact n60f
                      have n60h : (u_46_4).toInt - (u_102_4).toInt ≤ (z53b).toInt - (z53c).toInt := by have a0 := in_u h2; have a1 := in_u r_46_1; have a2 := in_u ((inv_F hIc13 0 120 rfl v13_102_4)); have a3 := in_u i31x13; have a4 := in_u i22x5; have a5 := in_u ((inv_F hIc13 0 1000 rfl v13_46_4)); have a6 := in_u ((inv_F hIc13 0 1000 rfl v13_46_2)); have a7 := in_u i16; have a8 := in_u i53c; have a9 := in_u i53b; have a10 := in_u i53a; omega
                      have n60i : (s.2.2.1 46 4).toInt - (s.2.2.1 102 4).toInt ≤ (s53.2.2.1 46 4).toInt - (s53.2.2.1 102 4).toInt := by have b0 : z53b = s53.2.2.1 46 4 := e53a; have b1 : z53c = s53.2.2.1 102 4 := e53b; first | (rw [← b0, ← b1, ← e_46_4, ← e_102_4]; exact n60h) | (rw [← b0, ← b1]; exact n60h)
                      exact g_ireturn (gd rfl) rfl (nb01 (in_w 0 1 (in_c 0 rfl) rfl)) (hP _ _ ⟨s53, hI53, (fr_tr rfl (fr_tr rfl hFc13 hF47) hF53), n60c, n60e, n60g, n60i, (Int32.ofInt 0), rfl, rfl, in_w 0 1 (in_c 0 rfl) rfl, n60, n60a⟩)
          · skip
            have i22x13 := r_eq1 43 43 c22x13 (inv_F hIc13 (-2147483648) 2147483647 rfl v13_46_5) (in_c 43 rfl) rfl
            refine g_iconst 1 17 (gd rfl) rfl rfl ?_
            refine g_goto 21 (gd rfl) rfl ?_
            refine g_ireturn (gd rfl) rfl (nb01 (in_w 0 1 (in_c 1 rfl) rfl)) (hp22 _ _ ?_)
            show GG _ _ _ _ _ _ _ _ [.int (Int32.ofInt 1)] _ _ _
            refine g_if_ne 28 37 (gd rfl) rfl rfl (fun c25 => ?_) (fun c25 => ?_)
            · skip
              refine g_aload_n 38 (gd rfl) rfl rfl ?_
              refine g_getI 41 (gd rfl) rfl rfl rfl (fun z38 e38 => ?_)
              have q38 : w13_46_5 = z38 := (v13_46_5).trans e38.symm
              subst q38
              refine g_istore 43 (gd rfl) rfl (Nat.le_of_ble_eq_true rfl) ?_
              refine g_aload_n 44 (gd rfl) rfl rfl ?_
              refine g_bipush 6 46 (gd rfl) rfl rfl ?_
              refine g_iconst 0 47 (gd rfl) rfl rfl ?_
              have hk := tka_1 g13_1 (show w13_46_3 = sc13.2.2.1 46 3 from v13_46_3) (show w13_46_4 = sc13.2.2.1 46 4 from v13_46_4) (show w13_46_2 = sc13.2.2.1 46 2 from v13_46_2) (by have a0 := in_u h2; have a1 := in_u r_46_1; have a2 := in_u ((inv_F hIc13 0 120 rfl v13_102_4)); have a3 := in_u i22x13; have a4 := in_u i22x5; have a5 := in_u ((inv_F hIc13 0 1000 rfl v13_46_4)); have a6 := in_u ((inv_F hIc13 0 1000 rfl v13_46_2)); have a7 := in_u i16; omega)
              have v47 : u_46_1 = sc13.2.2.1 46 1 := fr_F e_46_1 hFc13 rfl
              have n47 : (w13_46_2).toInt ≤ (u_46_1).toInt := by first | exact n13_0 | (have a0 := in_u h2; have a1 := in_u r_46_1; have a2 := in_u ((inv_F hIc13 0 120 rfl v13_102_4)); have a3 := in_u i22x13; have a4 := in_u i22x5; have a5 := in_u ((inv_F hIc13 0 1000 rfl v13_46_4)); have a6 := in_u ((inv_F hIc13 0 1000 rfl v13_46_2)); have a7 := in_u i16; omega)
              refine g_callv (X := _) (As := [.int (Int32.ofInt 6), .int (Int32.ofInt 0)]) (r := []) (b := A 46) (q := 46) 50 (gd rfl) rfl rfl rfl rfl rfl (ww_o rfl) (Nat.le_of_ble_eq_true rfl) (Nat.zero_le _) (Nat.zero_le _) (k_171_46 (by first | exact dq1 hd rfl | exact dq0 hd rfl | exact dq2 hd rfl | exact dq3 hd rfl | omega) hIc13 (in_w 6 7 (in_c 6 rfl) rfl) (in_w 0 1 (in_c 0 rfl) rfl) v13_46_2 v47 n47) (fun e u h => h) (fun v u h => ?_)
              obtain ⟨s47, hI47, hF47, n47a, n47b, n47c, rfl, rfl, p47, p47a⟩ := h
              obtain ⟨z47a, e47⟩ : ∃ w, w = s47.2.2.1 46 2 := ⟨_, rfl⟩
              have i47a := inv_F hI47 0 1000 rfl e47
              obtain ⟨z47b, e47a⟩ : ∃ w, w = s47.2.2.1 46 4 := ⟨_, rfl⟩
              have i47b := inv_F hI47 0 1000 rfl e47a
              rw [← (show z47a = s47.2.2.1 46 2 from e47)] at n47a
              rw [← (show u_46_1 = s47.2.2.1 46 1 from fr_F (fr_F e_46_1 hFc13 rfl) hF47 rfl)] at n47a
              rw [← (show z47a = s47.2.2.1 46 2 from e47)] at n47b
              rw [← (show z47b = s47.2.2.1 46 4 from e47a)] at n47b
              rw [← (show w13_46_2 = sc13.2.2.1 46 2 from v13_46_2)] at n47c
              rw [← (show z47b = s47.2.2.1 46 4 from e47a)] at n47c
              show GG _ _ _ _ _ _ _ _ [] _ _ _
              refine g_aload_n 51 (gd rfl) rfl rfl ?_
              refine g_aload_n 52 (gd rfl) rfl rfl ?_
              refine g_iload_n 53 (gd rfl) rfl rfl ?_
              have v53 : u_46_1 = s47.2.2.1 46 1 := fr_F (fr_F e_46_1 hFc13 rfl) hF47 rfl
              have v53a : w13_102_4 = s47.2.2.1 102 4 := fr_F (v13_102_4) hF47 rfl
              have n53 : (z47a).toInt ≤ (u_46_1).toInt := by have a0 := in_u h2; have a1 := in_u r_46_1; have a2 := in_u ((inv_F hIc13 0 120 rfl v13_102_4)); have a3 := in_u i22x13; have a4 := in_u i22x5; have a5 := in_u ((inv_F hIc13 0 1000 rfl v13_46_4)); have a6 := in_u ((inv_F hIc13 0 1000 rfl v13_46_2)); have a7 := in_u i16; have a8 := in_u i47b; have a9 := in_u i47a; omega
              have n53a : (z47b).toInt ≤ (z47a).toInt := by have a0 := in_u h2; have a1 := in_u r_46_1; have a2 := in_u ((inv_F hIc13 0 120 rfl v13_102_4)); have a3 := in_u i22x13; have a4 := in_u i22x5; have a5 := in_u ((inv_F hIc13 0 1000 rfl v13_46_4)); have a6 := in_u ((inv_F hIc13 0 1000 rfl v13_46_2)); have a7 := in_u i16; have a8 := in_u i47b; have a9 := in_u i47a; omega
              have n53b : (w13_102_4).toInt ≤ (z47b).toInt := by have a0 := in_u h2; have a1 := in_u r_46_1; have a2 := in_u ((inv_F hIc13 0 120 rfl v13_102_4)); have a3 := in_u i22x13; have a4 := in_u i22x5; have a5 := in_u ((inv_F hIc13 0 1000 rfl v13_46_4)); have a6 := in_u ((inv_F hIc13 0 1000 rfl v13_46_2)); have a7 := in_u i16; have a8 := in_u i47b; have a9 := in_u i47a; omega
              have p53 : TK s47 := by exact p47 (by decide)
              have n53c : 10 - (x2).toInt < ((kk : Nat) : Int) := by have a0 := in_u h2; have a1 := in_u r_46_1; have a2 := in_u ((inv_F hIc13 0 120 rfl v13_102_4)); have a3 := in_u i22x13; have a4 := in_u i22x5; have a5 := in_u ((inv_F hIc13 0 1000 rfl v13_46_4)); have a6 := in_u ((inv_F hIc13 0 1000 rfl v13_46_2)); have a7 := in_u i16; have a8 := in_u i47b; have a9 := in_u i47a; omega
              refine g_callv (X := _) (As := [.ref (A 46), .int x2]) (r := []) (b := A 102) (q := 102) 56 (gd rfl) rfl rfl rfl rfl rfl (ww_o rfl) (Nat.le_of_ble_eq_true rfl) (Nat.zero_le _) (Nat.zero_le _) (ih (by omega) hI47 (in_w 0 10 h2 rfl) e47 v53 e47a rfl rfl v53a (in_w 0 120 r_46_1 rfl) n53 n53a n53b p53 n53c) (fun e u h => h) (fun v u h => ?_)
              obtain ⟨s53, hI53, hF53, n53d, n53e, n53f, n53g, z53, rfl, rfl, i53, p53a, p53b⟩ := h
              obtain ⟨z53a, e53⟩ : ∃ w, w = s53.2.2.1 46 2 := ⟨_, rfl⟩
              have i53a := inv_F hI53 0 1000 rfl e53
              obtain ⟨z53b, e53a⟩ : ∃ w, w = s53.2.2.1 46 4 := ⟨_, rfl⟩
              have i53b := inv_F hI53 0 1000 rfl e53a
              obtain ⟨z53c, e53b⟩ : ∃ w, w = s53.2.2.1 102 4 := ⟨_, rfl⟩
              have i53c := inv_F hI53 0 120 rfl e53b
              rw [← (show z53a = s53.2.2.1 46 2 from e53)] at n53d
              rw [← (show u_46_1 = s53.2.2.1 46 1 from fr_F (fr_F (fr_F e_46_1 hFc13 rfl) hF47 rfl) hF53 rfl)] at n53d
              rw [← (show z53a = s53.2.2.1 46 2 from e53)] at n53e
              rw [← (show z53b = s53.2.2.1 46 4 from e53a)] at n53e
              rw [← (show z53b = s53.2.2.1 46 4 from e53a)] at n53f
              rw [← (show z53c = s53.2.2.1 102 4 from e53b)] at n53f
              rw [← (show z47b = s47.2.2.1 46 4 from e47a)] at n53g
              rw [← (show w13_102_4 = s47.2.2.1 102 4 from fr_F (v13_102_4) hF47 rfl)] at n53g
              rw [← (show z53b = s53.2.2.1 46 4 from e53a)] at n53g
              rw [← (show z53c = s53.2.2.1 102 4 from e53b)] at n53g
              show GG _ _ _ _ _ _ _ _ [.int z53] _ _ _
              refine g_if_ne 59 61 (gd rfl) rfl rfl (fun c56 => ?_) (fun c56 => ?_)
              · skip
                have i56 := z_ne 1 1 c56 i53 rfl
                refine g_aload_n 62 (gd rfl) rfl rfl ?_
                refine g_ldc 1000100 64 (gd rfl) rfl rfl ?_
                refine g_iload 66 (gd rfl) rfl rfl ?_
                refine g_iadd 67 (gd rfl) rfl (fun z66 e66 => ?_)
                have i66 := in_add 1000143 1000143 e66 (in_c 1000100 rfl) i22x13 rfl rfl
                have hDe : _ = s53.2.2.1 102 4 := (show z53c = s53.2.2.1 102 4 from e53b)
                have n67 : (z53c).toInt ≤ 119 := by have a0 := in_u h2; have a1 := in_u r_46_1; have a2 := in_u ((inv_F hIc13 0 120 rfl v13_102_4)); have a3 := in_u i22x13; have a4 := in_u i22x5; have a5 := in_u ((inv_F hIc13 0 1000 rfl v13_46_4)); have a6 := in_u ((inv_F hIc13 0 1000 rfl v13_46_2)); have a7 := in_u i16; have a8 := in_u i53c; have a9 := in_u i53b; have a10 := in_u i53a; have a11 := in_u i66; have a12 := t_add e66 (in_c 1000100 rfl) i22x13 rfl; have a13 := in_u ((in_c 1000100 rfl)); omega
                refine g_callv (X := _) (As := [.int z66]) (r := []) (b := A 102) (q := 102) 70 (gd rfl) rfl rfl rfl rfl rfl (ww_o rfl) (Nat.le_of_ble_eq_true rfl) (Nat.zero_le _) (Nat.zero_le _) (k_57_102 (by first | exact dq1 hd rfl | exact dq0 hd rfl | exact dq2 hd rfl | exact dq3 hd rfl | omega) hI53 e53b n67) (fun e u h => h) (fun v u h => ?_)
                obtain ⟨s67, hI67, hF67, n67a, z67, rfl, rfl, i67, p67⟩ := h
                obtain ⟨z67a, e67⟩ : ∃ w, w = s67.2.2.1 102 4 := ⟨_, rfl⟩
                have i67a := inv_F hI67 0 120 rfl e67
                rw [← (show z53c = s53.2.2.1 102 4 from e53b)] at n67a
                rw [← (show z67a = s67.2.2.1 102 4 from e67)] at n67a
                show GG _ _ _ _ _ _ _ _ [.int z67] _ _ _
                refine g_pop 71 (gd rfl) rfl rfl ?_
                refine g_iinc 74 (gd rfl) rfl rfl (Nat.le_of_ble_eq_true rfl) (fun z71 e71 => ?_)
                have i71 := in_add 1 120 e71 i16 (in_c 1 rfl) rfl rfl
                refine g_goto 13 (gd rfl) rfl ?_
                have v13 : z53a = s67.2.2.1 46 2 := fr_F (e53) hF67 rfl
                have v13a : z53b = s67.2.2.1 46 4 := fr_F (e53a) hF67 rfl
                have n13 : (z53a).toInt ≤ (u_46_1).toInt := by have a0 := in_u h2; have a1 := in_u r_46_1; have a2 := in_u ((inv_F hIc13 0 120 rfl v13_102_4)); have a3 := in_u i22x13; have a4 := in_u i22x5; have a5 := in_u ((inv_F hIc13 0 1000 rfl v13_46_4)); have a6 := in_u ((inv_F hIc13 0 1000 rfl v13_46_2)); have a7 := in_u i16; have a8 := in_u i71; have a9 := t_add e71 i16 (in_c 1 rfl) rfl; have a10 := in_u ((in_c 1 rfl)); have a11 := in_u i67a; have a12 := in_u i53b; have a13 := in_u i53a; have a14 := in_u i66; have a15 := t_add e66 (in_c 1000100 rfl) i22x13 rfl; have a16 := in_u ((in_c 1000100 rfl)); omega
                have n13a : (z53b).toInt ≤ (z53a).toInt := by have a0 := in_u h2; have a1 := in_u r_46_1; have a2 := in_u ((inv_F hIc13 0 120 rfl v13_102_4)); have a3 := in_u i22x13; have a4 := in_u i22x5; have a5 := in_u ((inv_F hIc13 0 1000 rfl v13_46_4)); have a6 := in_u ((inv_F hIc13 0 1000 rfl v13_46_2)); have a7 := in_u i16; have a8 := in_u i71; have a9 := t_add e71 i16 (in_c 1 rfl) rfl; have a10 := in_u ((in_c 1 rfl)); have a11 := in_u i67a; have a12 := in_u i53b; have a13 := in_u i53a; have a14 := in_u i66; have a15 := t_add e66 (in_c 1000100 rfl) i22x13 rfl; have a16 := in_u ((in_c 1000100 rfl)); omega
                have n13b : (z67a).toInt ≤ (z53b).toInt := by have a0 := in_u h2; have a1 := in_u r_46_1; have a2 := in_u ((inv_F hIc13 0 120 rfl v13_102_4)); have a3 := in_u i22x13; have a4 := in_u i22x5; have a5 := in_u ((inv_F hIc13 0 1000 rfl v13_46_4)); have a6 := in_u ((inv_F hIc13 0 1000 rfl v13_46_2)); have a7 := in_u i16; have a8 := in_u i71; have a9 := t_add e71 i16 (in_c 1 rfl) rfl; have a10 := in_u ((in_c 1 rfl)); have a11 := in_u i67a; have a12 := in_u i53b; have a13 := in_u i53a; have a14 := in_u i66; have a15 := t_add e66 (in_c 1000100 rfl) i22x13 rfl; have a16 := in_u ((in_c 1000100 rfl)); omega
                have n13c : (u_46_4).toInt - (u_102_4).toInt ≤ (z53b).toInt - (z67a).toInt := by have a0 := in_u h2; have a1 := in_u r_46_1; have a2 := in_u ((inv_F hIc13 0 120 rfl v13_102_4)); have a3 := in_u i22x13; have a4 := in_u i22x5; have a5 := in_u ((inv_F hIc13 0 1000 rfl v13_46_4)); have a6 := in_u ((inv_F hIc13 0 1000 rfl v13_46_2)); have a7 := in_u i16; have a8 := in_u i71; have a9 := t_add e71 i16 (in_c 1 rfl) rfl; have a10 := in_u ((in_c 1 rfl)); have a11 := in_u i67a; have a12 := in_u i53b; have a13 := in_u i53a; have a14 := in_u i66; have a15 := t_add e66 (in_c 1000100 rfl) i22x13 rfl; have a16 := in_u ((in_c 1000100 rfl)); omega
                have n13d : PCV s s67 1 := by exact pv_st (j := 2) (k := 1) (pv_tr (j := 1) (k := 1) (pv_tr (j := 1) (k := 0) g13_0 (pv_sm (hF47.1 104 rfl) (hF47.2.2.1 102 4 rfl))) (p53b c56)) (inv_F hI53 0 120 rfl rfl).1 p67 (by rw [← (show z67a = s67.2.2.1 102 4 from e67), ← hDe]; have a0 := in_u h2; have a1 := in_u r_46_1; have a2 := in_u ((inv_F hIc13 0 120 rfl v13_102_4)); have a3 := in_u i22x13; have a4 := in_u i22x5; have a5 := in_u ((inv_F hIc13 0 1000 rfl v13_46_4)); have a6 := in_u ((inv_F hIc13 0 1000 rfl v13_46_2)); have a7 := in_u i16; have a8 := in_u i71; have a9 := t_add e71 i16 (in_c 1 rfl) rfl; have a10 := in_u ((in_c 1 rfl)); have a11 := in_u i67a; have a12 := in_u i53b; have a13 := in_u i53a; have a14 := in_u i66; have a15 := t_add e66 (in_c 1000100 rfl) i22x13 rfl; have a16 := in_u ((in_c 1000100 rfl)); omega) (fun e => hc_b (by have a0 := in_u h2; have a1 := in_u r_46_1; have a2 := in_u ((inv_F hIc13 0 120 rfl v13_102_4)); have a3 := in_u i22x13; have a4 := in_u i22x5; have a5 := in_u ((inv_F hIc13 0 1000 rfl v13_46_4)); have a6 := in_u ((inv_F hIc13 0 1000 rfl v13_46_2)); have a7 := in_u i16; have a8 := in_u i71; have a9 := t_add e71 i16 (in_c 1 rfl) rfl; have a10 := in_u ((in_c 1 rfl)); have a11 := in_u i67a; have a12 := in_u i53b; have a13 := in_u i53a; have a14 := in_u i66; have a15 := t_add e66 (in_c 1000100 rfl) i22x13 rfl; have a16 := in_u ((in_c 1000100 rfl)); omega) (by have a0 := in_u h2; have a1 := in_u r_46_1; have a2 := in_u ((inv_F hIc13 0 120 rfl v13_102_4)); have a3 := in_u i22x13; have a4 := in_u i22x5; have a5 := in_u ((inv_F hIc13 0 1000 rfl v13_46_4)); have a6 := in_u ((inv_F hIc13 0 1000 rfl v13_46_2)); have a7 := in_u i16; have a8 := in_u i71; have a9 := t_add e71 i16 (in_c 1 rfl) rfl; have a10 := in_u ((in_c 1 rfl)); have a11 := in_u i67a; have a12 := in_u i53b; have a13 := in_u i53a; have a14 := in_u i66; have a15 := t_add e66 (in_c 1000100 rfl) i22x13 rfl; have a16 := in_u ((in_c 1000100 rfl)); omega) e)
                have n13e : TK s67 := by exact tk_fr hF67 rfl p53a
                exact gg_w (by first | exact Nat.le_add_right _ _ | exact gw2 | exact gw3 | exact gwe rfl | exact gwf rfl | exact gwg rfl | exact gwh rfl | omega) (gg_f (gf_cons rfl (gf_cons rfl (gf_cons rfl (gf_cons rfl gf_nil)))) (ih13 s67 z71 z53a z53b _ _ z67a hI67 (fr_tr rfl (fr_tr rfl (fr_tr rfl hFc13 hF47) hF53) hF67) (in_w 0 120 i71 rfl) v13 v13a rfl rfl e67 n13 n13a n13b n13c n13d n13e (m_up mm13 (t_add e71 i16 (in_c 1 rfl) rfl) (in_w 1 1 (in_c 1 rfl) rfl))))
              · skip
                have i56 := z_eq 0 0 c56 i53 rfl
                refine g_iconst 0 60 (gd rfl) rfl rfl ?_
                have n60 : TK s53 := by first | exact g13_1 | exact p53a | exact p3a
                have n60a : ((Int32.ofInt 0)).toInt ≠ 0 → PCV s s53 1 := by first | (intro _; exact g13_0) | (intro h; exact absurd rfl h)
                have n60b : (z53a).toInt ≤ (u_46_1).toInt := by have a0 := in_u h2; have a1 := in_u r_46_1; have a2 := in_u ((inv_F hIc13 0 120 rfl v13_102_4)); have a3 := in_u i22x13; have a4 := in_u i22x5; have a5 := in_u ((inv_F hIc13 0 1000 rfl v13_46_4)); have a6 := in_u ((inv_F hIc13 0 1000 rfl v13_46_2)); have a7 := in_u i16; have a8 := in_u i53c; have a9 := in_u i53b; have a10 := in_u i53a; omega
                have n60c : (s53.2.2.1 46 2).toInt ≤ (s53.2.2.1 46 1).toInt := by have b0 : z53a = s53.2.2.1 46 2 := e53; have b1 : u_46_1 = s53.2.2.1 46 1 := fr_F (fr_F (fr_F e_46_1 hFc13 rfl) hF47 rfl) hF53 rfl; rw [← b0, ← b1]; exact n60b
                have n60d : (z53b).toInt ≤ (z53a).toInt := by have a0 := in_u h2; have a1 := in_u r_46_1; have a2 := in_u ((inv_F hIc13 0 120 rfl v13_102_4)); have a3 := in_u i22x13; have a4 := in_u i22x5; have a5 := in_u ((inv_F hIc13 0 1000 rfl v13_46_4)); have a6 := in_u ((inv_F hIc13 0 1000 rfl v13_46_2)); have a7 := in_u i16; have a8 := in_u i53c; have a9 := in_u i53b; have a10 := in_u i53a; omega
                have n60e : (s53.2.2.1 46 4).toInt ≤ (s53.2.2.1 46 2).toInt := by have b0 : z53b = s53.2.2.1 46 4 := e53a; have b1 : z53a = s53.2.2.1 46 2 := e53; rw [← b0, ← b1]; exact n60d
                have n60f : (z53c).toInt ≤ (z53b).toInt := by have a0 := in_u h2; have a1 := in_u r_46_1; have a2 := in_u ((inv_F hIc13 0 120 rfl v13_102_4)); have a3 := in_u i22x13; have a4 := in_u i22x5; have a5 := in_u ((inv_F hIc13 0 1000 rfl v13_46_4)); have a6 := in_u ((inv_F hIc13 0 1000 rfl v13_46_2)); have a7 := in_u i16; have a8 := in_u i53c; have a9 := in_u i53b; have a10 := in_u i53a; omega
                have n60g : (s53.2.2.1 102 4).toInt ≤ (s53.2.2.1 46 4).toInt := by have b0 : z53c = s53.2.2.1 102 4 := e53b; have b1 : z53b = s53.2.2.1 46 4 := e53a; rw [← b0, ← b1]; exact n60f
                have n60h : (u_46_4).toInt - (u_102_4).toInt ≤ (z53b).toInt - (z53c).toInt := by have a0 := in_u h2; have a1 := in_u r_46_1; have a2 := in_u ((inv_F hIc13 0 120 rfl v13_102_4)); have a3 := in_u i22x13; have a4 := in_u i22x5; have a5 := in_u ((inv_F hIc13 0 1000 rfl v13_46_4)); have a6 := in_u ((inv_F hIc13 0 1000 rfl v13_46_2)); have a7 := in_u i16; have a8 := in_u i53c; have a9 := in_u i53b; have a10 := in_u i53a; omega
                have n60i : (s.2.2.1 46 4).toInt - (s.2.2.1 102 4).toInt ≤ (s53.2.2.1 46 4).toInt - (s53.2.2.1 102 4).toInt := by have b0 : z53b = s53.2.2.1 46 4 := e53a; have b1 : z53c = s53.2.2.1 102 4 := e53b; first | (rw [← b0, ← b1, ← e_46_4, ← e_102_4]; exact n60h) | (rw [← b0, ← b1]; exact n60h)
                exact g_ireturn (gd rfl) rfl (nb01 (in_w 0 1 (in_c 0 rfl) rfl)) (hP _ _ ⟨s53, hI53, (fr_tr rfl (fr_tr rfl hFc13 hF47) hF53), n60c, n60e, n60g, n60i, (Int32.ofInt 0), rfl, rfl, in_w 0 1 (in_c 0 rfl) rfl, n60, n60a⟩)
            · skip
              exact zn_eq c25 (in_c 1 rfl) rfl
  refine g_enter2 (k := 59) (N := 109801) (by first | exact dq1 hd rfl | exact dq0 hd rfl | exact dq2 hd rfl | exact dq3 hd rfl | omega) rfl (Nat.le_of_ble_eq_true rfl) ?_
  refine g_aload_n 1 (gd rfl) rfl rfl ?_
  refine g_aload_n 2 (gd rfl) rfl rfl ?_
  refine g_iload_n 3 (gd rfl) rfl rfl ?_
  have n3 : (u_46_2).toInt ≤ (u_46_1).toInt := by have a0 := in_u ((inv_F hI 0 120 rfl e_102_4)); have a1 := in_u ((inv_F hI 0 5 rfl e_46_3)); have a2 := in_u ((inv_F hI 0 1000 rfl e_46_4)); have a3 := in_u r_46_1; have a4 := in_u ((inv_F hI 0 1000 rfl e_46_2)); have a5 := in_u h2; omega
  have n3a : (u_46_4).toInt ≤ (u_46_2).toInt := by have a0 := in_u ((inv_F hI 0 120 rfl e_102_4)); have a1 := in_u ((inv_F hI 0 5 rfl e_46_3)); have a2 := in_u ((inv_F hI 0 1000 rfl e_46_4)); have a3 := in_u r_46_1; have a4 := in_u ((inv_F hI 0 1000 rfl e_46_2)); have a5 := in_u h2; omega
  have n3b : (u_102_4).toInt ≤ (u_46_4).toInt := by have a0 := in_u ((inv_F hI 0 120 rfl e_102_4)); have a1 := in_u ((inv_F hI 0 5 rfl e_46_3)); have a2 := in_u ((inv_F hI 0 1000 rfl e_46_4)); have a3 := in_u r_46_1; have a4 := in_u ((inv_F hI 0 1000 rfl e_46_2)); have a5 := in_u h2; omega
  have p3 : TK s := by exact q_0
  have n3c : 10 - (x2).toInt < ((kk : Nat) : Int) := by have a0 := in_u ((inv_F hI 0 120 rfl e_102_4)); have a1 := in_u ((inv_F hI 0 5 rfl e_46_3)); have a2 := in_u ((inv_F hI 0 1000 rfl e_46_4)); have a3 := in_u r_46_1; have a4 := in_u ((inv_F hI 0 1000 rfl e_46_2)); have a5 := in_u h2; omega
  refine g_callv (X := _) (As := [.ref (A 46), .int x2]) (r := []) (b := A 102) (q := 102) 6 (gd rfl) rfl rfl rfl rfl rfl (ww_o rfl) (Nat.le_of_ble_eq_true rfl) (Nat.zero_le _) (Nat.zero_le _) (ih (by omega) hI (in_w 0 10 h2 rfl) e_46_2 e_46_1 e_46_4 e_46_3 e_46_5 e_102_4 (in_w 0 120 r_46_1 rfl) n3 n3a n3b p3 n3c) (fun e u h => h) (fun v u h => ?_)
  obtain ⟨s3, hI3, hF3, n3d, n3e, n3f, n3g, z3, rfl, rfl, i3, p3a, p3b⟩ := h
  obtain ⟨z3a, e3⟩ : ∃ w, w = s3.2.2.1 46 2 := ⟨_, rfl⟩
  have i3a := inv_F hI3 0 1000 rfl e3
  obtain ⟨z3b, e3a⟩ : ∃ w, w = s3.2.2.1 46 4 := ⟨_, rfl⟩
  have i3b := inv_F hI3 0 1000 rfl e3a
  obtain ⟨z3c, e3b⟩ : ∃ w, w = s3.2.2.1 102 4 := ⟨_, rfl⟩
  have i3c := inv_F hI3 0 120 rfl e3b
  rw [← (show z3a = s3.2.2.1 46 2 from e3)] at n3d
  rw [← (show u_46_1 = s3.2.2.1 46 1 from fr_F (e_46_1) hF3 rfl)] at n3d
  rw [← (show z3a = s3.2.2.1 46 2 from e3)] at n3e
  rw [← (show z3b = s3.2.2.1 46 4 from e3a)] at n3e
  rw [← (show z3b = s3.2.2.1 46 4 from e3a)] at n3f
  rw [← (show z3c = s3.2.2.1 102 4 from e3b)] at n3f
  rw [← (show u_46_4 = s.2.2.1 46 4 from e_46_4)] at n3g
  rw [← (show u_102_4 = s.2.2.1 102 4 from e_102_4)] at n3g
  rw [← (show z3b = s3.2.2.1 46 4 from e3a)] at n3g
  rw [← (show z3c = s3.2.2.1 102 4 from e3b)] at n3g
  show GG _ _ _ _ _ _ _ _ [.int z3] _ _ _
  refine g_if_ne 9 11 (gd rfl) rfl rfl (fun c6 => ?_) (fun c6 => ?_)
  · skip
    have i6 := z_ne 1 1 c6 i3 rfl
    refine g_iconst 0 12 (gd rfl) rfl rfl ?_
    refine g_istore_n 13 (gd rfl) rfl (Nat.le_of_ble_eq_true rfl) ?_
    have n13 : (z3a).toInt ≤ (u_46_1).toInt := by have a0 := in_u ((inv_F hI 0 120 rfl e_102_4)); have a1 := in_u ((inv_F hI 0 5 rfl e_46_3)); have a2 := in_u ((inv_F hI 0 1000 rfl e_46_4)); have a3 := in_u r_46_1; have a4 := in_u ((inv_F hI 0 1000 rfl e_46_2)); have a5 := in_u h2; have a6 := in_u ((in_c 0 rfl)); have a7 := in_u i3c; have a8 := in_u i3b; have a9 := in_u i3a; omega
    have n13a : (z3b).toInt ≤ (z3a).toInt := by have a0 := in_u ((inv_F hI 0 120 rfl e_102_4)); have a1 := in_u ((inv_F hI 0 5 rfl e_46_3)); have a2 := in_u ((inv_F hI 0 1000 rfl e_46_4)); have a3 := in_u r_46_1; have a4 := in_u ((inv_F hI 0 1000 rfl e_46_2)); have a5 := in_u h2; have a6 := in_u ((in_c 0 rfl)); have a7 := in_u i3c; have a8 := in_u i3b; have a9 := in_u i3a; omega
    have n13b : (z3c).toInt ≤ (z3b).toInt := by have a0 := in_u ((inv_F hI 0 120 rfl e_102_4)); have a1 := in_u ((inv_F hI 0 5 rfl e_46_3)); have a2 := in_u ((inv_F hI 0 1000 rfl e_46_4)); have a3 := in_u r_46_1; have a4 := in_u ((inv_F hI 0 1000 rfl e_46_2)); have a5 := in_u h2; have a6 := in_u ((in_c 0 rfl)); have a7 := in_u i3c; have a8 := in_u i3b; have a9 := in_u i3a; omega
    have n13c : (u_46_4).toInt - (u_102_4).toInt ≤ (z3b).toInt - (z3c).toInt := by have a0 := in_u ((inv_F hI 0 120 rfl e_102_4)); have a1 := in_u ((inv_F hI 0 5 rfl e_46_3)); have a2 := in_u ((inv_F hI 0 1000 rfl e_46_4)); have a3 := in_u r_46_1; have a4 := in_u ((inv_F hI 0 1000 rfl e_46_2)); have a5 := in_u h2; have a6 := in_u ((in_c 0 rfl)); have a7 := in_u i3c; have a8 := in_u i3b; have a9 := in_u i3a; omega
    have n13d : PCV s s3 1 := by exact p3b c6
    have n13e : TK s3 := by exact p3a
    exact gg_w (by first | exact Nat.le_of_ble_eq_true rfl | omega) (gg_f (gf_cons rfl (gf_cons rfl (gf_cons rfl (gf_cons rfl gf_nil)))) (ct13 121 s3 (Int32.ofInt 0) z3a z3b _ _ z3c hI3 (fr_tr rfl fr_rf hF3) (in_w 0 120 (in_c 0 rfl) rfl) e3 e3a rfl rfl e3b n13 n13a n13b n13c n13d n13e (m_in 121 (in_w 0 120 (in_c 0 rfl) rfl) rfl)))
  · skip
    have i6 := z_eq 0 0 c6 i3 rfl
    refine g_iconst 0 10 (gd rfl) rfl rfl ?_
    have n10 : TK s3 := by first | exact g13_1 | exact p53a | exact p3a
    have n10a : ((Int32.ofInt 0)).toInt ≠ 0 → PCV s s3 1 := by first | (intro _; exact g13_0) | (intro h; exact absurd rfl h)
    have n10b : (z3a).toInt ≤ (u_46_1).toInt := by have a0 := in_u ((inv_F hI 0 120 rfl e_102_4)); have a1 := in_u ((inv_F hI 0 5 rfl e_46_3)); have a2 := in_u ((inv_F hI 0 1000 rfl e_46_4)); have a3 := in_u r_46_1; have a4 := in_u ((inv_F hI 0 1000 rfl e_46_2)); have a5 := in_u h2; have a6 := in_u i3c; have a7 := in_u i3b; have a8 := in_u i3a; omega
    have n10c : (s3.2.2.1 46 2).toInt ≤ (s3.2.2.1 46 1).toInt := by have b0 : z3a = s3.2.2.1 46 2 := e3; have b1 : u_46_1 = s3.2.2.1 46 1 := fr_F (e_46_1) hF3 rfl; rw [← b0, ← b1]; exact n10b
    have n10d : (z3b).toInt ≤ (z3a).toInt := by have a0 := in_u ((inv_F hI 0 120 rfl e_102_4)); have a1 := in_u ((inv_F hI 0 5 rfl e_46_3)); have a2 := in_u ((inv_F hI 0 1000 rfl e_46_4)); have a3 := in_u r_46_1; have a4 := in_u ((inv_F hI 0 1000 rfl e_46_2)); have a5 := in_u h2; have a6 := in_u i3c; have a7 := in_u i3b; have a8 := in_u i3a; omega
    have n10e : (s3.2.2.1 46 4).toInt ≤ (s3.2.2.1 46 2).toInt := by have b0 : z3b = s3.2.2.1 46 4 := e3a; have b1 : z3a = s3.2.2.1 46 2 := e3; rw [← b0, ← b1]; exact n10d
    have n10f : (z3c).toInt ≤ (z3b).toInt := by have a0 := in_u ((inv_F hI 0 120 rfl e_102_4)); have a1 := in_u ((inv_F hI 0 5 rfl e_46_3)); have a2 := in_u ((inv_F hI 0 1000 rfl e_46_4)); have a3 := in_u r_46_1; have a4 := in_u ((inv_F hI 0 1000 rfl e_46_2)); have a5 := in_u h2; have a6 := in_u i3c; have a7 := in_u i3b; have a8 := in_u i3a; omega
    have n10g : (s3.2.2.1 102 4).toInt ≤ (s3.2.2.1 46 4).toInt := by have b0 : z3c = s3.2.2.1 102 4 := e3b; have b1 : z3b = s3.2.2.1 46 4 := e3a; rw [← b0, ← b1]; exact n10f
    have n10h : (u_46_4).toInt - (u_102_4).toInt ≤ (z3b).toInt - (z3c).toInt := by have a0 := in_u ((inv_F hI 0 120 rfl e_102_4)); have a1 := in_u ((inv_F hI 0 5 rfl e_46_3)); have a2 := in_u ((inv_F hI 0 1000 rfl e_46_4)); have a3 := in_u r_46_1; have a4 := in_u ((inv_F hI 0 1000 rfl e_46_2)); have a5 := in_u h2; have a6 := in_u i3c; have a7 := in_u i3b; have a8 := in_u i3a; omega
    have n10i : (s.2.2.1 46 4).toInt - (s.2.2.1 102 4).toInt ≤ (s3.2.2.1 46 4).toInt - (s3.2.2.1 102 4).toInt := by have b0 : z3b = s3.2.2.1 46 4 := e3a; have b1 : z3c = s3.2.2.1 102 4 := e3b; first | (rw [← b0, ← b1, ← e_46_4, ← e_102_4]; exact n10h) | (rw [← b0, ← b1]; exact n10h)
    exact g_ireturn (gd rfl) rfl (nb01 (in_w 0 1 (in_c 0 rfl) rfl)) (hP _ _ ⟨s3, hI3, (fr_tr rfl fr_rf hF3), n10c, n10e, n10g, n10i, (Int32.ofInt 0), rfl, rfl, in_w 0 1 (in_c 0 rfl) rfl, n10, n10a⟩)
theorem k_58_102_46_r {Z : AmZ} {A : Nat → Nat} {ex : va_W} (kk : Nat) (ih : ∀ {s : GS} {d : Nat} {X : AmX} {x2 : Int32} {u_46_2 : Int32} {u_46_1 : Int32} {u_46_4 : Int32} {u_46_3 : Int32} {u_46_5 : Int32} {u_102_4 : Int32}, 70 + kk * 20 ≤ d → Inv s → (In x2 0 10) → (u_46_2 = s.2.2.1 46 2) → (u_46_1 = s.2.2.1 46 1) → (u_46_4 = s.2.2.1 46 4) → (u_46_3 = s.2.2.1 46 3) → (u_46_5 = s.2.2.1 46 5) → (u_102_4 = s.2.2.1 102 4) → (In u_46_1 0 120) → ((u_46_2).toInt ≤ (u_46_1).toInt) → ((u_46_4).toInt ≤ (u_46_2).toInt) → ((u_102_4).toInt ≤ (u_46_4).toInt) → (TK s) → 10 - (x2).toInt < ((kk : Nat) : Int) → GC Z d 59 [.ref (A 102), .ref (A 46), .int x2] (WW Z A s ++ ex) 0 0 (fun v u => ∃ t : GS, Inv t ∧ Fr fm_59_102_46 s t ∧ ((t.2.2.1 46 2).toInt ≤ (t.2.2.1 46 1).toInt) ∧ ((t.2.2.1 46 4).toInt ≤ (t.2.2.1 46 2).toInt) ∧ ((t.2.2.1 102 4).toInt ≤ (t.2.2.1 46 4).toInt) ∧ ((s.2.2.1 46 4).toInt - (s.2.2.1 102 4).toInt ≤ (t.2.2.1 46 4).toInt - (t.2.2.1 102 4).toInt) ∧ ∃ z : Int32, v = some (.int z) ∧ u = WW Z A t ++ ex ∧ In z 0 1 ∧ (TK t) ∧ ((z).toInt ≠ 0 → PCV s t 1)) X) : ∀ {s : GS} {d : Nat} {X : AmX} {x2 : Int32} {u_46_2 : Int32} {u_46_1 : Int32} {u_46_4 : Int32} {u_46_3 : Int32} {u_46_5 : Int32} {u_102_4 : Int32}, 75 + kk * 20 ≤ d → Inv s → (In x2 0 10) → (u_46_2 = s.2.2.1 46 2) → (u_46_1 = s.2.2.1 46 1) → (u_46_4 = s.2.2.1 46 4) → (u_46_3 = s.2.2.1 46 3) → (u_46_5 = s.2.2.1 46 5) → (u_102_4 = s.2.2.1 102 4) → (In u_46_1 0 120) → ((u_46_2).toInt ≤ (u_46_1).toInt) → ((u_46_4).toInt ≤ (u_46_2).toInt) → ((u_102_4).toInt ≤ (u_46_4).toInt) → (TK s) → 10 - (x2).toInt < ((kk : Nat) : Int) → GC Z d 58 [.ref (A 102), .ref (A 46), .int x2] (WW Z A s ++ ex) 0 0 (fun v u => ∃ t : GS, Inv t ∧ Fr fm_58_102_46 s t ∧ ((t.2.2.1 46 2).toInt ≤ (t.2.2.1 46 1).toInt) ∧ ((t.2.2.1 46 4).toInt ≤ (t.2.2.1 46 2).toInt) ∧ ((t.2.2.1 102 4).toInt ≤ (t.2.2.1 46 4).toInt) ∧ ((s.2.2.1 46 4).toInt - (s.2.2.1 102 4).toInt ≤ (t.2.2.1 46 4).toInt - (t.2.2.1 102 4).toInt) ∧ ∃ z : Int32, v = some (.int z) ∧ u = WW Z A t ++ ex ∧ In z 0 1 ∧ (TK t) ∧ ((z).toInt ≠ 0 → PCV s t 1)) X := by
  intro s d X x2 u_46_2 u_46_1 u_46_4 u_46_3 u_46_5 u_102_4 hd hI h2 e_46_2 e_46_1 e_46_4 e_46_3 e_46_5 e_102_4 r_46_1 p_0 p_1 p_2 q_0 hm
  intro post xp hP hX
  refine g_enter2 (k := 58) (N := 900) (by first | exact dq1 hd rfl | exact dq0 hd rfl | exact dq2 hd rfl | exact dq3 hd rfl | omega) rfl (Nat.le_of_ble_eq_true rfl) ?_
  refine g_aload_n 1 (gd rfl) rfl rfl ?_
  refine g_aload_n 2 (gd rfl) rfl rfl ?_
  refine g_iload_n 3 (gd rfl) rfl rfl ?_
  have n3 : (u_46_2).toInt ≤ (u_46_1).toInt := by have a0 := in_u ((inv_F hI 0 120 rfl e_102_4)); have a1 := in_u ((inv_F hI 0 5 rfl e_46_3)); have a2 := in_u ((inv_F hI 0 1000 rfl e_46_4)); have a3 := in_u r_46_1; have a4 := in_u ((inv_F hI 0 1000 rfl e_46_2)); have a5 := in_u h2; omega
  have n3a : (u_46_4).toInt ≤ (u_46_2).toInt := by have a0 := in_u ((inv_F hI 0 120 rfl e_102_4)); have a1 := in_u ((inv_F hI 0 5 rfl e_46_3)); have a2 := in_u ((inv_F hI 0 1000 rfl e_46_4)); have a3 := in_u r_46_1; have a4 := in_u ((inv_F hI 0 1000 rfl e_46_2)); have a5 := in_u h2; omega
  have n3b : (u_102_4).toInt ≤ (u_46_4).toInt := by have a0 := in_u ((inv_F hI 0 120 rfl e_102_4)); have a1 := in_u ((inv_F hI 0 5 rfl e_46_3)); have a2 := in_u ((inv_F hI 0 1000 rfl e_46_4)); have a3 := in_u r_46_1; have a4 := in_u ((inv_F hI 0 1000 rfl e_46_2)); have a5 := in_u h2; omega
  have p3 : TK s := by exact q_0
  have n3c : 10 - (x2).toInt < ((kk : Nat) : Int) := by have a0 := in_u ((inv_F hI 0 120 rfl e_102_4)); have a1 := in_u ((inv_F hI 0 5 rfl e_46_3)); have a2 := in_u ((inv_F hI 0 1000 rfl e_46_4)); have a3 := in_u r_46_1; have a4 := in_u ((inv_F hI 0 1000 rfl e_46_2)); have a5 := in_u h2; omega
  refine g_callv (X := _) (As := [.ref (A 46), .int x2]) (r := []) (b := A 102) (q := 102) 6 (gd rfl) rfl rfl rfl rfl rfl (ww_o rfl) (Nat.le_of_ble_eq_true rfl) (Nat.zero_le _) (Nat.zero_le _) (ih (by omega) hI (in_w 0 10 h2 rfl) e_46_2 e_46_1 e_46_4 e_46_3 e_46_5 e_102_4 (in_w 0 120 r_46_1 rfl) n3 n3a n3b p3 n3c) (fun e u h => h) (fun v u h => ?_)
  obtain ⟨s3, hI3, hF3, n3d, n3e, n3f, n3g, z3, rfl, rfl, i3, p3a, p3b⟩ := h
  obtain ⟨z3a, e3⟩ : ∃ w, w = s3.2.2.1 46 2 := ⟨_, rfl⟩
  have i3a := inv_F hI3 0 1000 rfl e3
  obtain ⟨z3b, e3a⟩ : ∃ w, w = s3.2.2.1 46 4 := ⟨_, rfl⟩
  have i3b := inv_F hI3 0 1000 rfl e3a
  obtain ⟨z3c, e3b⟩ : ∃ w, w = s3.2.2.1 102 4 := ⟨_, rfl⟩
  have i3c := inv_F hI3 0 120 rfl e3b
  rw [← (show z3a = s3.2.2.1 46 2 from e3)] at n3d
  rw [← (show u_46_1 = s3.2.2.1 46 1 from fr_F (e_46_1) hF3 rfl)] at n3d
  rw [← (show z3a = s3.2.2.1 46 2 from e3)] at n3e
  rw [← (show z3b = s3.2.2.1 46 4 from e3a)] at n3e
  rw [← (show z3b = s3.2.2.1 46 4 from e3a)] at n3f
  rw [← (show z3c = s3.2.2.1 102 4 from e3b)] at n3f
  rw [← (show u_46_4 = s.2.2.1 46 4 from e_46_4)] at n3g
  rw [← (show u_102_4 = s.2.2.1 102 4 from e_102_4)] at n3g
  rw [← (show z3b = s3.2.2.1 46 4 from e3a)] at n3g
  rw [← (show z3c = s3.2.2.1 102 4 from e3b)] at n3g
  show GG _ _ _ _ _ _ _ _ [.int z3] _ _ _
  refine g_if_ne 9 11 (gd rfl) rfl rfl (fun c6 => ?_) (fun c6 => ?_)
  · skip
    have i6 := z_ne 1 1 c6 i3 rfl
    refine g_aload_n 12 (gd rfl) rfl rfl ?_
    refine g_bipush 60 14 (gd rfl) rfl rfl ?_
    refine g_callv (X := _) (As := [.int (Int32.ofInt 60)]) (r := []) (b := A 46) (q := 46) 17 (gd rfl) rfl rfl rfl rfl rfl (ww_o rfl) (Nat.le_of_ble_eq_true rfl) (mc := 0) (ms := 0) (Nat.zero_le _) (Nat.zero_le _) (P := fun v u => _) ?_ (fun e u h => h) (fun v u h => h)
    intro po14 xx14 hp14 hx14
    refine g_enter2 (k := 170) (N := 300) (by first | exact dq1 hd rfl | exact dq0 hd rfl | exact dq2 hd rfl | exact dq3 hd rfl | omega) rfl (Nat.le_of_ble_eq_true rfl) ?_
    refine g_aload_n 1 (gd rfl) rfl rfl ?_
    refine g_getI 4 (gd rfl) rfl rfl rfl (fun z14x1 e14x1 => ?_)
    have i14x1 := inv_F hI3 0 5 rfl e14x1
    refine g_iconst 3 5 (gd rfl) rfl rfl ?_
    refine g_cmp_ne 8 20 (gd rfl) rfl rfl (fun c14x5 => ?_) (fun c14x5 => ?_)
    · skip
      refine g_iconst 0 21 (gd rfl) rfl rfl ?_
      refine g_ireturn (gd rfl) rfl (nb01 (in_w 0 1 (in_c 0 rfl) rfl)) (hp14 _ _ ?_)
      show GG _ _ _ _ _ _ _ _ [.int (Int32.ofInt 0)] _ _ _
      refine g_if_ne 20 31 (gd rfl) rfl rfl (fun c17 => ?_) (fun c17 => ?_)
      · skip
        exact zn_ne c17 (in_c 0 rfl) rfl
      · skip
        refine g_aload_n 21 (gd rfl) rfl rfl ?_
        refine g_bipush 61 23 (gd rfl) rfl rfl ?_
        refine g_callv (X := _) (As := [.int (Int32.ofInt 61)]) (r := []) (b := A 46) (q := 46) 26 (gd rfl) rfl rfl rfl rfl rfl (ww_o rfl) (Nat.le_of_ble_eq_true rfl) (mc := 0) (ms := 0) (Nat.zero_le _) (Nat.zero_le _) (P := fun v u => _) ?_ (fun e u h => h) (fun v u h => h)
        intro po23 xx23 hp23 hx23
        refine g_enter2 (k := 170) (N := 300) (by first | exact dq1 hd rfl | exact dq0 hd rfl | exact dq2 hd rfl | exact dq3 hd rfl | omega) rfl (Nat.le_of_ble_eq_true rfl) ?_
        refine g_aload_n 1 (gd rfl) rfl rfl ?_
        refine g_getI 4 (gd rfl) rfl rfl rfl (fun z23x1 e23x1 => ?_)
        have q23x1 : z14x1 = z23x1 := (e14x1).trans e23x1.symm
        subst q23x1
        refine g_iconst 3 5 (gd rfl) rfl rfl ?_
        refine g_cmp_ne 8 20 (gd rfl) rfl rfl (fun c23x5 => ?_) (fun c23x5 => ?_)
        · skip
          refine g_iconst 0 21 (gd rfl) rfl rfl ?_
          refine g_ireturn (gd rfl) rfl (nb01 (in_w 0 1 (in_c 0 rfl) rfl)) (hp23 _ _ ?_)
          show GG _ _ _ _ _ _ _ _ [.int (Int32.ofInt 0)] _ _ _
          refine g_if_ne 29 31 (gd rfl) rfl rfl (fun c26 => ?_) (fun c26 => ?_)
          · skip
            exact zn_ne c26 (in_c 0 rfl) rfl
          · skip
            refine g_iconst 1 30 (gd rfl) rfl rfl ?_
            have n30 : TK s3 := by exact p3a
            have n30a : ((Int32.ofInt 1)).toInt ≠ 0 → PCV s s3 1 := by first | (intro _; exact p3b c6) | (intro h; exact absurd rfl h)
            have n30b : (z3a).toInt ≤ (u_46_1).toInt := by have a0 := in_u ((inv_F hI 0 120 rfl e_102_4)); have a1 := in_u ((inv_F hI 0 5 rfl e_46_3)); have a2 := in_u ((inv_F hI 0 1000 rfl e_46_4)); have a3 := in_u r_46_1; have a4 := in_u ((inv_F hI 0 1000 rfl e_46_2)); have a5 := in_u h2; have a6 := in_u i14x1; have a7 := in_u i3c; have a8 := in_u i3b; have a9 := in_u i3a; omega
            have n30c : (s3.2.2.1 46 2).toInt ≤ (s3.2.2.1 46 1).toInt := by have b0 : z3a = s3.2.2.1 46 2 := e3; have b1 : u_46_1 = s3.2.2.1 46 1 := fr_F (e_46_1) hF3 rfl; rw [← b0, ← b1]; exact n30b
            have n30d : (z3b).toInt ≤ (z3a).toInt := by have a0 := in_u ((inv_F hI 0 120 rfl e_102_4)); have a1 := in_u ((inv_F hI 0 5 rfl e_46_3)); have a2 := in_u ((inv_F hI 0 1000 rfl e_46_4)); have a3 := in_u r_46_1; have a4 := in_u ((inv_F hI 0 1000 rfl e_46_2)); have a5 := in_u h2; have a6 := in_u i14x1; have a7 := in_u i3c; have a8 := in_u i3b; have a9 := in_u i3a; omega
            have n30e : (s3.2.2.1 46 4).toInt ≤ (s3.2.2.1 46 2).toInt := by have b0 : z3b = s3.2.2.1 46 4 := e3a; have b1 : z3a = s3.2.2.1 46 2 := e3; rw [← b0, ← b1]; exact n30d
            have n30f : (z3c).toInt ≤ (z3b).toInt := by have a0 := in_u ((inv_F hI 0 120 rfl e_102_4)); have a1 := in_u ((inv_F hI 0 5 rfl e_46_3)); have a2 := in_u ((inv_F hI 0 1000 rfl e_46_4)); have a3 := in_u r_46_1; have a4 := in_u ((inv_F hI 0 1000 rfl e_46_2)); have a5 := in_u h2; have a6 := in_u i14x1; have a7 := in_u i3c; have a8 := in_u i3b; have a9 := in_u i3a; omega
            have n30g : (s3.2.2.1 102 4).toInt ≤ (s3.2.2.1 46 4).toInt := by have b0 : z3c = s3.2.2.1 102 4 := e3b; have b1 : z3b = s3.2.2.1 46 4 := e3a; rw [← b0, ← b1]; exact n30f
            have n30h : (u_46_4).toInt - (u_102_4).toInt ≤ (z3b).toInt - (z3c).toInt := by have a0 := in_u ((inv_F hI 0 120 rfl e_102_4)); have a1 := in_u ((inv_F hI 0 5 rfl e_46_3)); have a2 := in_u ((inv_F hI 0 1000 rfl e_46_4)); have a3 := in_u r_46_1; have a4 := in_u ((inv_F hI 0 1000 rfl e_46_2)); have a5 := in_u h2; have a6 := in_u i14x1; have a7 := in_u i3c; have a8 := in_u i3b; have a9 := in_u i3a; omega
            have n30i : (s.2.2.1 46 4).toInt - (s.2.2.1 102 4).toInt ≤ (s3.2.2.1 46 4).toInt - (s3.2.2.1 102 4).toInt := by have b0 : z3b = s3.2.2.1 46 4 := e3a; have b1 : z3c = s3.2.2.1 102 4 := e3b; first | (rw [← b0, ← b1, ← e_46_4, ← e_102_4]; exact n30h) | (rw [← b0, ← b1]; exact n30h)
            exact g_ireturn (gd rfl) rfl (nb01 (in_w 0 1 (in_c 1 rfl) rfl)) (hP _ _ ⟨s3, hI3, (fr_tr rfl fr_rf hF3), n30c, n30e, n30g, n30i, (Int32.ofInt 1), rfl, rfl, in_w 0 1 (in_c 1 rfl) rfl, n30, n30a⟩)
        · skip
          exact absurd c23x5 c14x5
    · skip
      have i14x5 := r_eq1 3 3 c14x5 i14x1 (in_c 3 rfl) rfl
      refine g_aload_n 9 (gd rfl) rfl rfl ?_
      refine g_getI 12 (gd rfl) rfl rfl rfl (fun z14x9 e14x9 => ?_)
      refine g_iload_n 13 (gd rfl) rfl rfl ?_
      refine g_cmp_ne 16 20 (gd rfl) rfl rfl (fun c14x13 => ?_) (fun c14x13 => ?_)
      · skip
        refine g_iconst 0 21 (gd rfl) rfl rfl ?_
        refine g_ireturn (gd rfl) rfl (nb01 (in_w 0 1 (in_c 0 rfl) rfl)) (hp14 _ _ ?_)
        show GG _ _ _ _ _ _ _ _ [.int (Int32.ofInt 0)] _ _ _
        refine g_if_ne 20 31 (gd rfl) rfl rfl (fun c17 => ?_) (fun c17 => ?_)
        · skip
          exact zn_ne c17 (in_c 0 rfl) rfl
        · skip
          refine g_aload_n 21 (gd rfl) rfl rfl ?_
          refine g_bipush 61 23 (gd rfl) rfl rfl ?_
          refine g_callv (X := _) (As := [.int (Int32.ofInt 61)]) (r := []) (b := A 46) (q := 46) 26 (gd rfl) rfl rfl rfl rfl rfl (ww_o rfl) (Nat.le_of_ble_eq_true rfl) (mc := 0) (ms := 0) (Nat.zero_le _) (Nat.zero_le _) (P := fun v u => _) ?_ (fun e u h => h) (fun v u h => h)
          intro po23 xx23 hp23 hx23
          refine g_enter2 (k := 170) (N := 300) (by first | exact dq1 hd rfl | exact dq0 hd rfl | exact dq2 hd rfl | exact dq3 hd rfl | omega) rfl (Nat.le_of_ble_eq_true rfl) ?_
          refine g_aload_n 1 (gd rfl) rfl rfl ?_
          refine g_getI 4 (gd rfl) rfl rfl rfl (fun z23x1 e23x1 => ?_)
          have q23x1 : z14x1 = z23x1 := (e14x1).trans e23x1.symm
          subst q23x1
          refine g_iconst 3 5 (gd rfl) rfl rfl ?_
          refine g_cmp_ne 8 20 (gd rfl) rfl rfl (fun c23x5 => ?_) (fun c23x5 => ?_)
          · skip
            exact n_ne c23x5 i14x5 (in_c 3 rfl) rfl
          · skip
            refine g_aload_n 9 (gd rfl) rfl rfl ?_
            refine g_getI 12 (gd rfl) rfl rfl rfl (fun z23x9 e23x9 => ?_)
            have q23x9 : z14x9 = z23x9 := (e14x9).trans e23x9.symm
            subst q23x9
            refine g_iload_n 13 (gd rfl) rfl rfl ?_
            refine g_cmp_ne 16 20 (gd rfl) rfl rfl (fun c23x13 => ?_) (fun c23x13 => ?_)
            · skip
              refine g_iconst 0 21 (gd rfl) rfl rfl ?_
              refine g_ireturn (gd rfl) rfl (nb01 (in_w 0 1 (in_c 0 rfl) rfl)) (hp23 _ _ ?_)
              show GG _ _ _ _ _ _ _ _ [.int (Int32.ofInt 0)] _ _ _
              refine g_if_ne 29 31 (gd rfl) rfl rfl (fun c26 => ?_) (fun c26 => ?_)
              · skip
                exact zn_ne c26 (in_c 0 rfl) rfl
              · skip
                refine g_iconst 1 30 (gd rfl) rfl rfl ?_
                have n30 : TK s3 := by exact p3a
                have n30a : ((Int32.ofInt 1)).toInt ≠ 0 → PCV s s3 1 := by first | (intro _; exact p3b c6) | (intro h; exact absurd rfl h)
                have n30b : (z3a).toInt ≤ (u_46_1).toInt := by have a0 := in_u ((inv_F hI 0 120 rfl e_102_4)); have a1 := in_u ((inv_F hI 0 5 rfl e_46_3)); have a2 := in_u ((inv_F hI 0 1000 rfl e_46_4)); have a3 := in_u r_46_1; have a4 := in_u ((inv_F hI 0 1000 rfl e_46_2)); have a5 := in_u h2; have a6 := in_u i14x5; have a7 := in_u i3c; have a8 := in_u i3b; have a9 := in_u i3a; omega
                have n30c : (s3.2.2.1 46 2).toInt ≤ (s3.2.2.1 46 1).toInt := by have b0 : z3a = s3.2.2.1 46 2 := e3; have b1 : u_46_1 = s3.2.2.1 46 1 := fr_F (e_46_1) hF3 rfl; rw [← b0, ← b1]; exact n30b
                have n30d : (z3b).toInt ≤ (z3a).toInt := by have a0 := in_u ((inv_F hI 0 120 rfl e_102_4)); have a1 := in_u ((inv_F hI 0 5 rfl e_46_3)); have a2 := in_u ((inv_F hI 0 1000 rfl e_46_4)); have a3 := in_u r_46_1; have a4 := in_u ((inv_F hI 0 1000 rfl e_46_2)); have a5 := in_u h2; have a6 := in_u i14x5; have a7 := in_u i3c; have a8 := in_u i3b; have a9 := in_u i3a; omega
                have n30e : (s3.2.2.1 46 4).toInt ≤ (s3.2.2.1 46 2).toInt := by have b0 : z3b = s3.2.2.1 46 4 := e3a; have b1 : z3a = s3.2.2.1 46 2 := e3; rw [← b0, ← b1]; exact n30d
                have n30f : (z3c).toInt ≤ (z3b).toInt := by have a0 := in_u ((inv_F hI 0 120 rfl e_102_4)); have a1 := in_u ((inv_F hI 0 5 rfl e_46_3)); have a2 := in_u ((inv_F hI 0 1000 rfl e_46_4)); have a3 := in_u r_46_1; have a4 := in_u ((inv_F hI 0 1000 rfl e_46_2)); have a5 := in_u h2; have a6 := in_u i14x5; have a7 := in_u i3c; have a8 := in_u i3b; have a9 := in_u i3a; omega
                have n30g : (s3.2.2.1 102 4).toInt ≤ (s3.2.2.1 46 4).toInt := by have b0 : z3c = s3.2.2.1 102 4 := e3b; have b1 : z3b = s3.2.2.1 46 4 := e3a; rw [← b0, ← b1]; exact n30f
                have n30h : (u_46_4).toInt - (u_102_4).toInt ≤ (z3b).toInt - (z3c).toInt := by have a0 := in_u ((inv_F hI 0 120 rfl e_102_4)); have a1 := in_u ((inv_F hI 0 5 rfl e_46_3)); have a2 := in_u ((inv_F hI 0 1000 rfl e_46_4)); have a3 := in_u r_46_1; have a4 := in_u ((inv_F hI 0 1000 rfl e_46_2)); have a5 := in_u h2; have a6 := in_u i14x5; have a7 := in_u i3c; have a8 := in_u i3b; have a9 := in_u i3a; omega
                have n30i : (s.2.2.1 46 4).toInt - (s.2.2.1 102 4).toInt ≤ (s3.2.2.1 46 4).toInt - (s3.2.2.1 102 4).toInt := by have b0 : z3b = s3.2.2.1 46 4 := e3a; have b1 : z3c = s3.2.2.1 102 4 := e3b; first | (rw [← b0, ← b1, ← e_46_4, ← e_102_4]; exact n30h) | (rw [← b0, ← b1]; exact n30h)
                exact g_ireturn (gd rfl) rfl (nb01 (in_w 0 1 (in_c 1 rfl) rfl)) (hP _ _ ⟨s3, hI3, (fr_tr rfl fr_rf hF3), n30c, n30e, n30g, n30i, (Int32.ofInt 1), rfl, rfl, in_w 0 1 (in_c 1 rfl) rfl, n30, n30a⟩)
            · skip
              have i23x13 := r_eq1 61 61 c23x13 (i_rng z14x9) (in_c 61 rfl) rfl
              refine g_iconst 1 17 (gd rfl) rfl rfl ?_
              refine g_goto 21 (gd rfl) rfl ?_
              refine g_ireturn (gd rfl) rfl (nb01 (in_w 0 1 (in_c 1 rfl) rfl)) (hp23 _ _ ?_)
              show GG _ _ _ _ _ _ _ _ [.int (Int32.ofInt 1)] _ _ _
              refine g_if_ne 29 31 (gd rfl) rfl rfl (fun c26 => ?_) (fun c26 => ?_)
              · skip
                refine g_aload_n 32 (gd rfl) rfl rfl ?_
                refine g_getI 35 (gd rfl) rfl rfl rfl (fun z32 e32 => ?_)
                have q32 : z14x9 = z32 := (e14x9).trans e32.symm
                subst q32
                refine g_istore_n 36 (gd rfl) rfl (Nat.le_of_ble_eq_true rfl) ?_
                refine g_aload_n 37 (gd rfl) rfl rfl ?_
                refine g_bipush 6 39 (gd rfl) rfl rfl ?_
                refine g_iconst 0 40 (gd rfl) rfl rfl ?_
                have hk := tka_1 p3a (show z14x1 = s3.2.2.1 46 3 from e14x1) (show z3b = s3.2.2.1 46 4 from e3a) (show z3a = s3.2.2.1 46 2 from e3) (by have a0 := in_u ((inv_F hI 0 120 rfl e_102_4)); have a1 := in_u ((inv_F hI 0 5 rfl e_46_3)); have a2 := in_u ((inv_F hI 0 1000 rfl e_46_4)); have a3 := in_u r_46_1; have a4 := in_u ((inv_F hI 0 1000 rfl e_46_2)); have a5 := in_u h2; have a6 := in_u i23x13; have a7 := in_u i14x5; have a8 := in_u i3c; have a9 := in_u i3b; have a10 := in_u i3a; omega)
                have v40 : u_46_1 = s3.2.2.1 46 1 := fr_F (e_46_1) hF3 rfl
                have n40 : (z3a).toInt ≤ (u_46_1).toInt := by have a0 := in_u ((inv_F hI 0 120 rfl e_102_4)); have a1 := in_u ((inv_F hI 0 5 rfl e_46_3)); have a2 := in_u ((inv_F hI 0 1000 rfl e_46_4)); have a3 := in_u r_46_1; have a4 := in_u ((inv_F hI 0 1000 rfl e_46_2)); have a5 := in_u h2; have a6 := in_u i23x13; have a7 := in_u i14x5; have a8 := in_u i3c; have a9 := in_u i3b; have a10 := in_u i3a; omega
                refine g_callv (X := _) (As := [.int (Int32.ofInt 6), .int (Int32.ofInt 0)]) (r := []) (b := A 46) (q := 46) 43 (gd rfl) rfl rfl rfl rfl rfl (ww_o rfl) (Nat.le_of_ble_eq_true rfl) (Nat.zero_le _) (Nat.zero_le _) (k_171_46 (by first | exact dq1 hd rfl | exact dq0 hd rfl | exact dq2 hd rfl | exact dq3 hd rfl | omega) hI3 (in_w 6 7 (in_c 6 rfl) rfl) (in_w 0 1 (in_c 0 rfl) rfl) e3 v40 n40) (fun e u h => h) (fun v u h => ?_)
                obtain ⟨s40, hI40, hF40, n40a, n40b, n40c, rfl, rfl, p40, p40a⟩ := h
                obtain ⟨z40a, e40⟩ : ∃ w, w = s40.2.2.1 46 2 := ⟨_, rfl⟩
                have i40a := inv_F hI40 0 1000 rfl e40
                obtain ⟨z40b, e40a⟩ : ∃ w, w = s40.2.2.1 46 4 := ⟨_, rfl⟩
                have i40b := inv_F hI40 0 1000 rfl e40a
                rw [← (show z40a = s40.2.2.1 46 2 from e40)] at n40a
                rw [← (show u_46_1 = s40.2.2.1 46 1 from fr_F (fr_F (e_46_1) hF3 rfl) hF40 rfl)] at n40a
                rw [← (show z40a = s40.2.2.1 46 2 from e40)] at n40b
                rw [← (show z40b = s40.2.2.1 46 4 from e40a)] at n40b
                rw [← (show z3a = s3.2.2.1 46 2 from e3)] at n40c
                rw [← (show z40b = s40.2.2.1 46 4 from e40a)] at n40c
                show GG _ _ _ _ _ _ _ _ [] _ _ _
                refine g_aload_n 44 (gd rfl) rfl rfl ?_
                refine g_aload_n 45 (gd rfl) rfl rfl ?_
                refine g_iload_n 46 (gd rfl) rfl rfl ?_
                have v46 : u_46_1 = s40.2.2.1 46 1 := fr_F (fr_F (e_46_1) hF3 rfl) hF40 rfl
                have v46a : z3c = s40.2.2.1 102 4 := fr_F (e3b) hF40 rfl
                have n46 : (z40a).toInt ≤ (u_46_1).toInt := by have a0 := in_u ((inv_F hI 0 120 rfl e_102_4)); have a1 := in_u ((inv_F hI 0 5 rfl e_46_3)); have a2 := in_u ((inv_F hI 0 1000 rfl e_46_4)); have a3 := in_u r_46_1; have a4 := in_u ((inv_F hI 0 1000 rfl e_46_2)); have a5 := in_u h2; have a6 := in_u i23x13; have a7 := in_u i40b; have a8 := in_u i40a; have a9 := in_u i3c; omega
                have n46a : (z40b).toInt ≤ (z40a).toInt := by have a0 := in_u ((inv_F hI 0 120 rfl e_102_4)); have a1 := in_u ((inv_F hI 0 5 rfl e_46_3)); have a2 := in_u ((inv_F hI 0 1000 rfl e_46_4)); have a3 := in_u r_46_1; have a4 := in_u ((inv_F hI 0 1000 rfl e_46_2)); have a5 := in_u h2; have a6 := in_u i23x13; have a7 := in_u i40b; have a8 := in_u i40a; have a9 := in_u i3c; omega
                have n46b : (z3c).toInt ≤ (z40b).toInt := by have a0 := in_u ((inv_F hI 0 120 rfl e_102_4)); have a1 := in_u ((inv_F hI 0 5 rfl e_46_3)); have a2 := in_u ((inv_F hI 0 1000 rfl e_46_4)); have a3 := in_u r_46_1; have a4 := in_u ((inv_F hI 0 1000 rfl e_46_2)); have a5 := in_u h2; have a6 := in_u i23x13; have a7 := in_u i40b; have a8 := in_u i40a; have a9 := in_u i3c; omega
                have p46 : TK s40 := by exact p40 (by decide)
                have n46c : 10 - (x2).toInt < ((kk : Nat) : Int) := by have a0 := in_u ((inv_F hI 0 120 rfl e_102_4)); have a1 := in_u ((inv_F hI 0 5 rfl e_46_3)); have a2 := in_u ((inv_F hI 0 1000 rfl e_46_4)); have a3 := in_u r_46_1; have a4 := in_u ((inv_F hI 0 1000 rfl e_46_2)); have a5 := in_u h2; have a6 := in_u i23x13; have a7 := in_u i40b; have a8 := in_u i40a; have a9 := in_u i3c; omega
                refine g_callv (X := _) (As := [.ref (A 46), .int x2]) (r := []) (b := A 102) (q := 102) 49 (gd rfl) rfl rfl rfl rfl rfl (ww_o rfl) (Nat.le_of_ble_eq_true rfl) (Nat.zero_le _) (Nat.zero_le _) (ih (by omega) hI40 (in_w 0 10 h2 rfl) e40 v46 e40a rfl rfl v46a (in_w 0 120 r_46_1 rfl) n46 n46a n46b p46 n46c) (fun e u h => h) (fun v u h => ?_)
                obtain ⟨s46, hI46, hF46, n46d, n46e, n46f, n46g, z46, rfl, rfl, i46, p46a, p46b⟩ := h
                obtain ⟨z46a, e46⟩ : ∃ w, w = s46.2.2.1 46 2 := ⟨_, rfl⟩
                have i46a := inv_F hI46 0 1000 rfl e46
                obtain ⟨z46b, e46a⟩ : ∃ w, w = s46.2.2.1 46 4 := ⟨_, rfl⟩
                have i46b := inv_F hI46 0 1000 rfl e46a
                obtain ⟨z46c, e46b⟩ : ∃ w, w = s46.2.2.1 102 4 := ⟨_, rfl⟩
                have i46c := inv_F hI46 0 120 rfl e46b
                rw [← (show z46a = s46.2.2.1 46 2 from e46)] at n46d
                rw [← (show u_46_1 = s46.2.2.1 46 1 from fr_F (fr_F (fr_F (e_46_1) hF3 rfl) hF40 rfl) hF46 rfl)] at n46d
                rw [← (show z46a = s46.2.2.1 46 2 from e46)] at n46e
                rw [← (show z46b = s46.2.2.1 46 4 from e46a)] at n46e
                rw [← (show z46b = s46.2.2.1 46 4 from e46a)] at n46f
                rw [← (show z46c = s46.2.2.1 102 4 from e46b)] at n46f
                rw [← (show z40b = s40.2.2.1 46 4 from e40a)] at n46g
                rw [← (show z3c = s40.2.2.1 102 4 from fr_F (e3b) hF40 rfl)] at n46g
                rw [← (show z46b = s46.2.2.1 46 4 from e46a)] at n46g
                rw [← (show z46c = s46.2.2.1 102 4 from e46b)] at n46g
                show GG _ _ _ _ _ _ _ _ [.int z46] _ _ _
                refine g_if_eq 52 67 (gd rfl) rfl rfl (fun c49 => ?_) (fun c49 => ?_)
                · skip
                  have i49 := z_eq 0 0 c49 i46 rfl
                  refine g_iconst 0 68 (gd rfl) rfl rfl ?_
                  have n68 : TK s46 := by exact p46a
                  have n68a : ((Int32.ofInt 0)).toInt ≠ 0 → PCV s s46 1 := by first | (intro _; exact p3b c6) | (intro h; exact absurd rfl h)
                  have n68b : (z46a).toInt ≤ (u_46_1).toInt := by have a0 := in_u ((inv_F hI 0 120 rfl e_102_4)); have a1 := in_u ((inv_F hI 0 5 rfl e_46_3)); have a2 := in_u ((inv_F hI 0 1000 rfl e_46_4)); have a3 := in_u r_46_1; have a4 := in_u ((inv_F hI 0 1000 rfl e_46_2)); have a5 := in_u h2; have a6 := in_u i23x13; have a7 := in_u i46c; have a8 := in_u i46b; have a9 := in_u i46a; omega
                  have n68c : (s46.2.2.1 46 2).toInt ≤ (s46.2.2.1 46 1).toInt := by have b0 : z46a = s46.2.2.1 46 2 := e46; have b1 : u_46_1 = s46.2.2.1 46 1 := fr_F (fr_F (fr_F (e_46_1) hF3 rfl) hF40 rfl) hF46 rfl; rw [← b0, ← b1]; exact n68b
                  have n68d : (z46b).toInt ≤ (z46a).toInt := by have a0 := in_u ((inv_F hI 0 120 rfl e_102_4)); have a1 := in_u ((inv_F hI 0 5 rfl e_46_3)); have a2 := in_u ((inv_F hI 0 1000 rfl e_46_4)); have a3 := in_u r_46_1; have a4 := in_u ((inv_F hI 0 1000 rfl e_46_2)); have a5 := in_u h2; have a6 := in_u i23x13; have a7 := in_u i46c; have a8 := in_u i46b; have a9 := in_u i46a; omega
                  have n68e : (s46.2.2.1 46 4).toInt ≤ (s46.2.2.1 46 2).toInt := by have b0 : z46b = s46.2.2.1 46 4 := e46a; have b1 : z46a = s46.2.2.1 46 2 := e46; rw [← b0, ← b1]; exact n68d
                  have n68f : (z46c).toInt ≤ (z46b).toInt := by have a0 := in_u ((inv_F hI 0 120 rfl e_102_4)); have a1 := in_u ((inv_F hI 0 5 rfl e_46_3)); have a2 := in_u ((inv_F hI 0 1000 rfl e_46_4)); have a3 := in_u r_46_1; have a4 := in_u ((inv_F hI 0 1000 rfl e_46_2)); have a5 := in_u h2; have a6 := in_u i23x13; have a7 := in_u i46c; have a8 := in_u i46b; have a9 := in_u i46a; omega
                  have n68g : (s46.2.2.1 102 4).toInt ≤ (s46.2.2.1 46 4).toInt := by have b0 : z46c = s46.2.2.1 102 4 := e46b; have b1 : z46b = s46.2.2.1 46 4 := e46a; rw [← b0, ← b1]; exact n68f
                  have n68h : (u_46_4).toInt - (u_102_4).toInt ≤ (z46b).toInt - (z46c).toInt := by have a0 := in_u ((inv_F hI 0 120 rfl e_102_4)); have a1 := in_u ((inv_F hI 0 5 rfl e_46_3)); have a2 := in_u ((inv_F hI 0 1000 rfl e_46_4)); have a3 := in_u r_46_1; have a4 := in_u ((inv_F hI 0 1000 rfl e_46_2)); have a5 := in_u h2; have a6 := in_u i23x13; have a7 := in_u i46c; have a8 := in_u i46b; have a9 := in_u i46a; omega
                  have n68i : (s.2.2.1 46 4).toInt - (s.2.2.1 102 4).toInt ≤ (s46.2.2.1 46 4).toInt - (s46.2.2.1 102 4).toInt := by have b0 : z46b = s46.2.2.1 46 4 := e46a; have b1 : z46c = s46.2.2.1 102 4 := e46b; first | (rw [← b0, ← b1, ← e_46_4, ← e_102_4]; exact n68h) | (rw [← b0, ← b1]; exact n68h)
                  exact g_ireturn (gd rfl) rfl (nb01 (in_w 0 1 (in_c 0 rfl) rfl)) (hP _ _ ⟨s46, hI46, (fr_tr rfl (fr_tr rfl (fr_tr rfl fr_rf hF3) hF40) hF46), n68c, n68e, n68g, n68i, (Int32.ofInt 0), rfl, rfl, in_w 0 1 (in_c 0 rfl) rfl, n68, n68a⟩)
                · skip
                  have i49 := z_ne 1 1 c49 i46 rfl
                  refine g_aload_n 53 (gd rfl) rfl rfl ?_
                  refine g_ldc 1000100 55 (gd rfl) rfl rfl ?_
                  refine g_iload_n 56 (gd rfl) rfl rfl ?_
                  refine g_iadd 57 (gd rfl) rfl (fun z56 e56 => ?_)
                  have i56 := in_add 1000161 1000161 e56 (in_c 1000100 rfl) i23x13 rfl rfl
                  have hDe : _ = s46.2.2.1 102 4 := (show z46c = s46.2.2.1 102 4 from e46b)
                  have n57 : (z46c).toInt ≤ 119 := by have a0 := in_u ((inv_F hI 0 120 rfl e_102_4)); have a1 := in_u ((inv_F hI 0 5 rfl e_46_3)); have a2 := in_u ((inv_F hI 0 1000 rfl e_46_4)); have a3 := in_u r_46_1; have a4 := in_u ((inv_F hI 0 1000 rfl e_46_2)); have a5 := in_u h2; have a6 := in_u i23x13; have a7 := in_u i46c; have a8 := in_u i46b; have a9 := in_u i46a; have a10 := in_u i56; have a11 := t_add e56 (in_c 1000100 rfl) i23x13 rfl; have a12 := in_u ((in_c 1000100 rfl)); omega
                  refine g_callv (X := _) (As := [.int z56]) (r := []) (b := A 102) (q := 102) 60 (gd rfl) rfl rfl rfl rfl rfl (ww_o rfl) (Nat.le_of_ble_eq_true rfl) (Nat.zero_le _) (Nat.zero_le _) (k_57_102 (by first | exact dq1 hd rfl | exact dq0 hd rfl | exact dq2 hd rfl | exact dq3 hd rfl | omega) hI46 e46b n57) (fun e u h => h) (fun v u h => ?_)
                  obtain ⟨s57, hI57, hF57, n57a, z57, rfl, rfl, i57, p57⟩ := h
                  obtain ⟨z57a, e57⟩ : ∃ w, w = s57.2.2.1 102 4 := ⟨_, rfl⟩
                  have i57a := inv_F hI57 0 120 rfl e57
                  rw [← (show z46c = s46.2.2.1 102 4 from e46b)] at n57a
                  rw [← (show z57a = s57.2.2.1 102 4 from e57)] at n57a
                  show GG _ _ _ _ _ _ _ _ [.int z57] _ _ _
                  refine g_if_eq 63 67 (gd rfl) rfl rfl (fun c60 => ?_) (fun c60 => ?_)
                  · skip
                    exact zn_eq c60 i57 rfl
                  · skip
                    refine g_iconst 1 64 (gd rfl) rfl rfl ?_
                    refine g_goto 68 (gd rfl) rfl ?_
                    have n68 : TK s57 := by exact tk_fr hF57 rfl p46a
                    have n68a : ((Int32.ofInt 1)).toInt ≠ 0 → PCV s s57 1 := by intro _; exact pv_st (j := 2) (k := 1) (pv_tr (j := 1) (k := 1) (pv_tr (j := 1) (k := 0) (p3b c6) (pv_sm (hF40.1 104 rfl) (hF40.2.2.1 102 4 rfl))) (p46b c49)) (inv_F hI46 0 120 rfl rfl).1 p57 (by rw [← (show z57a = s57.2.2.1 102 4 from e57), ← hDe]; have a0 := in_u ((inv_F hI 0 120 rfl e_102_4)); have a1 := in_u ((inv_F hI 0 5 rfl e_46_3)); have a2 := in_u ((inv_F hI 0 1000 rfl e_46_4)); have a3 := in_u r_46_1; have a4 := in_u ((inv_F hI 0 1000 rfl e_46_2)); have a5 := in_u h2; have a6 := in_u i23x13; have a7 := in_u i57a; have a8 := in_u i46b; have a9 := in_u i46a; have a10 := in_u i56; have a11 := t_add e56 (in_c 1000100 rfl) i23x13 rfl; have a12 := in_u ((in_c 1000100 rfl)); omega) (fun e => hc_b (by have a0 := in_u ((inv_F hI 0 120 rfl e_102_4)); have a1 := in_u ((inv_F hI 0 5 rfl e_46_3)); have a2 := in_u ((inv_F hI 0 1000 rfl e_46_4)); have a3 := in_u r_46_1; have a4 := in_u ((inv_F hI 0 1000 rfl e_46_2)); have a5 := in_u h2; have a6 := in_u i23x13; have a7 := in_u i57a; have a8 := in_u i46b; have a9 := in_u i46a; have a10 := in_u i56; have a11 := t_add e56 (in_c 1000100 rfl) i23x13 rfl; have a12 := in_u ((in_c 1000100 rfl)); omega) (by have a0 := in_u ((inv_F hI 0 120 rfl e_102_4)); have a1 := in_u ((inv_F hI 0 5 rfl e_46_3)); have a2 := in_u ((inv_F hI 0 1000 rfl e_46_4)); have a3 := in_u r_46_1; have a4 := in_u ((inv_F hI 0 1000 rfl e_46_2)); have a5 := in_u h2; have a6 := in_u i23x13; have a7 := in_u i57a; have a8 := in_u i46b; have a9 := in_u i46a; have a10 := in_u i56; have a11 := t_add e56 (in_c 1000100 rfl) i23x13 rfl; have a12 := in_u ((in_c 1000100 rfl)); omega) e)
                    have n68b : (z46a).toInt ≤ (u_46_1).toInt := by have a0 := in_u ((inv_F hI 0 120 rfl e_102_4)); have a1 := in_u ((inv_F hI 0 5 rfl e_46_3)); have a2 := in_u ((inv_F hI 0 1000 rfl e_46_4)); have a3 := in_u r_46_1; have a4 := in_u ((inv_F hI 0 1000 rfl e_46_2)); have a5 := in_u h2; have a6 := in_u i23x13; have a7 := in_u i57a; have a8 := in_u i46b; have a9 := in_u i46a; have a10 := in_u i56; have a11 := t_add e56 (in_c 1000100 rfl) i23x13 rfl; have a12 := in_u ((in_c 1000100 rfl)); omega
                    have n68c : (s57.2.2.1 46 2).toInt ≤ (s57.2.2.1 46 1).toInt := by have b0 : z46a = s57.2.2.1 46 2 := fr_F (e46) hF57 rfl; have b1 : u_46_1 = s57.2.2.1 46 1 := fr_F (fr_F (fr_F (fr_F (e_46_1) hF3 rfl) hF40 rfl) hF46 rfl) hF57 rfl; rw [← b0, ← b1]; exact n68b
                    have n68d : (z46b).toInt ≤ (z46a).toInt := by have a0 := in_u ((inv_F hI 0 120 rfl e_102_4)); have a1 := in_u ((inv_F hI 0 5 rfl e_46_3)); have a2 := in_u ((inv_F hI 0 1000 rfl e_46_4)); have a3 := in_u r_46_1; have a4 := in_u ((inv_F hI 0 1000 rfl e_46_2)); have a5 := in_u h2; have a6 := in_u i23x13; have a7 := in_u i57a; have a8 := in_u i46b; have a9 := in_u i46a; have a10 := in_u i56; have a11 := t_add e56 (in_c 1000100 rfl) i23x13 rfl; have a12 := in_u ((in_c 1000100 rfl)); omega
                    have n68e : (s57.2.2.1 46 4).toInt ≤ (s57.2.2.1 46 2).toInt := by have b0 : z46b = s57.2.2.1 46 4 := fr_F (e46a) hF57 rfl; have b1 : z46a = s57.2.2.1 46 2 := fr_F (e46) hF57 rfl; rw [← b0, ← b1]; exact n68d
                    have n68f : (z57a).toInt ≤ (z46b).toInt := by have a0 := in_u ((inv_F hI 0 120 rfl e_102_4)); have a1 := in_u ((inv_F hI 0 5 rfl e_46_3)); have a2 := in_u ((inv_F hI 0 1000 rfl e_46_4)); have a3 := in_u r_46_1; have a4 := in_u ((inv_F hI 0 1000 rfl e_46_2)); have a5 := in_u h2; have a6 := in_u i23x13; have a7 := in_u i57a; have a8 := in_u i46b; have a9 := in_u i46a; have a10 := in_u i56; have a11 := t_add e56 (in_c 1000100 rfl) i23x13 rfl; have a12 := in_u ((in_c 1000100 rfl)); omega
                    have n68g : (s57.2.2.1 102 4).toInt ≤ (s57.2.2.1 46 4).toInt := by have b0 : z57a = s57.2.2.1 102 4 := e57; have b1 : z46b = s57.2.2.1 46 4 := fr_F (e46a) hF57 rfl; rw [← b0, ← b1]; exact n68f
                    have n68h : (u_46_4).toInt - (u_102_4).toInt ≤ (z46b).toInt - (z57a).toInt := by have a0 := in_u ((inv_F hI 0 120 rfl e_102_4)); have a1 := in_u ((inv_F hI 0 5 rfl e_46_3)); have a2 := in_u ((inv_F hI 0 1000 rfl e_46_4)); have a3 := in_u r_46_1; have a4 := in_u ((inv_F hI 0 1000 rfl e_46_2)); have a5 := in_u h2; have a6 := in_u i23x13; have a7 := in_u i57a; have a8 := in_u i46b; have a9 := in_u i46a; have a10 := in_u i56; have a11 := t_add e56 (in_c 1000100 rfl) i23x13 rfl; have a12 := in_u ((in_c 1000100 rfl)); omega
                    have n68i : (s.2.2.1 46 4).toInt - (s.2.2.1 102 4).toInt ≤ (s57.2.2.1 46 4).toInt - (s57.2.2.1 102 4).toInt := by have b0 : z46b = s57.2.2.1 46 4 := fr_F (e46a) hF57 rfl; have b1 : z57a = s57.2.2.1 102 4 := e57; first | (rw [← b0, ← b1, ← e_46_4, ← e_102_4]; exact n68h) | (rw [← b0, ← b1]; exact n68h)
                    exact g_ireturn (gd rfl) rfl (nb01 (in_w 0 1 (in_c 1 rfl) rfl)) (hP _ _ ⟨s57, hI57, (fr_tr rfl (fr_tr rfl (fr_tr rfl (fr_tr rfl fr_rf hF3) hF40) hF46) hF57), n68c, n68e, n68g, n68i, (Int32.ofInt 1), rfl, rfl, in_w 0 1 (in_c 1 rfl) rfl, n68, n68a⟩)
              · skip
                exact zn_eq c26 (in_c 1 rfl) rfl
      · skip
        have i14x13 := r_eq1 60 60 c14x13 (i_rng z14x9) (in_c 60 rfl) rfl
        refine g_iconst 1 17 (gd rfl) rfl rfl ?_
        refine g_goto 21 (gd rfl) rfl ?_
        refine g_ireturn (gd rfl) rfl (nb01 (in_w 0 1 (in_c 1 rfl) rfl)) (hp14 _ _ ?_)
        show GG _ _ _ _ _ _ _ _ [.int (Int32.ofInt 1)] _ _ _
        refine g_if_ne 20 31 (gd rfl) rfl rfl (fun c17 => ?_) (fun c17 => ?_)
        · skip
          refine g_aload_n 32 (gd rfl) rfl rfl ?_
          refine g_getI 35 (gd rfl) rfl rfl rfl (fun z32 e32 => ?_)
          have q32 : z14x9 = z32 := (e14x9).trans e32.symm
          subst q32
          refine g_istore_n 36 (gd rfl) rfl (Nat.le_of_ble_eq_true rfl) ?_
          refine g_aload_n 37 (gd rfl) rfl rfl ?_
          refine g_bipush 6 39 (gd rfl) rfl rfl ?_
          refine g_iconst 0 40 (gd rfl) rfl rfl ?_
          have hk := tka_1 p3a (show z14x1 = s3.2.2.1 46 3 from e14x1) (show z3b = s3.2.2.1 46 4 from e3a) (show z3a = s3.2.2.1 46 2 from e3) (by have a0 := in_u ((inv_F hI 0 120 rfl e_102_4)); have a1 := in_u ((inv_F hI 0 5 rfl e_46_3)); have a2 := in_u ((inv_F hI 0 1000 rfl e_46_4)); have a3 := in_u r_46_1; have a4 := in_u ((inv_F hI 0 1000 rfl e_46_2)); have a5 := in_u h2; have a6 := in_u i14x13; have a7 := in_u i14x5; have a8 := in_u i3c; have a9 := in_u i3b; have a10 := in_u i3a; omega)
          have v40 : u_46_1 = s3.2.2.1 46 1 := fr_F (e_46_1) hF3 rfl
          have n40 : (z3a).toInt ≤ (u_46_1).toInt := by have a0 := in_u ((inv_F hI 0 120 rfl e_102_4)); have a1 := in_u ((inv_F hI 0 5 rfl e_46_3)); have a2 := in_u ((inv_F hI 0 1000 rfl e_46_4)); have a3 := in_u r_46_1; have a4 := in_u ((inv_F hI 0 1000 rfl e_46_2)); have a5 := in_u h2; have a6 := in_u i14x13; have a7 := in_u i14x5; have a8 := in_u i3c; have a9 := in_u i3b; have a10 := in_u i3a; omega
          refine g_callv (X := _) (As := [.int (Int32.ofInt 6), .int (Int32.ofInt 0)]) (r := []) (b := A 46) (q := 46) 43 (gd rfl) rfl rfl rfl rfl rfl (ww_o rfl) (Nat.le_of_ble_eq_true rfl) (Nat.zero_le _) (Nat.zero_le _) (k_171_46 (by first | exact dq1 hd rfl | exact dq0 hd rfl | exact dq2 hd rfl | exact dq3 hd rfl | omega) hI3 (in_w 6 7 (in_c 6 rfl) rfl) (in_w 0 1 (in_c 0 rfl) rfl) e3 v40 n40) (fun e u h => h) (fun v u h => ?_)
          obtain ⟨s40, hI40, hF40, n40a, n40b, n40c, rfl, rfl, p40, p40a⟩ := h
          obtain ⟨z40a, e40⟩ : ∃ w, w = s40.2.2.1 46 2 := ⟨_, rfl⟩
          have i40a := inv_F hI40 0 1000 rfl e40
          obtain ⟨z40b, e40a⟩ : ∃ w, w = s40.2.2.1 46 4 := ⟨_, rfl⟩
          have i40b := inv_F hI40 0 1000 rfl e40a
          rw [← (show z40a = s40.2.2.1 46 2 from e40)] at n40a
          rw [← (show u_46_1 = s40.2.2.1 46 1 from fr_F (fr_F (e_46_1) hF3 rfl) hF40 rfl)] at n40a
          rw [← (show z40a = s40.2.2.1 46 2 from e40)] at n40b
          rw [← (show z40b = s40.2.2.1 46 4 from e40a)] at n40b
          rw [← (show z3a = s3.2.2.1 46 2 from e3)] at n40c
          rw [← (show z40b = s40.2.2.1 46 4 from e40a)] at n40c
          show GG _ _ _ _ _ _ _ _ [] _ _ _
          refine g_aload_n 44 (gd rfl) rfl rfl ?_
          refine g_aload_n 45 (gd rfl) rfl rfl ?_
          refine g_iload_n 46 (gd rfl) rfl rfl ?_
          have v46 : u_46_1 = s40.2.2.1 46 1 := fr_F (fr_F (e_46_1) hF3 rfl) hF40 rfl
          have v46a : z3c = s40.2.2.1 102 4 := fr_F (e3b) hF40 rfl
          have n46 : (z40a).toInt ≤ (u_46_1).toInt := by have a0 := in_u ((inv_F hI 0 120 rfl e_102_4)); have a1 := in_u ((inv_F hI 0 5 rfl e_46_3)); have a2 := in_u ((inv_F hI 0 1000 rfl e_46_4)); have a3 := in_u r_46_1; have a4 := in_u ((inv_F hI 0 1000 rfl e_46_2)); have a5 := in_u h2; have a6 := in_u i14x13; have a7 := in_u i40b; have a8 := in_u i40a; have a9 := in_u i3c; omega
          have n46a : (z40b).toInt ≤ (z40a).toInt := by have a0 := in_u ((inv_F hI 0 120 rfl e_102_4)); have a1 := in_u ((inv_F hI 0 5 rfl e_46_3)); have a2 := in_u ((inv_F hI 0 1000 rfl e_46_4)); have a3 := in_u r_46_1; have a4 := in_u ((inv_F hI 0 1000 rfl e_46_2)); have a5 := in_u h2; have a6 := in_u i14x13; have a7 := in_u i40b; have a8 := in_u i40a; have a9 := in_u i3c; omega
          have n46b : (z3c).toInt ≤ (z40b).toInt := by have a0 := in_u ((inv_F hI 0 120 rfl e_102_4)); have a1 := in_u ((inv_F hI 0 5 rfl e_46_3)); have a2 := in_u ((inv_F hI 0 1000 rfl e_46_4)); have a3 := in_u r_46_1; have a4 := in_u ((inv_F hI 0 1000 rfl e_46_2)); have a5 := in_u h2; have a6 := in_u i14x13; have a7 := in_u i40b; have a8 := in_u i40a; have a9 := in_u i3c; omega
          have p46 : TK s40 := by exact p40 (by decide)
          have n46c : 10 - (x2).toInt < ((kk : Nat) : Int) := by have a0 := in_u ((inv_F hI 0 120 rfl e_102_4)); have a1 := in_u ((inv_F hI 0 5 rfl e_46_3)); have a2 := in_u ((inv_F hI 0 1000 rfl e_46_4)); have a3 := in_u r_46_1; have a4 := in_u ((inv_F hI 0 1000 rfl e_46_2)); have a5 := in_u h2; have a6 := in_u i14x13; have a7 := in_u i40b; have a8 := in_u i40a; have a9 := in_u i3c; omega
          refine g_callv (X := _) (As := [.ref (A 46), .int x2]) (r := []) (b := A 102) (q := 102) 49 (gd rfl) rfl rfl rfl rfl rfl (ww_o rfl) (Nat.le_of_ble_eq_true rfl) (Nat.zero_le _) (Nat.zero_le _) (ih (by omega) hI40 (in_w 0 10 h2 rfl) e40 v46 e40a rfl rfl v46a (in_w 0 120 r_46_1 rfl) n46 n46a n46b p46 n46c) (fun e u h => h) (fun v u h => ?_)
          obtain ⟨s46, hI46, hF46, n46d, n46e, n46f, n46g, z46, rfl, rfl, i46, p46a, p46b⟩ := h
          obtain ⟨z46a, e46⟩ : ∃ w, w = s46.2.2.1 46 2 := ⟨_, rfl⟩
          have i46a := inv_F hI46 0 1000 rfl e46
          obtain ⟨z46b, e46a⟩ : ∃ w, w = s46.2.2.1 46 4 := ⟨_, rfl⟩
          have i46b := inv_F hI46 0 1000 rfl e46a
          obtain ⟨z46c, e46b⟩ : ∃ w, w = s46.2.2.1 102 4 := ⟨_, rfl⟩
          have i46c := inv_F hI46 0 120 rfl e46b
          rw [← (show z46a = s46.2.2.1 46 2 from e46)] at n46d
          rw [← (show u_46_1 = s46.2.2.1 46 1 from fr_F (fr_F (fr_F (e_46_1) hF3 rfl) hF40 rfl) hF46 rfl)] at n46d
          rw [← (show z46a = s46.2.2.1 46 2 from e46)] at n46e
          rw [← (show z46b = s46.2.2.1 46 4 from e46a)] at n46e
          rw [← (show z46b = s46.2.2.1 46 4 from e46a)] at n46f
          rw [← (show z46c = s46.2.2.1 102 4 from e46b)] at n46f
          rw [← (show z40b = s40.2.2.1 46 4 from e40a)] at n46g
          rw [← (show z3c = s40.2.2.1 102 4 from fr_F (e3b) hF40 rfl)] at n46g
          rw [← (show z46b = s46.2.2.1 46 4 from e46a)] at n46g
          rw [← (show z46c = s46.2.2.1 102 4 from e46b)] at n46g
          show GG _ _ _ _ _ _ _ _ [.int z46] _ _ _
          refine g_if_eq 52 67 (gd rfl) rfl rfl (fun c49 => ?_) (fun c49 => ?_)
          · skip
            have i49 := z_eq 0 0 c49 i46 rfl
            refine g_iconst 0 68 (gd rfl) rfl rfl ?_
            have n68 : TK s46 := by exact p46a
            have n68a : ((Int32.ofInt 0)).toInt ≠ 0 → PCV s s46 1 := by first | (intro _; exact p3b c6) | (intro h; exact absurd rfl h)
            have n68b : (z46a).toInt ≤ (u_46_1).toInt := by have a0 := in_u ((inv_F hI 0 120 rfl e_102_4)); have a1 := in_u ((inv_F hI 0 5 rfl e_46_3)); have a2 := in_u ((inv_F hI 0 1000 rfl e_46_4)); have a3 := in_u r_46_1; have a4 := in_u ((inv_F hI 0 1000 rfl e_46_2)); have a5 := in_u h2; have a6 := in_u i14x13; have a7 := in_u i46c; have a8 := in_u i46b; have a9 := in_u i46a; omega
            have n68c : (s46.2.2.1 46 2).toInt ≤ (s46.2.2.1 46 1).toInt := by have b0 : z46a = s46.2.2.1 46 2 := e46; have b1 : u_46_1 = s46.2.2.1 46 1 := fr_F (fr_F (fr_F (e_46_1) hF3 rfl) hF40 rfl) hF46 rfl; rw [← b0, ← b1]; exact n68b
            have n68d : (z46b).toInt ≤ (z46a).toInt := by have a0 := in_u ((inv_F hI 0 120 rfl e_102_4)); have a1 := in_u ((inv_F hI 0 5 rfl e_46_3)); have a2 := in_u ((inv_F hI 0 1000 rfl e_46_4)); have a3 := in_u r_46_1; have a4 := in_u ((inv_F hI 0 1000 rfl e_46_2)); have a5 := in_u h2; have a6 := in_u i14x13; have a7 := in_u i46c; have a8 := in_u i46b; have a9 := in_u i46a; omega
            have n68e : (s46.2.2.1 46 4).toInt ≤ (s46.2.2.1 46 2).toInt := by have b0 : z46b = s46.2.2.1 46 4 := e46a; have b1 : z46a = s46.2.2.1 46 2 := e46; rw [← b0, ← b1]; exact n68d
            have n68f : (z46c).toInt ≤ (z46b).toInt := by have a0 := in_u ((inv_F hI 0 120 rfl e_102_4)); have a1 := in_u ((inv_F hI 0 5 rfl e_46_3)); have a2 := in_u ((inv_F hI 0 1000 rfl e_46_4)); have a3 := in_u r_46_1; have a4 := in_u ((inv_F hI 0 1000 rfl e_46_2)); have a5 := in_u h2; have a6 := in_u i14x13; have a7 := in_u i46c; have a8 := in_u i46b; have a9 := in_u i46a; omega
            have n68g : (s46.2.2.1 102 4).toInt ≤ (s46.2.2.1 46 4).toInt := by have b0 : z46c = s46.2.2.1 102 4 := e46b; have b1 : z46b = s46.2.2.1 46 4 := e46a; rw [← b0, ← b1]; exact n68f
            have n68h : (u_46_4).toInt - (u_102_4).toInt ≤ (z46b).toInt - (z46c).toInt := by have a0 := in_u ((inv_F hI 0 120 rfl e_102_4)); have a1 := in_u ((inv_F hI 0 5 rfl e_46_3)); have a2 := in_u ((inv_F hI 0 1000 rfl e_46_4)); have a3 := in_u r_46_1; have a4 := in_u ((inv_F hI 0 1000 rfl e_46_2)); have a5 := in_u h2; have a6 := in_u i14x13; have a7 := in_u i46c; have a8 := in_u i46b; have a9 := in_u i46a; omega
            have n68i : (s.2.2.1 46 4).toInt - (s.2.2.1 102 4).toInt ≤ (s46.2.2.1 46 4).toInt - (s46.2.2.1 102 4).toInt := by have b0 : z46b = s46.2.2.1 46 4 := e46a; have b1 : z46c = s46.2.2.1 102 4 := e46b; first | (rw [← b0, ← b1, ← e_46_4, ← e_102_4]; exact n68h) | (rw [← b0, ← b1]; exact n68h)
            exact g_ireturn (gd rfl) rfl (nb01 (in_w 0 1 (in_c 0 rfl) rfl)) (hP _ _ ⟨s46, hI46, (fr_tr rfl (fr_tr rfl (fr_tr rfl fr_rf hF3) hF40) hF46), n68c, n68e, n68g, n68i, (Int32.ofInt 0), rfl, rfl, in_w 0 1 (in_c 0 rfl) rfl, n68, n68a⟩)
          · skip
            have i49 := z_ne 1 1 c49 i46 rfl
            refine g_aload_n 53 (gd rfl) rfl rfl ?_
            refine g_ldc 1000100 55 (gd rfl) rfl rfl ?_
            refine g_iload_n 56 (gd rfl) rfl rfl ?_
            refine g_iadd 57 (gd rfl) rfl (fun z56 e56 => ?_)
            have i56 := in_add 1000160 1000160 e56 (in_c 1000100 rfl) i14x13 rfl rfl
            have hDe : _ = s46.2.2.1 102 4 := (show z46c = s46.2.2.1 102 4 from e46b)
            have n57 : (z46c).toInt ≤ 119 := by have a0 := in_u ((inv_F hI 0 120 rfl e_102_4)); have a1 := in_u ((inv_F hI 0 5 rfl e_46_3)); have a2 := in_u ((inv_F hI 0 1000 rfl e_46_4)); have a3 := in_u r_46_1; have a4 := in_u ((inv_F hI 0 1000 rfl e_46_2)); have a5 := in_u h2; have a6 := in_u i14x13; have a7 := in_u i46c; have a8 := in_u i46b; have a9 := in_u i46a; have a10 := in_u i56; have a11 := t_add e56 (in_c 1000100 rfl) i14x13 rfl; have a12 := in_u ((in_c 1000100 rfl)); omega
            refine g_callv (X := _) (As := [.int z56]) (r := []) (b := A 102) (q := 102) 60 (gd rfl) rfl rfl rfl rfl rfl (ww_o rfl) (Nat.le_of_ble_eq_true rfl) (Nat.zero_le _) (Nat.zero_le _) (k_57_102 (by first | exact dq1 hd rfl | exact dq0 hd rfl | exact dq2 hd rfl | exact dq3 hd rfl | omega) hI46 e46b n57) (fun e u h => h) (fun v u h => ?_)
            obtain ⟨s57, hI57, hF57, n57a, z57, rfl, rfl, i57, p57⟩ := h
            obtain ⟨z57a, e57⟩ : ∃ w, w = s57.2.2.1 102 4 := ⟨_, rfl⟩
            have i57a := inv_F hI57 0 120 rfl e57
            rw [← (show z46c = s46.2.2.1 102 4 from e46b)] at n57a
            rw [← (show z57a = s57.2.2.1 102 4 from e57)] at n57a
            show GG _ _ _ _ _ _ _ _ [.int z57] _ _ _
            refine g_if_eq 63 67 (gd rfl) rfl rfl (fun c60 => ?_) (fun c60 => ?_)
            · skip
              exact zn_eq c60 i57 rfl
            · skip
              refine g_iconst 1 64 (gd rfl) rfl rfl ?_
              refine g_goto 68 (gd rfl) rfl ?_
              have n68 : TK s57 := by exact tk_fr hF57 rfl p46a
              have n68a : ((Int32.ofInt 1)).toInt ≠ 0 → PCV s s57 1 := by intro _; exact pv_st (j := 2) (k := 1) (pv_tr (j := 1) (k := 1) (pv_tr (j := 1) (k := 0) (p3b c6) (pv_sm (hF40.1 104 rfl) (hF40.2.2.1 102 4 rfl))) (p46b c49)) (inv_F hI46 0 120 rfl rfl).1 p57 (by rw [← (show z57a = s57.2.2.1 102 4 from e57), ← hDe]; have a0 := in_u ((inv_F hI 0 120 rfl e_102_4)); have a1 := in_u ((inv_F hI 0 5 rfl e_46_3)); have a2 := in_u ((inv_F hI 0 1000 rfl e_46_4)); have a3 := in_u r_46_1; have a4 := in_u ((inv_F hI 0 1000 rfl e_46_2)); have a5 := in_u h2; have a6 := in_u i14x13; have a7 := in_u i57a; have a8 := in_u i46b; have a9 := in_u i46a; have a10 := in_u i56; have a11 := t_add e56 (in_c 1000100 rfl) i14x13 rfl; have a12 := in_u ((in_c 1000100 rfl)); omega) (fun e => hc_b (by have a0 := in_u ((inv_F hI 0 120 rfl e_102_4)); have a1 := in_u ((inv_F hI 0 5 rfl e_46_3)); have a2 := in_u ((inv_F hI 0 1000 rfl e_46_4)); have a3 := in_u r_46_1; have a4 := in_u ((inv_F hI 0 1000 rfl e_46_2)); have a5 := in_u h2; have a6 := in_u i14x13; have a7 := in_u i57a; have a8 := in_u i46b; have a9 := in_u i46a; have a10 := in_u i56; have a11 := t_add e56 (in_c 1000100 rfl) i14x13 rfl; have a12 := in_u ((in_c 1000100 rfl)); omega) (by have a0 := in_u ((inv_F hI 0 120 rfl e_102_4)); have a1 := in_u ((inv_F hI 0 5 rfl e_46_3)); have a2 := in_u ((inv_F hI 0 1000 rfl e_46_4)); have a3 := in_u r_46_1; have a4 := in_u ((inv_F hI 0 1000 rfl e_46_2)); have a5 := in_u h2; have a6 := in_u i14x13; have a7 := in_u i57a; have a8 := in_u i46b; have a9 := in_u i46a; have a10 := in_u i56; have a11 := t_add e56 (in_c 1000100 rfl) i14x13 rfl; have a12 := in_u ((in_c 1000100 rfl)); omega) e)
              have n68b : (z46a).toInt ≤ (u_46_1).toInt := by have a0 := in_u ((inv_F hI 0 120 rfl e_102_4)); have a1 := in_u ((inv_F hI 0 5 rfl e_46_3)); have a2 := in_u ((inv_F hI 0 1000 rfl e_46_4)); have a3 := in_u r_46_1; have a4 := in_u ((inv_F hI 0 1000 rfl e_46_2)); have a5 := in_u h2; have a6 := in_u i14x13; have a7 := in_u i57a; have a8 := in_u i46b; have a9 := in_u i46a; have a10 := in_u i56; have a11 := t_add e56 (in_c 1000100 rfl) i14x13 rfl; have a12 := in_u ((in_c 1000100 rfl)); omega
              have n68c : (s57.2.2.1 46 2).toInt ≤ (s57.2.2.1 46 1).toInt := by have b0 : z46a = s57.2.2.1 46 2 := fr_F (e46) hF57 rfl; have b1 : u_46_1 = s57.2.2.1 46 1 := fr_F (fr_F (fr_F (fr_F (e_46_1) hF3 rfl) hF40 rfl) hF46 rfl) hF57 rfl; rw [← b0, ← b1]; exact n68b
              have n68d : (z46b).toInt ≤ (z46a).toInt := by have a0 := in_u ((inv_F hI 0 120 rfl e_102_4)); have a1 := in_u ((inv_F hI 0 5 rfl e_46_3)); have a2 := in_u ((inv_F hI 0 1000 rfl e_46_4)); have a3 := in_u r_46_1; have a4 := in_u ((inv_F hI 0 1000 rfl e_46_2)); have a5 := in_u h2; have a6 := in_u i14x13; have a7 := in_u i57a; have a8 := in_u i46b; have a9 := in_u i46a; have a10 := in_u i56; have a11 := t_add e56 (in_c 1000100 rfl) i14x13 rfl; have a12 := in_u ((in_c 1000100 rfl)); omega
              have n68e : (s57.2.2.1 46 4).toInt ≤ (s57.2.2.1 46 2).toInt := by have b0 : z46b = s57.2.2.1 46 4 := fr_F (e46a) hF57 rfl; have b1 : z46a = s57.2.2.1 46 2 := fr_F (e46) hF57 rfl; rw [← b0, ← b1]; exact n68d
              have n68f : (z57a).toInt ≤ (z46b).toInt := by have a0 := in_u ((inv_F hI 0 120 rfl e_102_4)); have a1 := in_u ((inv_F hI 0 5 rfl e_46_3)); have a2 := in_u ((inv_F hI 0 1000 rfl e_46_4)); have a3 := in_u r_46_1; have a4 := in_u ((inv_F hI 0 1000 rfl e_46_2)); have a5 := in_u h2; have a6 := in_u i14x13; have a7 := in_u i57a; have a8 := in_u i46b; have a9 := in_u i46a; have a10 := in_u i56; have a11 := t_add e56 (in_c 1000100 rfl) i14x13 rfl; have a12 := in_u ((in_c 1000100 rfl)); omega
              have n68g : (s57.2.2.1 102 4).toInt ≤ (s57.2.2.1 46 4).toInt := by have b0 : z57a = s57.2.2.1 102 4 := e57; have b1 : z46b = s57.2.2.1 46 4 := fr_F (e46a) hF57 rfl; rw [← b0, ← b1]; exact n68f
              have n68h : (u_46_4).toInt - (u_102_4).toInt ≤ (z46b).toInt - (z57a).toInt := by have a0 := in_u ((inv_F hI 0 120 rfl e_102_4)); have a1 := in_u ((inv_F hI 0 5 rfl e_46_3)); have a2 := in_u ((inv_F hI 0 1000 rfl e_46_4)); have a3 := in_u r_46_1; have a4 := in_u ((inv_F hI 0 1000 rfl e_46_2)); have a5 := in_u h2; have a6 := in_u i14x13; have a7 := in_u i57a; have a8 := in_u i46b; have a9 := in_u i46a; have a10 := in_u i56; have a11 := t_add e56 (in_c 1000100 rfl) i14x13 rfl; have a12 := in_u ((in_c 1000100 rfl)); omega
              have n68i : (s.2.2.1 46 4).toInt - (s.2.2.1 102 4).toInt ≤ (s57.2.2.1 46 4).toInt - (s57.2.2.1 102 4).toInt := by have b0 : z46b = s57.2.2.1 46 4 := fr_F (e46a) hF57 rfl; have b1 : z57a = s57.2.2.1 102 4 := e57; first | (rw [← b0, ← b1, ← e_46_4, ← e_102_4]; exact n68h) | (rw [← b0, ← b1]; exact n68h)
              exact g_ireturn (gd rfl) rfl (nb01 (in_w 0 1 (in_c 1 rfl) rfl)) (hP _ _ ⟨s57, hI57, (fr_tr rfl (fr_tr rfl (fr_tr rfl (fr_tr rfl fr_rf hF3) hF40) hF46) hF57), n68c, n68e, n68g, n68i, (Int32.ofInt 1), rfl, rfl, in_w 0 1 (in_c 1 rfl) rfl, n68, n68a⟩)
        · skip
          exact zn_eq c17 (in_c 1 rfl) rfl
  · skip
    have i6 := z_eq 0 0 c6 i3 rfl
    refine g_iconst 0 10 (gd rfl) rfl rfl ?_
    have n10 : TK s3 := by exact p3a
    have n10a : ((Int32.ofInt 0)).toInt ≠ 0 → PCV s s3 1 := by first | (intro _; exact p3b c6) | (intro h; exact absurd rfl h)
    have n10b : (z3a).toInt ≤ (u_46_1).toInt := by have a0 := in_u ((inv_F hI 0 120 rfl e_102_4)); have a1 := in_u ((inv_F hI 0 5 rfl e_46_3)); have a2 := in_u ((inv_F hI 0 1000 rfl e_46_4)); have a3 := in_u r_46_1; have a4 := in_u ((inv_F hI 0 1000 rfl e_46_2)); have a5 := in_u h2; have a6 := in_u i3c; have a7 := in_u i3b; have a8 := in_u i3a; omega
    have n10c : (s3.2.2.1 46 2).toInt ≤ (s3.2.2.1 46 1).toInt := by have b0 : z3a = s3.2.2.1 46 2 := e3; have b1 : u_46_1 = s3.2.2.1 46 1 := fr_F (e_46_1) hF3 rfl; rw [← b0, ← b1]; exact n10b
    have n10d : (z3b).toInt ≤ (z3a).toInt := by have a0 := in_u ((inv_F hI 0 120 rfl e_102_4)); have a1 := in_u ((inv_F hI 0 5 rfl e_46_3)); have a2 := in_u ((inv_F hI 0 1000 rfl e_46_4)); have a3 := in_u r_46_1; have a4 := in_u ((inv_F hI 0 1000 rfl e_46_2)); have a5 := in_u h2; have a6 := in_u i3c; have a7 := in_u i3b; have a8 := in_u i3a; omega
    have n10e : (s3.2.2.1 46 4).toInt ≤ (s3.2.2.1 46 2).toInt := by have b0 : z3b = s3.2.2.1 46 4 := e3a; have b1 : z3a = s3.2.2.1 46 2 := e3; rw [← b0, ← b1]; exact n10d
    have n10f : (z3c).toInt ≤ (z3b).toInt := by have a0 := in_u ((inv_F hI 0 120 rfl e_102_4)); have a1 := in_u ((inv_F hI 0 5 rfl e_46_3)); have a2 := in_u ((inv_F hI 0 1000 rfl e_46_4)); have a3 := in_u r_46_1; have a4 := in_u ((inv_F hI 0 1000 rfl e_46_2)); have a5 := in_u h2; have a6 := in_u i3c; have a7 := in_u i3b; have a8 := in_u i3a; omega
    have n10g : (s3.2.2.1 102 4).toInt ≤ (s3.2.2.1 46 4).toInt := by have b0 : z3c = s3.2.2.1 102 4 := e3b; have b1 : z3b = s3.2.2.1 46 4 := e3a; rw [← b0, ← b1]; exact n10f
    have n10h : (u_46_4).toInt - (u_102_4).toInt ≤ (z3b).toInt - (z3c).toInt := by have a0 := in_u ((inv_F hI 0 120 rfl e_102_4)); have a1 := in_u ((inv_F hI 0 5 rfl e_46_3)); have a2 := in_u ((inv_F hI 0 1000 rfl e_46_4)); have a3 := in_u r_46_1; have a4 := in_u ((inv_F hI 0 1000 rfl e_46_2)); have a5 := in_u h2; have a6 := in_u i3c; have a7 := in_u i3b; have a8 := in_u i3a; omega
    have n10i : (s.2.2.1 46 4).toInt - (s.2.2.1 102 4).toInt ≤ (s3.2.2.1 46 4).toInt - (s3.2.2.1 102 4).toInt := by have b0 : z3b = s3.2.2.1 46 4 := e3a; have b1 : z3c = s3.2.2.1 102 4 := e3b; first | (rw [← b0, ← b1, ← e_46_4, ← e_102_4]; exact n10h) | (rw [← b0, ← b1]; exact n10h)
    exact g_ireturn (gd rfl) rfl (nb01 (in_w 0 1 (in_c 0 rfl) rfl)) (hP _ _ ⟨s3, hI3, (fr_tr rfl fr_rf hF3), n10c, n10e, n10g, n10i, (Int32.ofInt 0), rfl, rfl, in_w 0 1 (in_c 0 rfl) rfl, n10, n10a⟩)
theorem k_61_102_46_r {Z : AmZ} {A : Nat → Nat} {ex : va_W} (kk : Nat) : ∀ {s : GS} {d : Nat} {X : AmX} {x2 : Int32} {u_46_2 : Int32} {u_46_1 : Int32} {u_46_4 : Int32} {u_46_3 : Int32} {u_46_5 : Int32} {u_102_4 : Int32}, 60 + kk * 20 ≤ d → Inv s → (In x2 0 10) → (u_46_2 = s.2.2.1 46 2) → (u_46_1 = s.2.2.1 46 1) → (u_46_4 = s.2.2.1 46 4) → (u_46_3 = s.2.2.1 46 3) → (u_46_5 = s.2.2.1 46 5) → (u_102_4 = s.2.2.1 102 4) → (In u_46_1 0 120) → ((u_46_2).toInt ≤ (u_46_1).toInt) → ((u_46_4).toInt ≤ (u_46_2).toInt) → ((u_102_4).toInt ≤ (u_46_4).toInt) → (TK s) → 10 - (x2).toInt < ((kk : Nat) : Int) → GC Z d 61 [.ref (A 102), .ref (A 46), .int x2] (WW Z A s ++ ex) 0 0 (fun v u => ∃ t : GS, Inv t ∧ Fr fm_61_102_46 s t ∧ ((t.2.2.1 46 2).toInt ≤ (t.2.2.1 46 1).toInt) ∧ ((t.2.2.1 46 4).toInt ≤ (t.2.2.1 46 2).toInt) ∧ ((t.2.2.1 102 4).toInt ≤ (t.2.2.1 46 4).toInt) ∧ ((s.2.2.1 46 4).toInt - (s.2.2.1 102 4).toInt ≤ (t.2.2.1 46 4).toInt - (t.2.2.1 102 4).toInt) ∧ ∃ z : Int32, v = some (.int z) ∧ u = WW Z A t ++ ex ∧ In z 0 1 ∧ (TK t) ∧ ((z).toInt ≠ 0 → PCV s t 1)) X := by
  induction kk with
  | zero => intro s d X x2 u_46_2 u_46_1 u_46_4 u_46_3 u_46_5 u_102_4 hd hI h2 e_46_2 e_46_1 e_46_4 e_46_3 e_46_5 e_102_4 r_46_1 p_0 p_1 p_2 q_0 hm; exact m_no hm h2 rfl
  | succ kk ih =>
    have ihl : ∀ {s : GS} {d : Nat} {X : AmX} {x2 : Int32} {u_46_2 : Int32} {u_46_1 : Int32} {u_46_4 : Int32} {u_46_3 : Int32} {u_46_5 : Int32} {u_102_4 : Int32}, 75 + kk * 20 ≤ d → Inv s → (In x2 0 10) → (u_46_2 = s.2.2.1 46 2) → (u_46_1 = s.2.2.1 46 1) → (u_46_4 = s.2.2.1 46 4) → (u_46_3 = s.2.2.1 46 3) → (u_46_5 = s.2.2.1 46 5) → (u_102_4 = s.2.2.1 102 4) → (In u_46_1 0 120) → ((u_46_2).toInt ≤ (u_46_1).toInt) → ((u_46_4).toInt ≤ (u_46_2).toInt) → ((u_102_4).toInt ≤ (u_46_4).toInt) → (TK s) → 10 - (x2).toInt < ((kk : Nat) : Int) → GC Z d 58 [.ref (A 102), .ref (A 46), .int x2] (WW Z A s ++ ex) 0 0 (fun v u => ∃ t : GS, Inv t ∧ Fr fm_58_102_46 s t ∧ ((t.2.2.1 46 2).toInt ≤ (t.2.2.1 46 1).toInt) ∧ ((t.2.2.1 46 4).toInt ≤ (t.2.2.1 46 2).toInt) ∧ ((t.2.2.1 102 4).toInt ≤ (t.2.2.1 46 4).toInt) ∧ ((s.2.2.1 46 4).toInt - (s.2.2.1 102 4).toInt ≤ (t.2.2.1 46 4).toInt - (t.2.2.1 102 4).toInt) ∧ ∃ z : Int32, v = some (.int z) ∧ u = WW Z A t ++ ex ∧ In z 0 1 ∧ (TK t) ∧ ((z).toInt ≠ 0 → PCV s t 1)) X := (k_58_102_46_r kk (k_59_102_46_r kk (k_60_102_46_r kk ih)))
    intro s d X x2 u_46_2 u_46_1 u_46_4 u_46_3 u_46_5 u_102_4 hd hI h2 e_46_2 e_46_1 e_46_4 e_46_3 e_46_5 e_102_4 r_46_1 p_0 p_1 p_2 q_0 hm
    intro post xp hP hX
    refine g_enter2 (k := 61) (N := 900) (by first | exact dq1 hd rfl | exact dq0 hd rfl | exact dq2 hd rfl | exact dq3 hd rfl | omega) rfl (Nat.le_of_ble_eq_true rfl) ?_
    refine g_aload_n 1 (gd rfl) rfl rfl ?_
    refine g_getI 4 (gd rfl) rfl rfl rfl (fun z1 e1 => ?_)
    have q1 : u_46_3 = z1 := (e_46_3).trans e1.symm
    subst q1
    refine g_iconst 2 5 (gd rfl) rfl rfl ?_
    refine g_cmp_eq 8 16 (gd rfl) rfl rfl (fun c5 => ?_) (fun c5 => ?_)
    · skip
      have i5 := r_eq1 2 2 c5 (inv_F hI 0 5 rfl e_46_3) (in_c 2 rfl) rfl
      refine g_aload_n 17 (gd rfl) rfl rfl ?_
      refine g_aload_n 18 (gd rfl) rfl rfl ?_
      have n18 : (u_46_2).toInt ≤ (u_46_1).toInt := by have a0 := in_u ((inv_F hI 0 120 rfl e_102_4)); have a1 := in_u i5; have a2 := in_u ((inv_F hI 0 1000 rfl e_46_4)); have a3 := in_u r_46_1; have a4 := in_u ((inv_F hI 0 1000 rfl e_46_2)); have a5 := in_u h2; omega
      have n18a : (u_46_4).toInt ≤ (u_46_2).toInt := by have a0 := in_u ((inv_F hI 0 120 rfl e_102_4)); have a1 := in_u i5; have a2 := in_u ((inv_F hI 0 1000 rfl e_46_4)); have a3 := in_u r_46_1; have a4 := in_u ((inv_F hI 0 1000 rfl e_46_2)); have a5 := in_u h2; omega
      have n18b : (u_102_4).toInt ≤ (u_46_4).toInt := by have a0 := in_u ((inv_F hI 0 120 rfl e_102_4)); have a1 := in_u i5; have a2 := in_u ((inv_F hI 0 1000 rfl e_46_4)); have a3 := in_u r_46_1; have a4 := in_u ((inv_F hI 0 1000 rfl e_46_2)); have a5 := in_u h2; omega
      have n18c : 1 ≤ (u_46_3).toInt := by have a0 := in_u ((inv_F hI 0 120 rfl e_102_4)); have a1 := in_u i5; have a2 := in_u ((inv_F hI 0 1000 rfl e_46_4)); have a3 := in_u r_46_1; have a4 := in_u ((inv_F hI 0 1000 rfl e_46_2)); have a5 := in_u h2; omega
      have n18d : (u_46_3).toInt ≤ 2 := by have a0 := in_u ((inv_F hI 0 120 rfl e_102_4)); have a1 := in_u i5; have a2 := in_u ((inv_F hI 0 1000 rfl e_46_4)); have a3 := in_u r_46_1; have a4 := in_u ((inv_F hI 0 1000 rfl e_46_2)); have a5 := in_u h2; omega
      have p18 : TK s := by exact q_0
      refine g_callv (X := _) (As := [.ref (A 46)]) (r := []) (b := A 102) (q := 102) 21 (gd rfl) rfl rfl rfl rfl rfl (ww_o rfl) (Nat.le_of_ble_eq_true rfl) (Nat.zero_le _) (Nat.zero_le _) (k_62_102_46 (by first | exact dq1 hd rfl | exact dq0 hd rfl | exact dq2 hd rfl | exact dq3 hd rfl | omega) hI e_46_2 e_46_1 e_46_4 e_46_3 e_46_5 e_102_4 (in_w 0 120 r_46_1 rfl) n18 n18a n18b n18c n18d p18) (fun e u h => h) (fun v u h => ?_)
      obtain ⟨s18, hI18, hF18, n18e, n18f, n18g, n18h, z18, rfl, rfl, i18, p18a, p18b⟩ := h
      obtain ⟨z18a, e18⟩ : ∃ w, w = s18.2.2.1 46 2 := ⟨_, rfl⟩
      have i18a := inv_F hI18 0 1000 rfl e18
      obtain ⟨z18b, e18a⟩ : ∃ w, w = s18.2.2.1 46 4 := ⟨_, rfl⟩
      have i18b := inv_F hI18 0 1000 rfl e18a
      obtain ⟨z18c, e18b⟩ : ∃ w, w = s18.2.2.1 102 4 := ⟨_, rfl⟩
      have i18c := inv_F hI18 0 120 rfl e18b
      rw [← (show z18a = s18.2.2.1 46 2 from e18)] at n18e
      rw [← (show u_46_1 = s18.2.2.1 46 1 from fr_F (e_46_1) hF18 rfl)] at n18e
      rw [← (show z18a = s18.2.2.1 46 2 from e18)] at n18f
      rw [← (show z18b = s18.2.2.1 46 4 from e18a)] at n18f
      rw [← (show z18b = s18.2.2.1 46 4 from e18a)] at n18g
      rw [← (show z18c = s18.2.2.1 102 4 from e18b)] at n18g
      rw [← (show u_46_4 = s.2.2.1 46 4 from e_46_4)] at n18h
      rw [← (show u_102_4 = s.2.2.1 102 4 from e_102_4)] at n18h
      rw [← (show z18b = s18.2.2.1 46 4 from e18a)] at n18h
      rw [← (show z18c = s18.2.2.1 102 4 from e18b)] at n18h
      show GG _ _ _ _ _ _ _ _ [.int z18] _ _ _
      have n21 : TK s18 := by exact p18a
      have n21a : (z18).toInt ≠ 0 → PCV s s18 1 := by exact p18b
      have n21b : (z18a).toInt ≤ (u_46_1).toInt := by have a0 := in_u ((inv_F hI 0 120 rfl e_102_4)); have a1 := in_u i5; have a2 := in_u ((inv_F hI 0 1000 rfl e_46_4)); have a3 := in_u r_46_1; have a4 := in_u ((inv_F hI 0 1000 rfl e_46_2)); have a5 := in_u h2; have a6 := in_u i18c; have a7 := in_u i18b; have a8 := in_u i18a; omega
      have n21c : (s18.2.2.1 46 2).toInt ≤ (s18.2.2.1 46 1).toInt := by have b0 : z18a = s18.2.2.1 46 2 := e18; have b1 : u_46_1 = s18.2.2.1 46 1 := fr_F (e_46_1) hF18 rfl; rw [← b0, ← b1]; exact n21b
      have n21d : (z18b).toInt ≤ (z18a).toInt := by have a0 := in_u ((inv_F hI 0 120 rfl e_102_4)); have a1 := in_u i5; have a2 := in_u ((inv_F hI 0 1000 rfl e_46_4)); have a3 := in_u r_46_1; have a4 := in_u ((inv_F hI 0 1000 rfl e_46_2)); have a5 := in_u h2; have a6 := in_u i18c; have a7 := in_u i18b; have a8 := in_u i18a; omega
      have n21e : (s18.2.2.1 46 4).toInt ≤ (s18.2.2.1 46 2).toInt := by have b0 : z18b = s18.2.2.1 46 4 := e18a; have b1 : z18a = s18.2.2.1 46 2 := e18; rw [← b0, ← b1]; exact n21d
      have n21f : (z18c).toInt ≤ (z18b).toInt := by have a0 := in_u ((inv_F hI 0 120 rfl e_102_4)); have a1 := in_u i5; have a2 := in_u ((inv_F hI 0 1000 rfl e_46_4)); have a3 := in_u r_46_1; have a4 := in_u ((inv_F hI 0 1000 rfl e_46_2)); have a5 := in_u h2; have a6 := in_u i18c; have a7 := in_u i18b; have a8 := in_u i18a; omega
      have n21g : (s18.2.2.1 102 4).toInt ≤ (s18.2.2.1 46 4).toInt := by have b0 : z18c = s18.2.2.1 102 4 := e18b; have b1 : z18b = s18.2.2.1 46 4 := e18a; rw [← b0, ← b1]; exact n21f
      have n21h : (u_46_4).toInt - (u_102_4).toInt ≤ (z18b).toInt - (z18c).toInt := by have a0 := in_u ((inv_F hI 0 120 rfl e_102_4)); have a1 := in_u i5; have a2 := in_u ((inv_F hI 0 1000 rfl e_46_4)); have a3 := in_u r_46_1; have a4 := in_u ((inv_F hI 0 1000 rfl e_46_2)); have a5 := in_u h2; have a6 := in_u i18c; have a7 := in_u i18b; have a8 := in_u i18a; omega
      have n21i : (s.2.2.1 46 4).toInt - (s.2.2.1 102 4).toInt ≤ (s18.2.2.1 46 4).toInt - (s18.2.2.1 102 4).toInt := by have b0 : z18b = s18.2.2.1 46 4 := e18a; have b1 : z18c = s18.2.2.1 102 4 := e18b; first | (rw [← b0, ← b1, ← e_46_4, ← e_102_4]; exact n21h) | (rw [← b0, ← b1]; exact n21h)
      exact g_ireturn (gd rfl) rfl (nb01 (in_w 0 1 i18 rfl)) (hP _ _ ⟨s18, hI18, (fr_tr rfl fr_rf hF18), n21c, n21e, n21g, n21i, z18, rfl, rfl, in_w 0 1 i18 rfl, n21, n21a⟩)
    · skip
      refine g_aload_n 9 (gd rfl) rfl rfl ?_
      refine g_getI 12 (gd rfl) rfl rfl rfl (fun z9 e9 => ?_)
      have q9 : u_46_3 = z9 := (e_46_3).trans e9.symm
      subst q9
      refine g_iconst 1 13 (gd rfl) rfl rfl ?_
      refine g_cmp_ne 16 22 (gd rfl) rfl rfl (fun c13 => ?_) (fun c13 => ?_)
      · skip
        refine g_aload_n 23 (gd rfl) rfl rfl ?_
        refine g_bipush 45 25 (gd rfl) rfl rfl ?_
        refine g_callv (X := _) (As := [.int (Int32.ofInt 45)]) (r := []) (b := A 46) (q := 46) 28 (gd rfl) rfl rfl rfl rfl rfl (ww_o rfl) (Nat.le_of_ble_eq_true rfl) (mc := 0) (ms := 0) (Nat.zero_le _) (Nat.zero_le _) (P := fun v u => _) ?_ (fun e u h => h) (fun v u h => h)
        intro po25 xx25 hp25 hx25
        refine g_enter2 (k := 170) (N := 300) (by first | exact dq1 hd rfl | exact dq0 hd rfl | exact dq2 hd rfl | exact dq3 hd rfl | omega) rfl (Nat.le_of_ble_eq_true rfl) ?_
        refine g_aload_n 1 (gd rfl) rfl rfl ?_
        refine g_getI 4 (gd rfl) rfl rfl rfl (fun z25x1 e25x1 => ?_)
        have q25x1 : u_46_3 = z25x1 := (e_46_3).trans e25x1.symm
        subst q25x1
        refine g_iconst 3 5 (gd rfl) rfl rfl ?_
        refine g_cmp_ne 8 20 (gd rfl) rfl rfl (fun c25x5 => ?_) (fun c25x5 => ?_)
        · skip
          refine g_iconst 0 21 (gd rfl) rfl rfl ?_
          refine g_ireturn (gd rfl) rfl (nb01 (in_w 0 1 (in_c 0 rfl) rfl)) (hp25 _ _ ?_)
          show GG _ _ _ _ _ _ _ _ [.int (Int32.ofInt 0)] _ _ _
          refine g_istore_n 29 (gd rfl) rfl (Nat.le_of_ble_eq_true rfl) ?_
          refine g_iload_n 30 (gd rfl) rfl rfl ?_
          refine g_if_ne 33 49 (gd rfl) rfl rfl (fun c30 => ?_) (fun c30 => ?_)
          · skip
            exact zn_ne c30 (in_c 0 rfl) rfl
          · skip
            refine g_aload_n 34 (gd rfl) rfl rfl ?_
            refine g_bipush 40 36 (gd rfl) rfl rfl ?_
            refine g_callv (X := _) (As := [.int (Int32.ofInt 40)]) (r := []) (b := A 46) (q := 46) 39 (gd rfl) rfl rfl rfl rfl rfl (ww_o rfl) (Nat.le_of_ble_eq_true rfl) (mc := 0) (ms := 0) (Nat.zero_le _) (Nat.zero_le _) (P := fun v u => _) ?_ (fun e u h => h) (fun v u h => h)
            intro po36 xx36 hp36 hx36
            refine g_enter2 (k := 170) (N := 300) (by first | exact dq1 hd rfl | exact dq0 hd rfl | exact dq2 hd rfl | exact dq3 hd rfl | omega) rfl (Nat.le_of_ble_eq_true rfl) ?_
            refine g_aload_n 1 (gd rfl) rfl rfl ?_
            refine g_getI 4 (gd rfl) rfl rfl rfl (fun z36x1 e36x1 => ?_)
            have q36x1 : u_46_3 = z36x1 := (e_46_3).trans e36x1.symm
            subst q36x1
            refine g_iconst 3 5 (gd rfl) rfl rfl ?_
            refine g_cmp_ne 8 20 (gd rfl) rfl rfl (fun c36x5 => ?_) (fun c36x5 => ?_)
            · skip
              refine g_iconst 0 21 (gd rfl) rfl rfl ?_
              refine g_ireturn (gd rfl) rfl (nb01 (in_w 0 1 (in_c 0 rfl) rfl)) (hp36 _ _ ?_)
              show GG _ _ _ _ _ _ _ _ [.int (Int32.ofInt 0)] _ _ _
              refine g_if_ne 42 49 (gd rfl) rfl rfl (fun c39 => ?_) (fun c39 => ?_)
              · skip
                exact zn_ne c39 (in_c 0 rfl) rfl
              · skip
                refine g_aload_n 43 (gd rfl) rfl rfl ?_
                refine g_iconst 2 44 (gd rfl) rfl rfl ?_
                refine g_iconst 4 45 (gd rfl) rfl rfl ?_
                refine g_callv (X := _) (As := [.int (Int32.ofInt 2), .int (Int32.ofInt 4)]) (r := []) (b := A 46) (q := 46) 48 (gd rfl) rfl rfl rfl rfl rfl (ww_o rfl) (Nat.le_of_ble_eq_true rfl) (Nat.zero_le _) (Nat.zero_le _) (k_169_46 (by first | exact dq1 hd rfl | exact dq0 hd rfl | exact dq2 hd rfl | exact dq3 hd rfl | omega) hI (in_w 2 2 (in_c 2 rfl) rfl) (in_w 3 4 (in_c 4 rfl) rfl)) (fun e u h => h) (fun v u h => ?_)
                obtain ⟨s45, hI45, hF45, z45, rfl, rfl, i45⟩ := h
                show GG _ _ _ _ _ _ _ _ [.int z45] _ _ _
                have n48 : TK s45 := by exact tk_fr hF45 rfl q_0
                have n48a : (z45).toInt ≠ 0 → PCV s s45 1 := by intro h; unfold In at i45; omega
                have n48b : (u_46_2).toInt ≤ (u_46_1).toInt := by have a0 := in_u ((inv_F hI 0 120 rfl e_102_4)); have a1 := in_u ((inv_F hI 0 5 rfl e_46_3)); have a2 := in_u ((inv_F hI 0 1000 rfl e_46_4)); have a3 := in_u r_46_1; have a4 := in_u ((inv_F hI 0 1000 rfl e_46_2)); have a5 := in_u h2; have a6 := in_u ((in_c 0 rfl)); omega
                have n48c : (s45.2.2.1 46 2).toInt ≤ (s45.2.2.1 46 1).toInt := by have b0 : u_46_2 = s45.2.2.1 46 2 := fr_F (e_46_2) hF45 rfl; have b1 : u_46_1 = s45.2.2.1 46 1 := fr_F (e_46_1) hF45 rfl; rw [← b0, ← b1]; exact n48b
                have n48d : (u_46_4).toInt ≤ (u_46_2).toInt := by have a0 := in_u ((inv_F hI 0 120 rfl e_102_4)); have a1 := in_u ((inv_F hI 0 5 rfl e_46_3)); have a2 := in_u ((inv_F hI 0 1000 rfl e_46_4)); have a3 := in_u r_46_1; have a4 := in_u ((inv_F hI 0 1000 rfl e_46_2)); have a5 := in_u h2; have a6 := in_u ((in_c 0 rfl)); omega
                have n48e : (s45.2.2.1 46 4).toInt ≤ (s45.2.2.1 46 2).toInt := by have b0 : u_46_4 = s45.2.2.1 46 4 := fr_F (e_46_4) hF45 rfl; have b1 : u_46_2 = s45.2.2.1 46 2 := fr_F (e_46_2) hF45 rfl; rw [← b0, ← b1]; exact n48d
                have n48f : (u_102_4).toInt ≤ (u_46_4).toInt := by have a0 := in_u ((inv_F hI 0 120 rfl e_102_4)); have a1 := in_u ((inv_F hI 0 5 rfl e_46_3)); have a2 := in_u ((inv_F hI 0 1000 rfl e_46_4)); have a3 := in_u r_46_1; have a4 := in_u ((inv_F hI 0 1000 rfl e_46_2)); have a5 := in_u h2; have a6 := in_u ((in_c 0 rfl)); omega
                have n48g : (s45.2.2.1 102 4).toInt ≤ (s45.2.2.1 46 4).toInt := by have b0 : u_102_4 = s45.2.2.1 102 4 := fr_F (e_102_4) hF45 rfl; have b1 : u_46_4 = s45.2.2.1 46 4 := fr_F (e_46_4) hF45 rfl; rw [← b0, ← b1]; exact n48f
                have n48h : (u_46_4).toInt - (u_102_4).toInt ≤ (u_46_4).toInt - (u_102_4).toInt := by have a0 := in_u ((inv_F hI 0 120 rfl e_102_4)); have a1 := in_u ((inv_F hI 0 5 rfl e_46_3)); have a2 := in_u ((inv_F hI 0 1000 rfl e_46_4)); have a3 := in_u r_46_1; have a4 := in_u ((inv_F hI 0 1000 rfl e_46_2)); have a5 := in_u h2; have a6 := in_u ((in_c 0 rfl)); omega
                have n48i : (s.2.2.1 46 4).toInt - (s.2.2.1 102 4).toInt ≤ (s45.2.2.1 46 4).toInt - (s45.2.2.1 102 4).toInt := by have b0 : u_46_4 = s45.2.2.1 46 4 := fr_F (e_46_4) hF45 rfl; have b1 : u_102_4 = s45.2.2.1 102 4 := fr_F (e_102_4) hF45 rfl; first | (rw [← b0, ← b1, ← e_46_4, ← e_102_4]; exact n48h) | (rw [← b0, ← b1]; exact n48h)
                exact g_ireturn (gd rfl) rfl (nb01 (in_w 0 1 i45 rfl)) (hP _ _ ⟨s45, hI45, (fr_tr rfl fr_rf hF45), n48c, n48e, n48g, n48i, z45, rfl, rfl, in_w 0 1 i45 rfl, n48, n48a⟩)
            · skip
              exact absurd c36x5 c25x5
        · skip
          have i25x5 := r_eq1 3 3 c25x5 (inv_F hI 0 5 rfl e_46_3) (in_c 3 rfl) rfl
          refine g_aload_n 9 (gd rfl) rfl rfl ?_
          refine g_getI 12 (gd rfl) rfl rfl rfl (fun z25x9 e25x9 => ?_)
          have q25x9 : u_46_5 = z25x9 := (e_46_5).trans e25x9.symm
          subst q25x9
          refine g_iload_n 13 (gd rfl) rfl rfl ?_
          refine g_cmp_ne 16 20 (gd rfl) rfl rfl (fun c25x13 => ?_) (fun c25x13 => ?_)
          · skip
            refine g_iconst 0 21 (gd rfl) rfl rfl ?_
            refine g_ireturn (gd rfl) rfl (nb01 (in_w 0 1 (in_c 0 rfl) rfl)) (hp25 _ _ ?_)
            show GG _ _ _ _ _ _ _ _ [.int (Int32.ofInt 0)] _ _ _
            refine g_istore_n 29 (gd rfl) rfl (Nat.le_of_ble_eq_true rfl) ?_
            refine g_iload_n 30 (gd rfl) rfl rfl ?_
            refine g_if_ne 33 49 (gd rfl) rfl rfl (fun c30 => ?_) (fun c30 => ?_)
            · skip
              exact zn_ne c30 (in_c 0 rfl) rfl
            · skip
              refine g_aload_n 34 (gd rfl) rfl rfl ?_
              refine g_bipush 40 36 (gd rfl) rfl rfl ?_
              refine g_callv (X := _) (As := [.int (Int32.ofInt 40)]) (r := []) (b := A 46) (q := 46) 39 (gd rfl) rfl rfl rfl rfl rfl (ww_o rfl) (Nat.le_of_ble_eq_true rfl) (mc := 0) (ms := 0) (Nat.zero_le _) (Nat.zero_le _) (P := fun v u => _) ?_ (fun e u h => h) (fun v u h => h)
              intro po36 xx36 hp36 hx36
              refine g_enter2 (k := 170) (N := 300) (by first | exact dq1 hd rfl | exact dq0 hd rfl | exact dq2 hd rfl | exact dq3 hd rfl | omega) rfl (Nat.le_of_ble_eq_true rfl) ?_
              refine g_aload_n 1 (gd rfl) rfl rfl ?_
              refine g_getI 4 (gd rfl) rfl rfl rfl (fun z36x1 e36x1 => ?_)
              have q36x1 : u_46_3 = z36x1 := (e_46_3).trans e36x1.symm
              subst q36x1
              refine g_iconst 3 5 (gd rfl) rfl rfl ?_
              refine g_cmp_ne 8 20 (gd rfl) rfl rfl (fun c36x5 => ?_) (fun c36x5 => ?_)
              · skip
                exact n_ne c36x5 i25x5 (in_c 3 rfl) rfl
              · skip
                refine g_aload_n 9 (gd rfl) rfl rfl ?_
                refine g_getI 12 (gd rfl) rfl rfl rfl (fun z36x9 e36x9 => ?_)
                have q36x9 : u_46_5 = z36x9 := (e_46_5).trans e36x9.symm
                subst q36x9
                refine g_iload_n 13 (gd rfl) rfl rfl ?_
                refine g_cmp_ne 16 20 (gd rfl) rfl rfl (fun c36x13 => ?_) (fun c36x13 => ?_)
                · skip
                  refine g_iconst 0 21 (gd rfl) rfl rfl ?_
                  refine g_ireturn (gd rfl) rfl (nb01 (in_w 0 1 (in_c 0 rfl) rfl)) (hp36 _ _ ?_)
                  show GG _ _ _ _ _ _ _ _ [.int (Int32.ofInt 0)] _ _ _
                  refine g_if_ne 42 49 (gd rfl) rfl rfl (fun c39 => ?_) (fun c39 => ?_)
                  · skip
                    exact zn_ne c39 (in_c 0 rfl) rfl
                  · skip
                    refine g_aload_n 43 (gd rfl) rfl rfl ?_
                    refine g_iconst 2 44 (gd rfl) rfl rfl ?_
                    refine g_iconst 4 45 (gd rfl) rfl rfl ?_
                    refine g_callv (X := _) (As := [.int (Int32.ofInt 2), .int (Int32.ofInt 4)]) (r := []) (b := A 46) (q := 46) 48 (gd rfl) rfl rfl rfl rfl rfl (ww_o rfl) (Nat.le_of_ble_eq_true rfl) (Nat.zero_le _) (Nat.zero_le _) (k_169_46 (by first | exact dq1 hd rfl | exact dq0 hd rfl | exact dq2 hd rfl | exact dq3 hd rfl | omega) hI (in_w 2 2 (in_c 2 rfl) rfl) (in_w 3 4 (in_c 4 rfl) rfl)) (fun e u h => h) (fun v u h => ?_)
                    obtain ⟨s45, hI45, hF45, z45, rfl, rfl, i45⟩ := h
                    show GG _ _ _ _ _ _ _ _ [.int z45] _ _ _
                    have n48 : TK s45 := by exact tk_fr hF45 rfl q_0
                    have n48a : (z45).toInt ≠ 0 → PCV s s45 1 := by intro h; unfold In at i45; omega
                    have n48b : (u_46_2).toInt ≤ (u_46_1).toInt := by have a0 := in_u ((inv_F hI 0 120 rfl e_102_4)); have a1 := in_u i25x5; have a2 := in_u ((inv_F hI 0 1000 rfl e_46_4)); have a3 := in_u r_46_1; have a4 := in_u ((inv_F hI 0 1000 rfl e_46_2)); have a5 := in_u h2; have a6 := in_u ((in_c 0 rfl)); omega
                    have n48c : (s45.2.2.1 46 2).toInt ≤ (s45.2.2.1 46 1).toInt := by have b0 : u_46_2 = s45.2.2.1 46 2 := fr_F (e_46_2) hF45 rfl; have b1 : u_46_1 = s45.2.2.1 46 1 := fr_F (e_46_1) hF45 rfl; rw [← b0, ← b1]; exact n48b
                    have n48d : (u_46_4).toInt ≤ (u_46_2).toInt := by have a0 := in_u ((inv_F hI 0 120 rfl e_102_4)); have a1 := in_u i25x5; have a2 := in_u ((inv_F hI 0 1000 rfl e_46_4)); have a3 := in_u r_46_1; have a4 := in_u ((inv_F hI 0 1000 rfl e_46_2)); have a5 := in_u h2; have a6 := in_u ((in_c 0 rfl)); omega
                    have n48e : (s45.2.2.1 46 4).toInt ≤ (s45.2.2.1 46 2).toInt := by have b0 : u_46_4 = s45.2.2.1 46 4 := fr_F (e_46_4) hF45 rfl; have b1 : u_46_2 = s45.2.2.1 46 2 := fr_F (e_46_2) hF45 rfl; rw [← b0, ← b1]; exact n48d
                    have n48f : (u_102_4).toInt ≤ (u_46_4).toInt := by have a0 := in_u ((inv_F hI 0 120 rfl e_102_4)); have a1 := in_u i25x5; have a2 := in_u ((inv_F hI 0 1000 rfl e_46_4)); have a3 := in_u r_46_1; have a4 := in_u ((inv_F hI 0 1000 rfl e_46_2)); have a5 := in_u h2; have a6 := in_u ((in_c 0 rfl)); omega
                    have n48g : (s45.2.2.1 102 4).toInt ≤ (s45.2.2.1 46 4).toInt := by have b0 : u_102_4 = s45.2.2.1 102 4 := fr_F (e_102_4) hF45 rfl; have b1 : u_46_4 = s45.2.2.1 46 4 := fr_F (e_46_4) hF45 rfl; rw [← b0, ← b1]; exact n48f
                    have n48h : (u_46_4).toInt - (u_102_4).toInt ≤ (u_46_4).toInt - (u_102_4).toInt := by have a0 := in_u ((inv_F hI 0 120 rfl e_102_4)); have a1 := in_u i25x5; have a2 := in_u ((inv_F hI 0 1000 rfl e_46_4)); have a3 := in_u r_46_1; have a4 := in_u ((inv_F hI 0 1000 rfl e_46_2)); have a5 := in_u h2; have a6 := in_u ((in_c 0 rfl)); omega
                    have n48i : (s.2.2.1 46 4).toInt - (s.2.2.1 102 4).toInt ≤ (s45.2.2.1 46 4).toInt - (s45.2.2.1 102 4).toInt := by have b0 : u_46_4 = s45.2.2.1 46 4 := fr_F (e_46_4) hF45 rfl; have b1 : u_102_4 = s45.2.2.1 102 4 := fr_F (e_102_4) hF45 rfl; first | (rw [← b0, ← b1, ← e_46_4, ← e_102_4]; exact n48h) | (rw [← b0, ← b1]; exact n48h)
                    exact g_ireturn (gd rfl) rfl (nb01 (in_w 0 1 i45 rfl)) (hP _ _ ⟨s45, hI45, (fr_tr rfl fr_rf hF45), n48c, n48e, n48g, n48i, z45, rfl, rfl, in_w 0 1 i45 rfl, n48, n48a⟩)
                · skip
                  have i36x13 := r_eq1 40 40 c36x13 (inv_F hI (-2147483648) 2147483647 rfl e_46_5) (in_c 40 rfl) rfl
                  refine g_iconst 1 17 (gd rfl) rfl rfl ?_
                  refine g_goto 21 (gd rfl) rfl ?_
                  refine g_ireturn (gd rfl) rfl (nb01 (in_w 0 1 (in_c 1 rfl) rfl)) (hp36 _ _ ?_)
                  show GG _ _ _ _ _ _ _ _ [.int (Int32.ofInt 1)] _ _ _
                  refine g_if_ne 42 49 (gd rfl) rfl rfl (fun c39 => ?_) (fun c39 => ?_)
                  · skip
                    refine g_iload_n 50 (gd rfl) rfl rfl ?_
                    refine g_bipush 10 52 (gd rfl) rfl rfl ?_
                    refine g_cmp_lt 55 65 (gd rfl) rfl rfl (fun c52 => ?_) (fun c52 => ?_)
                    · skip
                      have i52 := r_lt1 0 9 c52 h2 (in_c 10 rfl) rfl
                      refine g_aload_n 66 (gd rfl) rfl rfl ?_
                      refine g_bipush 6 68 (gd rfl) rfl rfl ?_
                      refine g_iconst 0 69 (gd rfl) rfl rfl ?_
                      have hk := tka_1 q_0 (show u_46_3 = s.2.2.1 46 3 from e_46_3) (show u_46_4 = s.2.2.1 46 4 from e_46_4) (show u_46_2 = s.2.2.1 46 2 from e_46_2) (by have a0 := in_u ((inv_F hI 0 120 rfl e_102_4)); have a1 := in_u i36x13; have a2 := in_u i25x5; have a3 := in_u ((inv_F hI 0 1000 rfl e_46_4)); have a4 := in_u r_46_1; have a5 := in_u ((inv_F hI 0 1000 rfl e_46_2)); have a6 := in_u i52; have a7 := in_u ((in_c 0 rfl)); omega)
                      have n69 : (u_46_2).toInt ≤ (u_46_1).toInt := by have a0 := in_u ((inv_F hI 0 120 rfl e_102_4)); have a1 := in_u i36x13; have a2 := in_u i25x5; have a3 := in_u ((inv_F hI 0 1000 rfl e_46_4)); have a4 := in_u r_46_1; have a5 := in_u ((inv_F hI 0 1000 rfl e_46_2)); have a6 := in_u i52; have a7 := in_u ((in_c 0 rfl)); omega
                      refine g_callv (X := _) (As := [.int (Int32.ofInt 6), .int (Int32.ofInt 0)]) (r := []) (b := A 46) (q := 46) 72 (gd rfl) rfl rfl rfl rfl rfl (ww_o rfl) (Nat.le_of_ble_eq_true rfl) (Nat.zero_le _) (Nat.zero_le _) (k_171_46 (by first | exact dq1 hd rfl | exact dq0 hd rfl | exact dq2 hd rfl | exact dq3 hd rfl | omega) hI (in_w 6 7 (in_c 6 rfl) rfl) (in_w 0 1 (in_c 0 rfl) rfl) e_46_2 e_46_1 n69) (fun e u h => h) (fun v u h => ?_)
                      obtain ⟨s69, hI69, hF69, n69a, n69b, n69c, rfl, rfl, p69, p69a⟩ := h
                      obtain ⟨z69a, e69⟩ : ∃ w, w = s69.2.2.1 46 2 := ⟨_, rfl⟩
                      have i69a := inv_F hI69 0 1000 rfl e69
                      obtain ⟨z69b, e69a⟩ : ∃ w, w = s69.2.2.1 46 4 := ⟨_, rfl⟩
                      have i69b := inv_F hI69 0 1000 rfl e69a
                      rw [← (show z69a = s69.2.2.1 46 2 from e69)] at n69a
                      rw [← (show u_46_1 = s69.2.2.1 46 1 from fr_F (e_46_1) hF69 rfl)] at n69a
                      rw [← (show z69a = s69.2.2.1 46 2 from e69)] at n69b
                      rw [← (show z69b = s69.2.2.1 46 4 from e69a)] at n69b
                      rw [← (show u_46_2 = s.2.2.1 46 2 from e_46_2)] at n69c
                      rw [← (show z69b = s69.2.2.1 46 4 from e69a)] at n69c
                      show GG _ _ _ _ _ _ _ _ [] _ _ _
                      refine g_iload_n 73 (gd rfl) rfl rfl ?_
                      refine g_if_eq 76 102 (gd rfl) rfl rfl (fun c73 => ?_) (fun c73 => ?_)
                      · skip
                        refine g_aload_n 103 (gd rfl) rfl rfl ?_
                        refine g_aload_n 104 (gd rfl) rfl rfl ?_
                        refine g_iload_n 105 (gd rfl) rfl rfl ?_
                        refine g_iconst 1 106 (gd rfl) rfl rfl ?_
                        refine g_iadd 107 (gd rfl) rfl (fun z106 e106 => ?_)
                        have i106 := in_add 1 10 e106 i52 (in_c 1 rfl) rfl rfl
                        have v107 : u_46_1 = s69.2.2.1 46 1 := fr_F (e_46_1) hF69 rfl
                        have v107a : u_102_4 = s69.2.2.1 102 4 := fr_F (e_102_4) hF69 rfl
                        have n107 : (z69a).toInt ≤ (u_46_1).toInt := by have a0 := in_u ((inv_F hI 0 120 rfl e_102_4)); have a1 := in_u i36x13; have a2 := in_u i25x5; have a3 := in_u ((inv_F hI 0 1000 rfl e_46_4)); have a4 := in_u r_46_1; have a5 := in_u ((inv_F hI 0 1000 rfl e_46_2)); have a6 := in_u i52; have a7 := in_u ((in_c 0 rfl)); have a8 := in_u i69b; have a9 := in_u i69a; have a10 := in_u i106; have a11 := t_add e106 i52 (in_c 1 rfl) rfl; have a12 := in_u ((in_c 1 rfl)); omega
                        have n107a : (z69b).toInt ≤ (z69a).toInt := by have a0 := in_u ((inv_F hI 0 120 rfl e_102_4)); have a1 := in_u i36x13; have a2 := in_u i25x5; have a3 := in_u ((inv_F hI 0 1000 rfl e_46_4)); have a4 := in_u r_46_1; have a5 := in_u ((inv_F hI 0 1000 rfl e_46_2)); have a6 := in_u i52; have a7 := in_u ((in_c 0 rfl)); have a8 := in_u i69b; have a9 := in_u i69a; have a10 := in_u i106; have a11 := t_add e106 i52 (in_c 1 rfl) rfl; have a12 := in_u ((in_c 1 rfl)); omega
                        have n107b : (u_102_4).toInt ≤ (z69b).toInt := by have a0 := in_u ((inv_F hI 0 120 rfl e_102_4)); have a1 := in_u i36x13; have a2 := in_u i25x5; have a3 := in_u ((inv_F hI 0 1000 rfl e_46_4)); have a4 := in_u r_46_1; have a5 := in_u ((inv_F hI 0 1000 rfl e_46_2)); have a6 := in_u i52; have a7 := in_u ((in_c 0 rfl)); have a8 := in_u i69b; have a9 := in_u i69a; have a10 := in_u i106; have a11 := t_add e106 i52 (in_c 1 rfl) rfl; have a12 := in_u ((in_c 1 rfl)); omega
                        have p107 : TK s69 := by exact p69 (by decide)
                        have n107c : 10 - (z106).toInt < ((kk : Nat) : Int) := by have a0 := in_u ((inv_F hI 0 120 rfl e_102_4)); have a1 := in_u i36x13; have a2 := in_u i25x5; have a3 := in_u ((inv_F hI 0 1000 rfl e_46_4)); have a4 := in_u r_46_1; have a5 := in_u ((inv_F hI 0 1000 rfl e_46_2)); have a6 := in_u i52; have a7 := in_u ((in_c 0 rfl)); have a8 := in_u i69b; have a9 := in_u i69a; have a10 := in_u i106; have a11 := t_add e106 i52 (in_c 1 rfl) rfl; have a12 := in_u ((in_c 1 rfl)); omega
                        refine g_callv (X := _) (As := [.ref (A 46), .int z106]) (r := []) (b := A 102) (q := 102) 110 (gd rfl) rfl rfl rfl rfl rfl (ww_o rfl) (Nat.le_of_ble_eq_true rfl) (Nat.zero_le _) (Nat.zero_le _) (ihl (by omega) hI69 (in_w 0 10 i106 rfl) e69 v107 e69a rfl rfl v107a (in_w 0 120 r_46_1 rfl) n107 n107a n107b p107 n107c) (fun e u h => h) (fun v u h => ?_)
                        obtain ⟨s107, hI107, hF107, n107d, n107e, n107f, n107g, z107, rfl, rfl, i107, p107a, p107b⟩ := h
                        obtain ⟨z107a, e107⟩ : ∃ w, w = s107.2.2.1 46 2 := ⟨_, rfl⟩
                        have i107a := inv_F hI107 0 1000 rfl e107
                        obtain ⟨z107b, e107a⟩ : ∃ w, w = s107.2.2.1 46 4 := ⟨_, rfl⟩
                        have i107b := inv_F hI107 0 1000 rfl e107a
                        obtain ⟨z107c, e107b⟩ : ∃ w, w = s107.2.2.1 102 4 := ⟨_, rfl⟩
                        have i107c := inv_F hI107 0 120 rfl e107b
                        rw [← (show z107a = s107.2.2.1 46 2 from e107)] at n107d
                        rw [← (show u_46_1 = s107.2.2.1 46 1 from fr_F (fr_F (e_46_1) hF69 rfl) hF107 rfl)] at n107d
                        rw [← (show z107a = s107.2.2.1 46 2 from e107)] at n107e
                        rw [← (show z107b = s107.2.2.1 46 4 from e107a)] at n107e
                        rw [← (show z107b = s107.2.2.1 46 4 from e107a)] at n107f
                        rw [← (show z107c = s107.2.2.1 102 4 from e107b)] at n107f
                        rw [← (show z69b = s69.2.2.1 46 4 from e69a)] at n107g
                        rw [← (show u_102_4 = s69.2.2.1 102 4 from fr_F (e_102_4) hF69 rfl)] at n107g
                        rw [← (show z107b = s107.2.2.1 46 4 from e107a)] at n107g
                        rw [← (show z107c = s107.2.2.1 102 4 from e107b)] at n107g
                        show GG _ _ _ _ _ _ _ _ [.int z107] _ _ _
                        refine g_if_ne 113 115 (gd rfl) rfl rfl (fun c110 => ?_) (fun c110 => ?_)
                        · skip
                          have i110 := z_ne 1 1 c110 i107 rfl
                          refine g_aload_n 116 (gd rfl) rfl rfl ?_
                          refine g_bipush 41 118 (gd rfl) rfl rfl ?_
                          refine g_callv (X := _) (As := [.int (Int32.ofInt 41)]) (r := []) (b := A 46) (q := 46) 121 (gd rfl) rfl rfl rfl rfl rfl (ww_o rfl) (Nat.le_of_ble_eq_true rfl) (mc := 0) (ms := 0) (Nat.zero_le _) (Nat.zero_le _) (P := fun v u => _) ?_ (fun e u h => h) (fun v u h => h)
                          intro po118 xx118 hp118 hx118
                          refine g_enter2 (k := 170) (N := 300) (by first | exact dq1 hd rfl | exact dq0 hd rfl | exact dq2 hd rfl | exact dq3 hd rfl | omega) rfl (Nat.le_of_ble_eq_true rfl) ?_
                          refine g_aload_n 1 (gd rfl) rfl rfl ?_
                          refine g_getI 4 (gd rfl) rfl rfl rfl (fun z118x1 e118x1 => ?_)
                          have i118x1 := inv_F hI107 0 5 rfl e118x1
                          refine g_iconst 3 5 (gd rfl) rfl rfl ?_
                          refine g_cmp_ne 8 20 (gd rfl) rfl rfl (fun c118x5 => ?_) (fun c118x5 => ?_)
                          · skip
                            refine g_iconst 0 21 (gd rfl) rfl rfl ?_
                            refine g_ireturn (gd rfl) rfl (nb01 (in_w 0 1 (in_c 0 rfl) rfl)) (hp118 _ _ ?_)
                            show GG _ _ _ _ _ _ _ _ [.int (Int32.ofInt 0)] _ _ _
                            refine g_if_ne 124 131 (gd rfl) rfl rfl (fun c121 => ?_) (fun c121 => ?_)
                            · skip
                              exact zn_ne c121 (in_c 0 rfl) rfl
                            · skip
                              refine g_aload_n 125 (gd rfl) rfl rfl ?_
                              refine g_iconst 2 126 (gd rfl) rfl rfl ?_
                              refine g_iconst 4 127 (gd rfl) rfl rfl ?_
                              refine g_callv (X := _) (As := [.int (Int32.ofInt 2), .int (Int32.ofInt 4)]) (r := []) (b := A 46) (q := 46) 130 (gd rfl) rfl rfl rfl rfl rfl (ww_o rfl) (Nat.le_of_ble_eq_true rfl) (Nat.zero_le _) (Nat.zero_le _) (k_169_46 (by first | exact dq1 hd rfl | exact dq0 hd rfl | exact dq2 hd rfl | exact dq3 hd rfl | omega) hI107 (in_w 2 2 (in_c 2 rfl) rfl) (in_w 3 4 (in_c 4 rfl) rfl)) (fun e u h => h) (fun v u h => ?_)
                              obtain ⟨s127, hI127, hF127, z127, rfl, rfl, i127⟩ := h
                              show GG _ _ _ _ _ _ _ _ [.int z127] _ _ _
                              have n130 : TK s127 := by exact tk_fr hF127 rfl p107a
                              have n130a : (z127).toInt ≠ 0 → PCV s s127 1 := by intro h; unfold In at i127; omega
                              have n130b : (z107a).toInt ≤ (u_46_1).toInt := by have a0 := in_u ((inv_F hI 0 120 rfl e_102_4)); have a1 := in_u i36x13; have a2 := in_u i25x5; have a3 := in_u ((inv_F hI 0 1000 rfl e_46_4)); have a4 := in_u r_46_1; have a5 := in_u ((inv_F hI 0 1000 rfl e_46_2)); have a6 := in_u i52; have a7 := in_u ((in_c 0 rfl)); have a8 := in_u i118x1; have a9 := in_u i107c; have a10 := in_u i107b; have a11 := in_u i107a; have a12 := in_u i106; have a13 := t_add e106 i52 (in_c 1 rfl) rfl; have a14 := in_u ((in_c 1 rfl)); omega
                              have n130c : (s127.2.2.1 46 2).toInt ≤ (s127.2.2.1 46 1).toInt := by have b0 : z107a = s127.2.2.1 46 2 := fr_F (e107) hF127 rfl; have b1 : u_46_1 = s127.2.2.1 46 1 := fr_F (fr_F (fr_F (e_46_1) hF69 rfl) hF107 rfl) hF127 rfl; rw [← b0, ← b1]; exact n130b
                              have n130d : (z107b).toInt ≤ (z107a).toInt := by have a0 := in_u ((inv_F hI 0 120 rfl e_102_4)); have a1 := in_u i36x13; have a2 := in_u i25x5; have a3 := in_u ((inv_F hI 0 1000 rfl e_46_4)); have a4 := in_u r_46_1; have a5 := in_u ((inv_F hI 0 1000 rfl e_46_2)); have a6 := in_u i52; have a7 := in_u ((in_c 0 rfl)); have a8 := in_u i118x1; have a9 := in_u i107c; have a10 := in_u i107b; have a11 := in_u i107a; have a12 := in_u i106; have a13 := t_add e106 i52 (in_c 1 rfl) rfl; have a14 := in_u ((in_c 1 rfl)); omega
                              have n130e : (s127.2.2.1 46 4).toInt ≤ (s127.2.2.1 46 2).toInt := by have b0 : z107b = s127.2.2.1 46 4 := fr_F (e107a) hF127 rfl; have b1 : z107a = s127.2.2.1 46 2 := fr_F (e107) hF127 rfl; rw [← b0, ← b1]; exact n130d
                              have n130f : (z107c).toInt ≤ (z107b).toInt := by have a0 := in_u ((inv_F hI 0 120 rfl e_102_4)); have a1 := in_u i36x13; have a2 := in_u i25x5; have a3 := in_u ((inv_F hI 0 1000 rfl e_46_4)); have a4 := in_u r_46_1; have a5 := in_u ((inv_F hI 0 1000 rfl e_46_2)); have a6 := in_u i52; have a7 := in_u ((in_c 0 rfl)); have a8 := in_u i118x1; have a9 := in_u i107c; have a10 := in_u i107b; have a11 := in_u i107a; have a12 := in_u i106; have a13 := t_add e106 i52 (in_c 1 rfl) rfl; have a14 := in_u ((in_c 1 rfl)); omega
                              have n130g : (s127.2.2.1 102 4).toInt ≤ (s127.2.2.1 46 4).toInt := by have b0 : z107c = s127.2.2.1 102 4 := fr_F (e107b) hF127 rfl; have b1 : z107b = s127.2.2.1 46 4 := fr_F (e107a) hF127 rfl; rw [← b0, ← b1]; exact n130f
                              have n130h : (u_46_4).toInt - (u_102_4).toInt ≤ (z107b).toInt - (z107c).toInt := by have a0 := in_u ((inv_F hI 0 120 rfl e_102_4)); have a1 := in_u i36x13; have a2 := in_u i25x5; have a3 := in_u ((inv_F hI 0 1000 rfl e_46_4)); have a4 := in_u r_46_1; have a5 := in_u ((inv_F hI 0 1000 rfl e_46_2)); have a6 := in_u i52; have a7 := in_u ((in_c 0 rfl)); have a8 := in_u i118x1; have a9 := in_u i107c; have a10 := in_u i107b; have a11 := in_u i107a; have a12 := in_u i106; have a13 := t_add e106 i52 (in_c 1 rfl) rfl; have a14 := in_u ((in_c 1 rfl)); omega
                              have n130i : (s.2.2.1 46 4).toInt - (s.2.2.1 102 4).toInt ≤ (s127.2.2.1 46 4).toInt - (s127.2.2.1 102 4).toInt := by have b0 : z107b = s127.2.2.1 46 4 := fr_F (e107a) hF127 rfl; have b1 : z107c = s127.2.2.1 102 4 := fr_F (e107b) hF127 rfl; first | (rw [← b0, ← b1, ← e_46_4, ← e_102_4]; exact n130h) | (rw [← b0, ← b1]; exact n130h)
                              exact g_ireturn (gd rfl) rfl (nb01 (in_w 0 1 i127 rfl)) (hP _ _ ⟨s127, hI127, (fr_tr rfl (fr_tr rfl (fr_tr rfl fr_rf hF69) hF107) hF127), n130c, n130e, n130g, n130i, z127, rfl, rfl, in_w 0 1 i127 rfl, n130, n130a⟩)
                          · skip
                            have i118x5 := r_eq1 3 3 c118x5 i118x1 (in_c 3 rfl) rfl
                            refine g_aload_n 9 (gd rfl) rfl rfl ?_
                            refine g_getI 12 (gd rfl) rfl rfl rfl (fun z118x9 e118x9 => ?_)
                            refine g_iload_n 13 (gd rfl) rfl rfl ?_
                            refine g_cmp_ne 16 20 (gd rfl) rfl rfl (fun c118x13 => ?_) (fun c118x13 => ?_)
                            · skip
                              refine g_iconst 0 21 (gd rfl) rfl rfl ?_
                              refine g_ireturn (gd rfl) rfl (nb01 (in_w 0 1 (in_c 0 rfl) rfl)) (hp118 _ _ ?_)
                              show GG _ _ _ _ _ _ _ _ [.int (Int32.ofInt 0)] _ _ _
                              refine g_if_ne 124 131 (gd rfl) rfl rfl (fun c121 => ?_) (fun c121 => ?_)
                              · skip
                                exact zn_ne c121 (in_c 0 rfl) rfl
                              · skip
                                refine g_aload_n 125 (gd rfl) rfl rfl ?_
                                refine g_iconst 2 126 (gd rfl) rfl rfl ?_
                                refine g_iconst 4 127 (gd rfl) rfl rfl ?_
                                refine g_callv (X := _) (As := [.int (Int32.ofInt 2), .int (Int32.ofInt 4)]) (r := []) (b := A 46) (q := 46) 130 (gd rfl) rfl rfl rfl rfl rfl (ww_o rfl) (Nat.le_of_ble_eq_true rfl) (Nat.zero_le _) (Nat.zero_le _) (k_169_46 (by first | exact dq1 hd rfl | exact dq0 hd rfl | exact dq2 hd rfl | exact dq3 hd rfl | omega) hI107 (in_w 2 2 (in_c 2 rfl) rfl) (in_w 3 4 (in_c 4 rfl) rfl)) (fun e u h => h) (fun v u h => ?_)
                                obtain ⟨s127, hI127, hF127, z127, rfl, rfl, i127⟩ := h
                                show GG _ _ _ _ _ _ _ _ [.int z127] _ _ _
                                have n130 : TK s127 := by exact tk_fr hF127 rfl p107a
                                have n130a : (z127).toInt ≠ 0 → PCV s s127 1 := by intro h; unfold In at i127; omega
                                have n130b : (z107a).toInt ≤ (u_46_1).toInt := by have a0 := in_u ((inv_F hI 0 120 rfl e_102_4)); have a1 := in_u i36x13; have a2 := in_u i25x5; have a3 := in_u ((inv_F hI 0 1000 rfl e_46_4)); have a4 := in_u r_46_1; have a5 := in_u ((inv_F hI 0 1000 rfl e_46_2)); have a6 := in_u i52; have a7 := in_u ((in_c 0 rfl)); have a8 := in_u i118x5; have a9 := in_u i107c; have a10 := in_u i107b; have a11 := in_u i107a; have a12 := in_u i106; have a13 := t_add e106 i52 (in_c 1 rfl) rfl; have a14 := in_u ((in_c 1 rfl)); omega
                                have n130c : (s127.2.2.1 46 2).toInt ≤ (s127.2.2.1 46 1).toInt := by have b0 : z107a = s127.2.2.1 46 2 := fr_F (e107) hF127 rfl; have b1 : u_46_1 = s127.2.2.1 46 1 := fr_F (fr_F (fr_F (e_46_1) hF69 rfl) hF107 rfl) hF127 rfl; rw [← b0, ← b1]; exact n130b
                                have n130d : (z107b).toInt ≤ (z107a).toInt := by have a0 := in_u ((inv_F hI 0 120 rfl e_102_4)); have a1 := in_u i36x13; have a2 := in_u i25x5; have a3 := in_u ((inv_F hI 0 1000 rfl e_46_4)); have a4 := in_u r_46_1; have a5 := in_u ((inv_F hI 0 1000 rfl e_46_2)); have a6 := in_u i52; have a7 := in_u ((in_c 0 rfl)); have a8 := in_u i118x5; have a9 := in_u i107c; have a10 := in_u i107b; have a11 := in_u i107a; have a12 := in_u i106; have a13 := t_add e106 i52 (in_c 1 rfl) rfl; have a14 := in_u ((in_c 1 rfl)); omega
                                have n130e : (s127.2.2.1 46 4).toInt ≤ (s127.2.2.1 46 2).toInt := by have b0 : z107b = s127.2.2.1 46 4 := fr_F (e107a) hF127 rfl; have b1 : z107a = s127.2.2.1 46 2 := fr_F (e107) hF127 rfl; rw [← b0, ← b1]; exact n130d
                                have n130f : (z107c).toInt ≤ (z107b).toInt := by have a0 := in_u ((inv_F hI 0 120 rfl e_102_4)); have a1 := in_u i36x13; have a2 := in_u i25x5; have a3 := in_u ((inv_F hI 0 1000 rfl e_46_4)); have a4 := in_u r_46_1; have a5 := in_u ((inv_F hI 0 1000 rfl e_46_2)); have a6 := in_u i52; have a7 := in_u ((in_c 0 rfl)); have a8 := in_u i118x5; have a9 := in_u i107c; have a10 := in_u i107b; have a11 := in_u i107a; have a12 := in_u i106; have a13 := t_add e106 i52 (in_c 1 rfl) rfl; have a14 := in_u ((in_c 1 rfl)); omega
                                have n130g : (s127.2.2.1 102 4).toInt ≤ (s127.2.2.1 46 4).toInt := by have b0 : z107c = s127.2.2.1 102 4 := fr_F (e107b) hF127 rfl; have b1 : z107b = s127.2.2.1 46 4 := fr_F (e107a) hF127 rfl; rw [← b0, ← b1]; exact n130f
                                have n130h : (u_46_4).toInt - (u_102_4).toInt ≤ (z107b).toInt - (z107c).toInt := by have a0 := in_u ((inv_F hI 0 120 rfl e_102_4)); have a1 := in_u i36x13; have a2 := in_u i25x5; have a3 := in_u ((inv_F hI 0 1000 rfl e_46_4)); have a4 := in_u r_46_1; have a5 := in_u ((inv_F hI 0 1000 rfl e_46_2)); have a6 := in_u i52; have a7 := in_u ((in_c 0 rfl)); have a8 := in_u i118x5; have a9 := in_u i107c; have a10 := in_u i107b; have a11 := in_u i107a; have a12 := in_u i106; have a13 := t_add e106 i52 (in_c 1 rfl) rfl; have a14 := in_u ((in_c 1 rfl)); omega
                                have n130i : (s.2.2.1 46 4).toInt - (s.2.2.1 102 4).toInt ≤ (s127.2.2.1 46 4).toInt - (s127.2.2.1 102 4).toInt := by have b0 : z107b = s127.2.2.1 46 4 := fr_F (e107a) hF127 rfl; have b1 : z107c = s127.2.2.1 102 4 := fr_F (e107b) hF127 rfl; first | (rw [← b0, ← b1, ← e_46_4, ← e_102_4]; exact n130h) | (rw [← b0, ← b1]; exact n130h)
                                exact g_ireturn (gd rfl) rfl (nb01 (in_w 0 1 i127 rfl)) (hP _ _ ⟨s127, hI127, (fr_tr rfl (fr_tr rfl (fr_tr rfl fr_rf hF69) hF107) hF127), n130c, n130e, n130g, n130i, z127, rfl, rfl, in_w 0 1 i127 rfl, n130, n130a⟩)
                            · skip
                              have i118x13 := r_eq1 41 41 c118x13 (i_rng z118x9) (in_c 41 rfl) rfl
                              refine g_iconst 1 17 (gd rfl) rfl rfl ?_
                              refine g_goto 21 (gd rfl) rfl ?_
                              refine g_ireturn (gd rfl) rfl (nb01 (in_w 0 1 (in_c 1 rfl) rfl)) (hp118 _ _ ?_)
                              show GG _ _ _ _ _ _ _ _ [.int (Int32.ofInt 1)] _ _ _
                              refine g_if_ne 124 131 (gd rfl) rfl rfl (fun c121 => ?_) (fun c121 => ?_)
                              · skip
                                refine g_aload_n 132 (gd rfl) rfl rfl ?_
                                refine g_bipush 6 134 (gd rfl) rfl rfl ?_
                                refine g_iconst 0 135 (gd rfl) rfl rfl ?_
                                have hk := tka_1 p107a (show z118x1 = s107.2.2.1 46 3 from e118x1) (show z107b = s107.2.2.1 46 4 from e107a) (show z107a = s107.2.2.1 46 2 from e107) (by have a0 := in_u ((inv_F hI 0 120 rfl e_102_4)); have a1 := in_u i36x13; have a2 := in_u i25x5; have a3 := in_u ((inv_F hI 0 1000 rfl e_46_4)); have a4 := in_u r_46_1; have a5 := in_u ((inv_F hI 0 1000 rfl e_46_2)); have a6 := in_u i52; have a7 := in_u ((in_c 0 rfl)); have a8 := in_u i118x13; have a9 := in_u i118x5; have a10 := in_u i107c; have a11 := in_u i107b; have a12 := in_u i107a; have a13 := in_u i106; have a14 := t_add e106 i52 (in_c 1 rfl) rfl; have a15 := in_u ((in_c 1 rfl)); omega)
                                have v135 : u_46_1 = s107.2.2.1 46 1 := fr_F (fr_F (e_46_1) hF69 rfl) hF107 rfl
                                have n135 : (z107a).toInt ≤ (u_46_1).toInt := by have a0 := in_u ((inv_F hI 0 120 rfl e_102_4)); have a1 := in_u i36x13; have a2 := in_u i25x5; have a3 := in_u ((inv_F hI 0 1000 rfl e_46_4)); have a4 := in_u r_46_1; have a5 := in_u ((inv_F hI 0 1000 rfl e_46_2)); have a6 := in_u i52; have a7 := in_u ((in_c 0 rfl)); have a8 := in_u i118x13; have a9 := in_u i118x5; have a10 := in_u i107c; have a11 := in_u i107b; have a12 := in_u i107a; have a13 := in_u i106; have a14 := t_add e106 i52 (in_c 1 rfl) rfl; have a15 := in_u ((in_c 1 rfl)); omega
                                refine g_callv (X := _) (As := [.int (Int32.ofInt 6), .int (Int32.ofInt 0)]) (r := []) (b := A 46) (q := 46) 138 (gd rfl) rfl rfl rfl rfl rfl (ww_o rfl) (Nat.le_of_ble_eq_true rfl) (Nat.zero_le _) (Nat.zero_le _) (k_171_46 (by first | exact dq1 hd rfl | exact dq0 hd rfl | exact dq2 hd rfl | exact dq3 hd rfl | omega) hI107 (in_w 6 7 (in_c 6 rfl) rfl) (in_w 0 1 (in_c 0 rfl) rfl) e107 v135 n135) (fun e u h => h) (fun v u h => ?_)
                                obtain ⟨s135, hI135, hF135, n135a, n135b, n135c, rfl, rfl, p135, p135a⟩ := h
                                obtain ⟨z135a, e135⟩ : ∃ w, w = s135.2.2.1 46 2 := ⟨_, rfl⟩
                                have i135a := inv_F hI135 0 1000 rfl e135
                                obtain ⟨z135b, e135a⟩ : ∃ w, w = s135.2.2.1 46 4 := ⟨_, rfl⟩
                                have i135b := inv_F hI135 0 1000 rfl e135a
                                rw [← (show z135a = s135.2.2.1 46 2 from e135)] at n135a
                                rw [← (show u_46_1 = s135.2.2.1 46 1 from fr_F (fr_F (fr_F (e_46_1) hF69 rfl) hF107 rfl) hF135 rfl)] at n135a
                                rw [← (show z135a = s135.2.2.1 46 2 from e135)] at n135b
                                rw [← (show z135b = s135.2.2.1 46 4 from e135a)] at n135b
                                rw [← (show z107a = s107.2.2.1 46 2 from e107)] at n135c
                                rw [← (show z135b = s135.2.2.1 46 4 from e135a)] at n135c
                                show GG _ _ _ _ _ _ _ _ [] _ _ _
                                refine g_iconst 1 139 (gd rfl) rfl rfl ?_
                                have n139 : TK s135 := by exact p135 (by decide)
                                have n139a : ((Int32.ofInt 1)).toInt ≠ 0 → PCV s s135 1 := by intro _; exact pv_tr (j := 1) (k := 0) (pv_tr (j := 0) (k := 1) (pv_sm (hF69.1 104 rfl) (hF69.2.2.1 102 4 rfl)) (p107b c110)) (pv_sm (hF135.1 104 rfl) (hF135.2.2.1 102 4 rfl))
                                have n139b : (z135a).toInt ≤ (u_46_1).toInt := by have a0 := in_u ((inv_F hI 0 120 rfl e_102_4)); have a1 := in_u i36x13; have a2 := in_u i25x5; have a3 := in_u ((inv_F hI 0 1000 rfl e_46_4)); have a4 := in_u r_46_1; have a5 := in_u ((inv_F hI 0 1000 rfl e_46_2)); have a6 := in_u i52; have a7 := in_u ((in_c 0 rfl)); have a8 := in_u i135b; have a9 := in_u i135a; have a10 := in_u i107c; have a11 := in_u i106; have a12 := t_add e106 i52 (in_c 1 rfl) rfl; have a13 := in_u ((in_c 1 rfl)); omega
                                have n139c : (s135.2.2.1 46 2).toInt ≤ (s135.2.2.1 46 1).toInt := by have b0 : z135a = s135.2.2.1 46 2 := e135; have b1 : u_46_1 = s135.2.2.1 46 1 := fr_F (fr_F (fr_F (e_46_1) hF69 rfl) hF107 rfl) hF135 rfl; rw [← b0, ← b1]; exact n139b
                                have n139d : (z135b).toInt ≤ (z135a).toInt := by have a0 := in_u ((inv_F hI 0 120 rfl e_102_4)); have a1 := in_u i36x13; have a2 := in_u i25x5; have a3 := in_u ((inv_F hI 0 1000 rfl e_46_4)); have a4 := in_u r_46_1; have a5 := in_u ((inv_F hI 0 1000 rfl e_46_2)); have a6 := in_u i52; have a7 := in_u ((in_c 0 rfl)); have a8 := in_u i135b; have a9 := in_u i135a; have a10 := in_u i107c; have a11 := in_u i106; have a12 := t_add e106 i52 (in_c 1 rfl) rfl; have a13 := in_u ((in_c 1 rfl)); omega
                                have n139e : (s135.2.2.1 46 4).toInt ≤ (s135.2.2.1 46 2).toInt := by have b0 : z135b = s135.2.2.1 46 4 := e135a; have b1 : z135a = s135.2.2.1 46 2 := e135; rw [← b0, ← b1]; exact n139d
                                have n139f : (z107c).toInt ≤ (z135b).toInt := by have a0 := in_u ((inv_F hI 0 120 rfl e_102_4)); have a1 := in_u i36x13; have a2 := in_u i25x5; have a3 := in_u ((inv_F hI 0 1000 rfl e_46_4)); have a4 := in_u r_46_1; have a5 := in_u ((inv_F hI 0 1000 rfl e_46_2)); have a6 := in_u i52; have a7 := in_u ((in_c 0 rfl)); have a8 := in_u i135b; have a9 := in_u i135a; have a10 := in_u i107c; have a11 := in_u i106; have a12 := t_add e106 i52 (in_c 1 rfl) rfl; have a13 := in_u ((in_c 1 rfl)); omega
                                have n139g : (s135.2.2.1 102 4).toInt ≤ (s135.2.2.1 46 4).toInt := by have b0 : z107c = s135.2.2.1 102 4 := fr_F (e107b) hF135 rfl; have b1 : z135b = s135.2.2.1 46 4 := e135a; rw [← b0, ← b1]; exact n139f
                                have n139h : (u_46_4).toInt - (u_102_4).toInt ≤ (z135b).toInt - (z107c).toInt := by have a0 := in_u ((inv_F hI 0 120 rfl e_102_4)); have a1 := in_u i36x13; have a2 := in_u i25x5; have a3 := in_u ((inv_F hI 0 1000 rfl e_46_4)); have a4 := in_u r_46_1; have a5 := in_u ((inv_F hI 0 1000 rfl e_46_2)); have a6 := in_u i52; have a7 := in_u ((in_c 0 rfl)); have a8 := in_u i135b; have a9 := in_u i135a; have a10 := in_u i107c; have a11 := in_u i106; have a12 := t_add e106 i52 (in_c 1 rfl) rfl; have a13 := in_u ((in_c 1 rfl)); omega
                                have n139i : (s.2.2.1 46 4).toInt - (s.2.2.1 102 4).toInt ≤ (s135.2.2.1 46 4).toInt - (s135.2.2.1 102 4).toInt := by have b0 : z135b = s135.2.2.1 46 4 := e135a; have b1 : z107c = s135.2.2.1 102 4 := fr_F (e107b) hF135 rfl; first | (rw [← b0, ← b1, ← e_46_4, ← e_102_4]; exact n139h) | (rw [← b0, ← b1]; exact n139h)
                                exact g_ireturn (gd rfl) rfl (nb01 (in_w 0 1 (in_c 1 rfl) rfl)) (hP _ _ ⟨s135, hI135, (fr_tr rfl (fr_tr rfl (fr_tr rfl fr_rf hF69) hF107) hF135), n139c, n139e, n139g, n139i, (Int32.ofInt 1), rfl, rfl, in_w 0 1 (in_c 1 rfl) rfl, n139, n139a⟩)
                              · skip
                                exact zn_eq c121 (in_c 1 rfl) rfl
                        · skip
                          have i110 := z_eq 0 0 c110 i107 rfl
                          refine g_iconst 0 114 (gd rfl) rfl rfl ?_
                          have n114 : TK s107 := by exact p107a
                          have n114a : ((Int32.ofInt 0)).toInt ≠ 0 → PCV s s107 1 := by intro h; exact absurd rfl h
                          have n114b : (z107a).toInt ≤ (u_46_1).toInt := by have a0 := in_u ((inv_F hI 0 120 rfl e_102_4)); have a1 := in_u i36x13; have a2 := in_u i25x5; have a3 := in_u ((inv_F hI 0 1000 rfl e_46_4)); have a4 := in_u r_46_1; have a5 := in_u ((inv_F hI 0 1000 rfl e_46_2)); have a6 := in_u i52; have a7 := in_u ((in_c 0 rfl)); have a8 := in_u i107c; have a9 := in_u i107b; have a10 := in_u i107a; have a11 := in_u i106; have a12 := t_add e106 i52 (in_c 1 rfl) rfl; have a13 := in_u ((in_c 1 rfl)); omega
                          have n114c : (s107.2.2.1 46 2).toInt ≤ (s107.2.2.1 46 1).toInt := by have b0 : z107a = s107.2.2.1 46 2 := e107; have b1 : u_46_1 = s107.2.2.1 46 1 := fr_F (fr_F (e_46_1) hF69 rfl) hF107 rfl; rw [← b0, ← b1]; exact n114b
                          have n114d : (z107b).toInt ≤ (z107a).toInt := by have a0 := in_u ((inv_F hI 0 120 rfl e_102_4)); have a1 := in_u i36x13; have a2 := in_u i25x5; have a3 := in_u ((inv_F hI 0 1000 rfl e_46_4)); have a4 := in_u r_46_1; have a5 := in_u ((inv_F hI 0 1000 rfl e_46_2)); have a6 := in_u i52; have a7 := in_u ((in_c 0 rfl)); have a8 := in_u i107c; have a9 := in_u i107b; have a10 := in_u i107a; have a11 := in_u i106; have a12 := t_add e106 i52 (in_c 1 rfl) rfl; have a13 := in_u ((in_c 1 rfl)); omega
                          have n114e : (s107.2.2.1 46 4).toInt ≤ (s107.2.2.1 46 2).toInt := by have b0 : z107b = s107.2.2.1 46 4 := e107a; have b1 : z107a = s107.2.2.1 46 2 := e107; rw [← b0, ← b1]; exact n114d
                          have n114f : (z107c).toInt ≤ (z107b).toInt := by have a0 := in_u ((inv_F hI 0 120 rfl e_102_4)); have a1 := in_u i36x13; have a2 := in_u i25x5; have a3 := in_u ((inv_F hI 0 1000 rfl e_46_4)); have a4 := in_u r_46_1; have a5 := in_u ((inv_F hI 0 1000 rfl e_46_2)); have a6 := in_u i52; have a7 := in_u ((in_c 0 rfl)); have a8 := in_u i107c; have a9 := in_u i107b; have a10 := in_u i107a; have a11 := in_u i106; have a12 := t_add e106 i52 (in_c 1 rfl) rfl; have a13 := in_u ((in_c 1 rfl)); omega
                          have n114g : (s107.2.2.1 102 4).toInt ≤ (s107.2.2.1 46 4).toInt := by have b0 : z107c = s107.2.2.1 102 4 := e107b; have b1 : z107b = s107.2.2.1 46 4 := e107a; rw [← b0, ← b1]; exact n114f
                          have n114h : (u_46_4).toInt - (u_102_4).toInt ≤ (z107b).toInt - (z107c).toInt := by have a0 := in_u ((inv_F hI 0 120 rfl e_102_4)); have a1 := in_u i36x13; have a2 := in_u i25x5; have a3 := in_u ((inv_F hI 0 1000 rfl e_46_4)); have a4 := in_u r_46_1; have a5 := in_u ((inv_F hI 0 1000 rfl e_46_2)); have a6 := in_u i52; have a7 := in_u ((in_c 0 rfl)); have a8 := in_u i107c; have a9 := in_u i107b; have a10 := in_u i107a; have a11 := in_u i106; have a12 := t_add e106 i52 (in_c 1 rfl) rfl; have a13 := in_u ((in_c 1 rfl)); omega
                          have n114i : (s.2.2.1 46 4).toInt - (s.2.2.1 102 4).toInt ≤ (s107.2.2.1 46 4).toInt - (s107.2.2.1 102 4).toInt := by have b0 : z107b = s107.2.2.1 46 4 := e107a; have b1 : z107c = s107.2.2.1 102 4 := e107b; first | (rw [← b0, ← b1, ← e_46_4, ← e_102_4]; exact n114h) | (rw [← b0, ← b1]; exact n114h)
                          exact g_ireturn (gd rfl) rfl (nb01 (in_w 0 1 (in_c 0 rfl) rfl)) (hP _ _ ⟨s107, hI107, (fr_tr rfl (fr_tr rfl fr_rf hF69) hF107), n114c, n114e, n114g, n114i, (Int32.ofInt 0), rfl, rfl, in_w 0 1 (in_c 0 rfl) rfl, n114, n114a⟩)
                      · skip
                        exact zn_ne c73 (in_c 0 rfl) rfl
                    · skip
                      have i52 := r_le2 10 10 c52 (in_c 10 rfl) h2 rfl
                      refine g_aload_n 56 (gd rfl) rfl rfl ?_
                      refine g_iconst 3 57 (gd rfl) rfl rfl ?_
                      refine g_aload_n 58 (gd rfl) rfl rfl ?_
                      refine g_getI 61 (gd rfl) rfl rfl rfl (fun z58 e58 => ?_)
                      have q58 : u_46_4 = z58 := (e_46_4).trans e58.symm
                      subst q58
                      refine g_callv (X := _) (As := [.int (Int32.ofInt 3), .int u_46_4]) (r := []) (b := A 46) (q := 46) 64 (gd rfl) rfl rfl rfl rfl rfl (ww_o rfl) (Nat.le_of_ble_eq_true rfl) (Nat.zero_le _) (Nat.zero_le _) (k_168_46 (by first | exact dq1 hd rfl | exact dq0 hd rfl | exact dq2 hd rfl | exact dq3 hd rfl | omega) hI (in_w 1 5 (in_c 3 rfl) rfl) (in_w 0 1000 (inv_F hI 0 1000 rfl e_46_4) rfl)) (fun e u h => h) (fun v u h => ?_)
                      obtain ⟨s61, hI61, hF61, z61, rfl, rfl, i61⟩ := h
                      show GG _ _ _ _ _ _ _ _ [.int z61] _ _ _
                      have n64 : TK s61 := by exact tk_fr hF61 rfl q_0
                      have n64a : (z61).toInt ≠ 0 → PCV s s61 1 := by intro h; unfold In at i61; omega
                      have n64b : (u_46_2).toInt ≤ (u_46_1).toInt := by have a0 := in_u ((inv_F hI 0 120 rfl e_102_4)); have a1 := in_u i36x13; have a2 := in_u i25x5; have a3 := in_u ((inv_F hI 0 1000 rfl e_46_4)); have a4 := in_u r_46_1; have a5 := in_u ((inv_F hI 0 1000 rfl e_46_2)); have a6 := in_u i52; have a7 := in_u ((in_c 0 rfl)); omega
                      have n64c : (s61.2.2.1 46 2).toInt ≤ (s61.2.2.1 46 1).toInt := by have b0 : u_46_2 = s61.2.2.1 46 2 := fr_F (e_46_2) hF61 rfl; have b1 : u_46_1 = s61.2.2.1 46 1 := fr_F (e_46_1) hF61 rfl; rw [← b0, ← b1]; exact n64b
                      have n64d : (u_46_4).toInt ≤ (u_46_2).toInt := by have a0 := in_u ((inv_F hI 0 120 rfl e_102_4)); have a1 := in_u i36x13; have a2 := in_u i25x5; have a3 := in_u ((inv_F hI 0 1000 rfl e_46_4)); have a4 := in_u r_46_1; have a5 := in_u ((inv_F hI 0 1000 rfl e_46_2)); have a6 := in_u i52; have a7 := in_u ((in_c 0 rfl)); omega
                      have n64e : (s61.2.2.1 46 4).toInt ≤ (s61.2.2.1 46 2).toInt := by have b0 : u_46_4 = s61.2.2.1 46 4 := fr_F (e_46_4) hF61 rfl; have b1 : u_46_2 = s61.2.2.1 46 2 := fr_F (e_46_2) hF61 rfl; rw [← b0, ← b1]; exact n64d
                      have n64f : (u_102_4).toInt ≤ (u_46_4).toInt := by have a0 := in_u ((inv_F hI 0 120 rfl e_102_4)); have a1 := in_u i36x13; have a2 := in_u i25x5; have a3 := in_u ((inv_F hI 0 1000 rfl e_46_4)); have a4 := in_u r_46_1; have a5 := in_u ((inv_F hI 0 1000 rfl e_46_2)); have a6 := in_u i52; have a7 := in_u ((in_c 0 rfl)); omega
                      have n64g : (s61.2.2.1 102 4).toInt ≤ (s61.2.2.1 46 4).toInt := by have b0 : u_102_4 = s61.2.2.1 102 4 := fr_F (e_102_4) hF61 rfl; have b1 : u_46_4 = s61.2.2.1 46 4 := fr_F (e_46_4) hF61 rfl; rw [← b0, ← b1]; exact n64f
                      have n64h : (u_46_4).toInt - (u_102_4).toInt ≤ (u_46_4).toInt - (u_102_4).toInt := by have a0 := in_u ((inv_F hI 0 120 rfl e_102_4)); have a1 := in_u i36x13; have a2 := in_u i25x5; have a3 := in_u ((inv_F hI 0 1000 rfl e_46_4)); have a4 := in_u r_46_1; have a5 := in_u ((inv_F hI 0 1000 rfl e_46_2)); have a6 := in_u i52; have a7 := in_u ((in_c 0 rfl)); omega
                      have n64i : (s.2.2.1 46 4).toInt - (s.2.2.1 102 4).toInt ≤ (s61.2.2.1 46 4).toInt - (s61.2.2.1 102 4).toInt := by have b0 : u_46_4 = s61.2.2.1 46 4 := fr_F (e_46_4) hF61 rfl; have b1 : u_102_4 = s61.2.2.1 102 4 := fr_F (e_102_4) hF61 rfl; first | (rw [← b0, ← b1, ← e_46_4, ← e_102_4]; exact n64h) | (rw [← b0, ← b1]; exact n64h)
                      exact g_ireturn (gd rfl) rfl (nb01 (in_w 0 1 i61 rfl)) (hP _ _ ⟨s61, hI61, (fr_tr rfl fr_rf hF61), n64c, n64e, n64g, n64i, z61, rfl, rfl, in_w 0 1 i61 rfl, n64, n64a⟩)
                  · skip
                    exact zn_eq c39 (in_c 1 rfl) rfl
          · skip
            have i25x13 := r_eq1 45 45 c25x13 (inv_F hI (-2147483648) 2147483647 rfl e_46_5) (in_c 45 rfl) rfl
            refine g_iconst 1 17 (gd rfl) rfl rfl ?_
            refine g_goto 21 (gd rfl) rfl ?_
            refine g_ireturn (gd rfl) rfl (nb01 (in_w 0 1 (in_c 1 rfl) rfl)) (hp25 _ _ ?_)
            show GG _ _ _ _ _ _ _ _ [.int (Int32.ofInt 1)] _ _ _
            refine g_istore_n 29 (gd rfl) rfl (Nat.le_of_ble_eq_true rfl) ?_
            refine g_iload_n 30 (gd rfl) rfl rfl ?_
            refine g_if_ne 33 49 (gd rfl) rfl rfl (fun c30 => ?_) (fun c30 => ?_)
            · skip
              refine g_iload_n 50 (gd rfl) rfl rfl ?_
              refine g_bipush 10 52 (gd rfl) rfl rfl ?_
              refine g_cmp_lt 55 65 (gd rfl) rfl rfl (fun c52 => ?_) (fun c52 => ?_)
              · skip
                have i52 := r_lt1 0 9 c52 h2 (in_c 10 rfl) rfl
                refine g_aload_n 66 (gd rfl) rfl rfl ?_
                refine g_bipush 6 68 (gd rfl) rfl rfl ?_
                refine g_iconst 0 69 (gd rfl) rfl rfl ?_
                have hk := tka_1 q_0 (show u_46_3 = s.2.2.1 46 3 from e_46_3) (show u_46_4 = s.2.2.1 46 4 from e_46_4) (show u_46_2 = s.2.2.1 46 2 from e_46_2) (by have a0 := in_u ((inv_F hI 0 120 rfl e_102_4)); have a1 := in_u i25x13; have a2 := in_u i25x5; have a3 := in_u ((inv_F hI 0 1000 rfl e_46_4)); have a4 := in_u r_46_1; have a5 := in_u ((inv_F hI 0 1000 rfl e_46_2)); have a6 := in_u i52; have a7 := in_u ((in_c 1 rfl)); omega)
                have n69 : (u_46_2).toInt ≤ (u_46_1).toInt := by have a0 := in_u ((inv_F hI 0 120 rfl e_102_4)); have a1 := in_u i25x13; have a2 := in_u i25x5; have a3 := in_u ((inv_F hI 0 1000 rfl e_46_4)); have a4 := in_u r_46_1; have a5 := in_u ((inv_F hI 0 1000 rfl e_46_2)); have a6 := in_u i52; have a7 := in_u ((in_c 1 rfl)); omega
                refine g_callv (X := _) (As := [.int (Int32.ofInt 6), .int (Int32.ofInt 0)]) (r := []) (b := A 46) (q := 46) 72 (gd rfl) rfl rfl rfl rfl rfl (ww_o rfl) (Nat.le_of_ble_eq_true rfl) (Nat.zero_le _) (Nat.zero_le _) (k_171_46 (by first | exact dq1 hd rfl | exact dq0 hd rfl | exact dq2 hd rfl | exact dq3 hd rfl | omega) hI (in_w 6 7 (in_c 6 rfl) rfl) (in_w 0 1 (in_c 0 rfl) rfl) e_46_2 e_46_1 n69) (fun e u h => h) (fun v u h => ?_)
                obtain ⟨s69, hI69, hF69, n69a, n69b, n69c, rfl, rfl, p69, p69a⟩ := h
                obtain ⟨z69a, e69⟩ : ∃ w, w = s69.2.2.1 46 2 := ⟨_, rfl⟩
                have i69a := inv_F hI69 0 1000 rfl e69
                obtain ⟨z69b, e69a⟩ : ∃ w, w = s69.2.2.1 46 4 := ⟨_, rfl⟩
                have i69b := inv_F hI69 0 1000 rfl e69a
                rw [← (show z69a = s69.2.2.1 46 2 from e69)] at n69a
                rw [← (show u_46_1 = s69.2.2.1 46 1 from fr_F (e_46_1) hF69 rfl)] at n69a
                rw [← (show z69a = s69.2.2.1 46 2 from e69)] at n69b
                rw [← (show z69b = s69.2.2.1 46 4 from e69a)] at n69b
                rw [← (show u_46_2 = s.2.2.1 46 2 from e_46_2)] at n69c
                rw [← (show z69b = s69.2.2.1 46 4 from e69a)] at n69c
                show GG _ _ _ _ _ _ _ _ [] _ _ _
                refine g_iload_n 73 (gd rfl) rfl rfl ?_
                refine g_if_eq 76 102 (gd rfl) rfl rfl (fun c73 => ?_) (fun c73 => ?_)
                · skip
                  exact zn_eq c73 (in_c 1 rfl) rfl
                · skip
                  refine g_aload_n 77 (gd rfl) rfl rfl ?_
                  refine g_aload_n 78 (gd rfl) rfl rfl ?_
                  refine g_iload_n 79 (gd rfl) rfl rfl ?_
                  refine g_iconst 1 80 (gd rfl) rfl rfl ?_
                  refine g_iadd 81 (gd rfl) rfl (fun z80 e80 => ?_)
                  have i80 := in_add 1 10 e80 i52 (in_c 1 rfl) rfl rfl
                  have v81 : u_46_1 = s69.2.2.1 46 1 := fr_F (e_46_1) hF69 rfl
                  have v81a : u_102_4 = s69.2.2.1 102 4 := fr_F (e_102_4) hF69 rfl
                  have n81 : (z69a).toInt ≤ (u_46_1).toInt := by have a0 := in_u ((inv_F hI 0 120 rfl e_102_4)); have a1 := in_u i25x13; have a2 := in_u i25x5; have a3 := in_u ((inv_F hI 0 1000 rfl e_46_4)); have a4 := in_u r_46_1; have a5 := in_u ((inv_F hI 0 1000 rfl e_46_2)); have a6 := in_u i52; have a7 := in_u ((in_c 1 rfl)); have a8 := in_u i69b; have a9 := in_u i69a; have a10 := in_u i80; have a11 := t_add e80 i52 (in_c 1 rfl) rfl; omega
                  have n81a : (z69b).toInt ≤ (z69a).toInt := by have a0 := in_u ((inv_F hI 0 120 rfl e_102_4)); have a1 := in_u i25x13; have a2 := in_u i25x5; have a3 := in_u ((inv_F hI 0 1000 rfl e_46_4)); have a4 := in_u r_46_1; have a5 := in_u ((inv_F hI 0 1000 rfl e_46_2)); have a6 := in_u i52; have a7 := in_u ((in_c 1 rfl)); have a8 := in_u i69b; have a9 := in_u i69a; have a10 := in_u i80; have a11 := t_add e80 i52 (in_c 1 rfl) rfl; omega
                  have n81b : (u_102_4).toInt ≤ (z69b).toInt := by have a0 := in_u ((inv_F hI 0 120 rfl e_102_4)); have a1 := in_u i25x13; have a2 := in_u i25x5; have a3 := in_u ((inv_F hI 0 1000 rfl e_46_4)); have a4 := in_u r_46_1; have a5 := in_u ((inv_F hI 0 1000 rfl e_46_2)); have a6 := in_u i52; have a7 := in_u ((in_c 1 rfl)); have a8 := in_u i69b; have a9 := in_u i69a; have a10 := in_u i80; have a11 := t_add e80 i52 (in_c 1 rfl) rfl; omega
                  have p81 : TK s69 := by exact p69 (by decide)
                  have n81c : 10 - (z80).toInt < ((kk : Nat) : Int) := by have a0 := in_u ((inv_F hI 0 120 rfl e_102_4)); have a1 := in_u i25x13; have a2 := in_u i25x5; have a3 := in_u ((inv_F hI 0 1000 rfl e_46_4)); have a4 := in_u r_46_1; have a5 := in_u ((inv_F hI 0 1000 rfl e_46_2)); have a6 := in_u i52; have a7 := in_u ((in_c 1 rfl)); have a8 := in_u i69b; have a9 := in_u i69a; have a10 := in_u i80; have a11 := t_add e80 i52 (in_c 1 rfl) rfl; omega
                  refine g_callv (X := _) (As := [.ref (A 46), .int z80]) (r := []) (b := A 102) (q := 102) 84 (gd rfl) rfl rfl rfl rfl rfl (ww_o rfl) (Nat.le_of_ble_eq_true rfl) (Nat.zero_le _) (Nat.zero_le _) (ih (by omega) hI69 (in_w 0 10 i80 rfl) e69 v81 e69a rfl rfl v81a (in_w 0 120 r_46_1 rfl) n81 n81a n81b p81 n81c) (fun e u h => h) (fun v u h => ?_)
                  obtain ⟨s81, hI81, hF81, n81d, n81e, n81f, n81g, z81, rfl, rfl, i81, p81a, p81b⟩ := h
                  obtain ⟨z81a, e81⟩ : ∃ w, w = s81.2.2.1 46 2 := ⟨_, rfl⟩
                  have i81a := inv_F hI81 0 1000 rfl e81
                  obtain ⟨z81b, e81a⟩ : ∃ w, w = s81.2.2.1 46 4 := ⟨_, rfl⟩
                  have i81b := inv_F hI81 0 1000 rfl e81a
                  obtain ⟨z81c, e81b⟩ : ∃ w, w = s81.2.2.1 102 4 := ⟨_, rfl⟩
                  have i81c := inv_F hI81 0 120 rfl e81b
                  rw [← (show z81a = s81.2.2.1 46 2 from e81)] at n81d
                  rw [← (show u_46_1 = s81.2.2.1 46 1 from fr_F (fr_F (e_46_1) hF69 rfl) hF81 rfl)] at n81d
                  rw [← (show z81a = s81.2.2.1 46 2 from e81)] at n81e
                  rw [← (show z81b = s81.2.2.1 46 4 from e81a)] at n81e
                  rw [← (show z81b = s81.2.2.1 46 4 from e81a)] at n81f
                  rw [← (show z81c = s81.2.2.1 102 4 from e81b)] at n81f
                  rw [← (show z69b = s69.2.2.1 46 4 from e69a)] at n81g
                  rw [← (show u_102_4 = s69.2.2.1 102 4 from fr_F (e_102_4) hF69 rfl)] at n81g
                  rw [← (show z81b = s81.2.2.1 46 4 from e81a)] at n81g
                  rw [← (show z81c = s81.2.2.1 102 4 from e81b)] at n81g
                  show GG _ _ _ _ _ _ _ _ [.int z81] _ _ _
                  refine g_if_eq 87 100 (gd rfl) rfl rfl (fun c84 => ?_) (fun c84 => ?_)
                  · skip
                    have i84 := z_eq 0 0 c84 i81 rfl
                    refine g_iconst 0 101 (gd rfl) rfl rfl ?_
                    have n101 : TK s81 := by exact p81a
                    have n101a : ((Int32.ofInt 0)).toInt ≠ 0 → PCV s s81 1 := by intro h; exact absurd rfl h
                    have n101b : (z81a).toInt ≤ (u_46_1).toInt := by have a0 := in_u ((inv_F hI 0 120 rfl e_102_4)); have a1 := in_u i25x13; have a2 := in_u i25x5; have a3 := in_u ((inv_F hI 0 1000 rfl e_46_4)); have a4 := in_u r_46_1; have a5 := in_u ((inv_F hI 0 1000 rfl e_46_2)); have a6 := in_u i52; have a7 := in_u ((in_c 1 rfl)); have a8 := in_u i81c; have a9 := in_u i81b; have a10 := in_u i81a; have a11 := in_u i80; have a12 := t_add e80 i52 (in_c 1 rfl) rfl; omega
                    have n101c : (s81.2.2.1 46 2).toInt ≤ (s81.2.2.1 46 1).toInt := by have b0 : z81a = s81.2.2.1 46 2 := e81; have b1 : u_46_1 = s81.2.2.1 46 1 := fr_F (fr_F (e_46_1) hF69 rfl) hF81 rfl; rw [← b0, ← b1]; exact n101b
                    have n101d : (z81b).toInt ≤ (z81a).toInt := by have a0 := in_u ((inv_F hI 0 120 rfl e_102_4)); have a1 := in_u i25x13; have a2 := in_u i25x5; have a3 := in_u ((inv_F hI 0 1000 rfl e_46_4)); have a4 := in_u r_46_1; have a5 := in_u ((inv_F hI 0 1000 rfl e_46_2)); have a6 := in_u i52; have a7 := in_u ((in_c 1 rfl)); have a8 := in_u i81c; have a9 := in_u i81b; have a10 := in_u i81a; have a11 := in_u i80; have a12 := t_add e80 i52 (in_c 1 rfl) rfl; omega
                    have n101e : (s81.2.2.1 46 4).toInt ≤ (s81.2.2.1 46 2).toInt := by have b0 : z81b = s81.2.2.1 46 4 := e81a; have b1 : z81a = s81.2.2.1 46 2 := e81; rw [← b0, ← b1]; exact n101d
                    have n101f : (z81c).toInt ≤ (z81b).toInt := by have a0 := in_u ((inv_F hI 0 120 rfl e_102_4)); have a1 := in_u i25x13; have a2 := in_u i25x5; have a3 := in_u ((inv_F hI 0 1000 rfl e_46_4)); have a4 := in_u r_46_1; have a5 := in_u ((inv_F hI 0 1000 rfl e_46_2)); have a6 := in_u i52; have a7 := in_u ((in_c 1 rfl)); have a8 := in_u i81c; have a9 := in_u i81b; have a10 := in_u i81a; have a11 := in_u i80; have a12 := t_add e80 i52 (in_c 1 rfl) rfl; omega
                    have n101g : (s81.2.2.1 102 4).toInt ≤ (s81.2.2.1 46 4).toInt := by have b0 : z81c = s81.2.2.1 102 4 := e81b; have b1 : z81b = s81.2.2.1 46 4 := e81a; rw [← b0, ← b1]; exact n101f
                    have n101h : (u_46_4).toInt - (u_102_4).toInt ≤ (z81b).toInt - (z81c).toInt := by have a0 := in_u ((inv_F hI 0 120 rfl e_102_4)); have a1 := in_u i25x13; have a2 := in_u i25x5; have a3 := in_u ((inv_F hI 0 1000 rfl e_46_4)); have a4 := in_u r_46_1; have a5 := in_u ((inv_F hI 0 1000 rfl e_46_2)); have a6 := in_u i52; have a7 := in_u ((in_c 1 rfl)); have a8 := in_u i81c; have a9 := in_u i81b; have a10 := in_u i81a; have a11 := in_u i80; have a12 := t_add e80 i52 (in_c 1 rfl) rfl; omega
                    have n101i : (s.2.2.1 46 4).toInt - (s.2.2.1 102 4).toInt ≤ (s81.2.2.1 46 4).toInt - (s81.2.2.1 102 4).toInt := by have b0 : z81b = s81.2.2.1 46 4 := e81a; have b1 : z81c = s81.2.2.1 102 4 := e81b; first | (rw [← b0, ← b1, ← e_46_4, ← e_102_4]; exact n101h) | (rw [← b0, ← b1]; exact n101h)
                    exact g_ireturn (gd rfl) rfl (nb01 (in_w 0 1 (in_c 0 rfl) rfl)) (hP _ _ ⟨s81, hI81, (fr_tr rfl (fr_tr rfl fr_rf hF69) hF81), n101c, n101e, n101g, n101i, (Int32.ofInt 0), rfl, rfl, in_w 0 1 (in_c 0 rfl) rfl, n101, n101a⟩)
                  · skip
                    have i84 := z_ne 1 1 c84 i81 rfl
                    refine g_aload_n 88 (gd rfl) rfl rfl ?_
                    refine g_ldc 1000226 90 (gd rfl) rfl rfl ?_
                    have hDe : _ = s81.2.2.1 102 4 := (show z81c = s81.2.2.1 102 4 from e81b)
                    have n90 : (z81c).toInt ≤ 119 := by have a0 := in_u ((inv_F hI 0 120 rfl e_102_4)); have a1 := in_u i25x13; have a2 := in_u i25x5; have a3 := in_u ((inv_F hI 0 1000 rfl e_46_4)); have a4 := in_u r_46_1; have a5 := in_u ((inv_F hI 0 1000 rfl e_46_2)); have a6 := in_u i52; have a7 := in_u ((in_c 1 rfl)); have a8 := in_u i81c; have a9 := in_u i81b; have a10 := in_u i81a; have a11 := in_u i80; have a12 := t_add e80 i52 (in_c 1 rfl) rfl; omega
                    refine g_callv (X := _) (As := [.int (Int32.ofInt 1000226)]) (r := []) (b := A 102) (q := 102) 93 (gd rfl) rfl rfl rfl rfl rfl (ww_o rfl) (Nat.le_of_ble_eq_true rfl) (Nat.zero_le _) (Nat.zero_le _) (k_57_102 (by first | exact dq1 hd rfl | exact dq0 hd rfl | exact dq2 hd rfl | exact dq3 hd rfl | omega) hI81 e81b n90) (fun e u h => h) (fun v u h => ?_)
                    obtain ⟨s90, hI90, hF90, n90a, z90, rfl, rfl, i90, p90⟩ := h
                    obtain ⟨z90a, e90⟩ : ∃ w, w = s90.2.2.1 102 4 := ⟨_, rfl⟩
                    have i90a := inv_F hI90 0 120 rfl e90
                    rw [← (show z81c = s81.2.2.1 102 4 from e81b)] at n90a
                    rw [← (show z90a = s90.2.2.1 102 4 from e90)] at n90a
                    show GG _ _ _ _ _ _ _ _ [.int z90] _ _ _
                    refine g_if_eq 96 100 (gd rfl) rfl rfl (fun c93 => ?_) (fun c93 => ?_)
                    · skip
                      exact zn_eq c93 i90 rfl
                    · skip
                      refine g_iconst 1 97 (gd rfl) rfl rfl ?_
                      refine g_goto 101 (gd rfl) rfl ?_
                      have n101 : TK s90 := by exact tk_fr hF90 rfl p81a
                      have n101a : ((Int32.ofInt 1)).toInt ≠ 0 → PCV s s90 1 := by intro _; exact pv_st (j := 1) (k := 1) (pv_tr (j := 0) (k := 1) (pv_sm (hF69.1 104 rfl) (hF69.2.2.1 102 4 rfl)) (p81b c84)) (inv_F hI81 0 120 rfl rfl).1 p90 (by rw [← (show z90a = s90.2.2.1 102 4 from e90), ← hDe]; have a0 := in_u ((inv_F hI 0 120 rfl e_102_4)); have a1 := in_u i25x13; have a2 := in_u i25x5; have a3 := in_u ((inv_F hI 0 1000 rfl e_46_4)); have a4 := in_u r_46_1; have a5 := in_u ((inv_F hI 0 1000 rfl e_46_2)); have a6 := in_u i52; have a7 := in_u ((in_c 1 rfl)); have a8 := in_u i90a; have a9 := in_u i81b; have a10 := in_u i81a; have a11 := in_u i80; have a12 := t_add e80 i52 (in_c 1 rfl) rfl; omega) (fun e => hc_n (by decide) e)
                      have n101b : (z81a).toInt ≤ (u_46_1).toInt := by have a0 := in_u ((inv_F hI 0 120 rfl e_102_4)); have a1 := in_u i25x13; have a2 := in_u i25x5; have a3 := in_u ((inv_F hI 0 1000 rfl e_46_4)); have a4 := in_u r_46_1; have a5 := in_u ((inv_F hI 0 1000 rfl e_46_2)); have a6 := in_u i52; have a7 := in_u ((in_c 1 rfl)); have a8 := in_u i90a; have a9 := in_u i81b; have a10 := in_u i81a; have a11 := in_u i80; have a12 := t_add e80 i52 (in_c 1 rfl) rfl; omega
                      have n101c : (s90.2.2.1 46 2).toInt ≤ (s90.2.2.1 46 1).toInt := by have b0 : z81a = s90.2.2.1 46 2 := fr_F (e81) hF90 rfl; have b1 : u_46_1 = s90.2.2.1 46 1 := fr_F (fr_F (fr_F (e_46_1) hF69 rfl) hF81 rfl) hF90 rfl; rw [← b0, ← b1]; exact n101b
                      have n101d : (z81b).toInt ≤ (z81a).toInt := by have a0 := in_u ((inv_F hI 0 120 rfl e_102_4)); have a1 := in_u i25x13; have a2 := in_u i25x5; have a3 := in_u ((inv_F hI 0 1000 rfl e_46_4)); have a4 := in_u r_46_1; have a5 := in_u ((inv_F hI 0 1000 rfl e_46_2)); have a6 := in_u i52; have a7 := in_u ((in_c 1 rfl)); have a8 := in_u i90a; have a9 := in_u i81b; have a10 := in_u i81a; have a11 := in_u i80; have a12 := t_add e80 i52 (in_c 1 rfl) rfl; omega
                      have n101e : (s90.2.2.1 46 4).toInt ≤ (s90.2.2.1 46 2).toInt := by have b0 : z81b = s90.2.2.1 46 4 := fr_F (e81a) hF90 rfl; have b1 : z81a = s90.2.2.1 46 2 := fr_F (e81) hF90 rfl; rw [← b0, ← b1]; exact n101d
                      have n101f : (z90a).toInt ≤ (z81b).toInt := by have a0 := in_u ((inv_F hI 0 120 rfl e_102_4)); have a1 := in_u i25x13; have a2 := in_u i25x5; have a3 := in_u ((inv_F hI 0 1000 rfl e_46_4)); have a4 := in_u r_46_1; have a5 := in_u ((inv_F hI 0 1000 rfl e_46_2)); have a6 := in_u i52; have a7 := in_u ((in_c 1 rfl)); have a8 := in_u i90a; have a9 := in_u i81b; have a10 := in_u i81a; have a11 := in_u i80; have a12 := t_add e80 i52 (in_c 1 rfl) rfl; omega
                      have n101g : (s90.2.2.1 102 4).toInt ≤ (s90.2.2.1 46 4).toInt := by have b0 : z90a = s90.2.2.1 102 4 := e90; have b1 : z81b = s90.2.2.1 46 4 := fr_F (e81a) hF90 rfl; rw [← b0, ← b1]; exact n101f
                      have n101h : (u_46_4).toInt - (u_102_4).toInt ≤ (z81b).toInt - (z90a).toInt := by have a0 := in_u ((inv_F hI 0 120 rfl e_102_4)); have a1 := in_u i25x13; have a2 := in_u i25x5; have a3 := in_u ((inv_F hI 0 1000 rfl e_46_4)); have a4 := in_u r_46_1; have a5 := in_u ((inv_F hI 0 1000 rfl e_46_2)); have a6 := in_u i52; have a7 := in_u ((in_c 1 rfl)); have a8 := in_u i90a; have a9 := in_u i81b; have a10 := in_u i81a; have a11 := in_u i80; have a12 := t_add e80 i52 (in_c 1 rfl) rfl; omega
                      have n101i : (s.2.2.1 46 4).toInt - (s.2.2.1 102 4).toInt ≤ (s90.2.2.1 46 4).toInt - (s90.2.2.1 102 4).toInt := by have b0 : z81b = s90.2.2.1 46 4 := fr_F (e81a) hF90 rfl; have b1 : z90a = s90.2.2.1 102 4 := e90; first | (rw [← b0, ← b1, ← e_46_4, ← e_102_4]; exact n101h) | (rw [← b0, ← b1]; exact n101h)
                      exact g_ireturn (gd rfl) rfl (nb01 (in_w 0 1 (in_c 1 rfl) rfl)) (hP _ _ ⟨s90, hI90, (fr_tr rfl (fr_tr rfl (fr_tr rfl fr_rf hF69) hF81) hF90), n101c, n101e, n101g, n101i, (Int32.ofInt 1), rfl, rfl, in_w 0 1 (in_c 1 rfl) rfl, n101, n101a⟩)
              · skip
                have i52 := r_le2 10 10 c52 (in_c 10 rfl) h2 rfl
                refine g_aload_n 56 (gd rfl) rfl rfl ?_
                refine g_iconst 3 57 (gd rfl) rfl rfl ?_
                refine g_aload_n 58 (gd rfl) rfl rfl ?_
                refine g_getI 61 (gd rfl) rfl rfl rfl (fun z58 e58 => ?_)
                have q58 : u_46_4 = z58 := (e_46_4).trans e58.symm
                subst q58
                refine g_callv (X := _) (As := [.int (Int32.ofInt 3), .int u_46_4]) (r := []) (b := A 46) (q := 46) 64 (gd rfl) rfl rfl rfl rfl rfl (ww_o rfl) (Nat.le_of_ble_eq_true rfl) (Nat.zero_le _) (Nat.zero_le _) (k_168_46 (by first | exact dq1 hd rfl | exact dq0 hd rfl | exact dq2 hd rfl | exact dq3 hd rfl | omega) hI (in_w 1 5 (in_c 3 rfl) rfl) (in_w 0 1000 (inv_F hI 0 1000 rfl e_46_4) rfl)) (fun e u h => h) (fun v u h => ?_)
                obtain ⟨s61, hI61, hF61, z61, rfl, rfl, i61⟩ := h
                show GG _ _ _ _ _ _ _ _ [.int z61] _ _ _
                have n64 : TK s61 := by exact tk_fr hF61 rfl q_0
                have n64a : (z61).toInt ≠ 0 → PCV s s61 1 := by intro h; unfold In at i61; omega
                have n64b : (u_46_2).toInt ≤ (u_46_1).toInt := by have a0 := in_u ((inv_F hI 0 120 rfl e_102_4)); have a1 := in_u i25x13; have a2 := in_u i25x5; have a3 := in_u ((inv_F hI 0 1000 rfl e_46_4)); have a4 := in_u r_46_1; have a5 := in_u ((inv_F hI 0 1000 rfl e_46_2)); have a6 := in_u i52; have a7 := in_u ((in_c 1 rfl)); omega
                have n64c : (s61.2.2.1 46 2).toInt ≤ (s61.2.2.1 46 1).toInt := by have b0 : u_46_2 = s61.2.2.1 46 2 := fr_F (e_46_2) hF61 rfl; have b1 : u_46_1 = s61.2.2.1 46 1 := fr_F (e_46_1) hF61 rfl; rw [← b0, ← b1]; exact n64b
                have n64d : (u_46_4).toInt ≤ (u_46_2).toInt := by have a0 := in_u ((inv_F hI 0 120 rfl e_102_4)); have a1 := in_u i25x13; have a2 := in_u i25x5; have a3 := in_u ((inv_F hI 0 1000 rfl e_46_4)); have a4 := in_u r_46_1; have a5 := in_u ((inv_F hI 0 1000 rfl e_46_2)); have a6 := in_u i52; have a7 := in_u ((in_c 1 rfl)); omega
                have n64e : (s61.2.2.1 46 4).toInt ≤ (s61.2.2.1 46 2).toInt := by have b0 : u_46_4 = s61.2.2.1 46 4 := fr_F (e_46_4) hF61 rfl; have b1 : u_46_2 = s61.2.2.1 46 2 := fr_F (e_46_2) hF61 rfl; rw [← b0, ← b1]; exact n64d
                have n64f : (u_102_4).toInt ≤ (u_46_4).toInt := by have a0 := in_u ((inv_F hI 0 120 rfl e_102_4)); have a1 := in_u i25x13; have a2 := in_u i25x5; have a3 := in_u ((inv_F hI 0 1000 rfl e_46_4)); have a4 := in_u r_46_1; have a5 := in_u ((inv_F hI 0 1000 rfl e_46_2)); have a6 := in_u i52; have a7 := in_u ((in_c 1 rfl)); omega
                have n64g : (s61.2.2.1 102 4).toInt ≤ (s61.2.2.1 46 4).toInt := by have b0 : u_102_4 = s61.2.2.1 102 4 := fr_F (e_102_4) hF61 rfl; have b1 : u_46_4 = s61.2.2.1 46 4 := fr_F (e_46_4) hF61 rfl; rw [← b0, ← b1]; exact n64f
                have n64h : (u_46_4).toInt - (u_102_4).toInt ≤ (u_46_4).toInt - (u_102_4).toInt := by have a0 := in_u ((inv_F hI 0 120 rfl e_102_4)); have a1 := in_u i25x13; have a2 := in_u i25x5; have a3 := in_u ((inv_F hI 0 1000 rfl e_46_4)); have a4 := in_u r_46_1; have a5 := in_u ((inv_F hI 0 1000 rfl e_46_2)); have a6 := in_u i52; have a7 := in_u ((in_c 1 rfl)); omega
                have n64i : (s.2.2.1 46 4).toInt - (s.2.2.1 102 4).toInt ≤ (s61.2.2.1 46 4).toInt - (s61.2.2.1 102 4).toInt := by have b0 : u_46_4 = s61.2.2.1 46 4 := fr_F (e_46_4) hF61 rfl; have b1 : u_102_4 = s61.2.2.1 102 4 := fr_F (e_102_4) hF61 rfl; first | (rw [← b0, ← b1, ← e_46_4, ← e_102_4]; exact n64h) | (rw [← b0, ← b1]; exact n64h)
                exact g_ireturn (gd rfl) rfl (nb01 (in_w 0 1 i61 rfl)) (hP _ _ ⟨s61, hI61, (fr_tr rfl fr_rf hF61), n64c, n64e, n64g, n64i, z61, rfl, rfl, in_w 0 1 i61 rfl, n64, n64a⟩)
            · skip
              exact zn_eq c30 (in_c 1 rfl) rfl
      · skip
        have i13 := r_eq1 1 1 c13 (inv_F hI 0 5 rfl e_46_3) (in_c 1 rfl) rfl
        refine g_aload_n 17 (gd rfl) rfl rfl ?_
        refine g_aload_n 18 (gd rfl) rfl rfl ?_
        have n18 : (u_46_2).toInt ≤ (u_46_1).toInt := by have a0 := in_u ((inv_F hI 0 120 rfl e_102_4)); have a1 := in_u i13; have a2 := in_u ((inv_F hI 0 1000 rfl e_46_4)); have a3 := in_u r_46_1; have a4 := in_u ((inv_F hI 0 1000 rfl e_46_2)); have a5 := in_u h2; omega
        have n18a : (u_46_4).toInt ≤ (u_46_2).toInt := by have a0 := in_u ((inv_F hI 0 120 rfl e_102_4)); have a1 := in_u i13; have a2 := in_u ((inv_F hI 0 1000 rfl e_46_4)); have a3 := in_u r_46_1; have a4 := in_u ((inv_F hI 0 1000 rfl e_46_2)); have a5 := in_u h2; omega
        have n18b : (u_102_4).toInt ≤ (u_46_4).toInt := by have a0 := in_u ((inv_F hI 0 120 rfl e_102_4)); have a1 := in_u i13; have a2 := in_u ((inv_F hI 0 1000 rfl e_46_4)); have a3 := in_u r_46_1; have a4 := in_u ((inv_F hI 0 1000 rfl e_46_2)); have a5 := in_u h2; omega
        have n18c : 1 ≤ (u_46_3).toInt := by have a0 := in_u ((inv_F hI 0 120 rfl e_102_4)); have a1 := in_u i13; have a2 := in_u ((inv_F hI 0 1000 rfl e_46_4)); have a3 := in_u r_46_1; have a4 := in_u ((inv_F hI 0 1000 rfl e_46_2)); have a5 := in_u h2; omega
        have n18d : (u_46_3).toInt ≤ 2 := by have a0 := in_u ((inv_F hI 0 120 rfl e_102_4)); have a1 := in_u i13; have a2 := in_u ((inv_F hI 0 1000 rfl e_46_4)); have a3 := in_u r_46_1; have a4 := in_u ((inv_F hI 0 1000 rfl e_46_2)); have a5 := in_u h2; omega
        have p18 : TK s := by exact q_0
        refine g_callv (X := _) (As := [.ref (A 46)]) (r := []) (b := A 102) (q := 102) 21 (gd rfl) rfl rfl rfl rfl rfl (ww_o rfl) (Nat.le_of_ble_eq_true rfl) (Nat.zero_le _) (Nat.zero_le _) (k_62_102_46 (by first | exact dq1 hd rfl | exact dq0 hd rfl | exact dq2 hd rfl | exact dq3 hd rfl | omega) hI e_46_2 e_46_1 e_46_4 e_46_3 e_46_5 e_102_4 (in_w 0 120 r_46_1 rfl) n18 n18a n18b n18c n18d p18) (fun e u h => h) (fun v u h => ?_)
        obtain ⟨s18, hI18, hF18, n18e, n18f, n18g, n18h, z18, rfl, rfl, i18, p18a, p18b⟩ := h
        obtain ⟨z18a, e18⟩ : ∃ w, w = s18.2.2.1 46 2 := ⟨_, rfl⟩
        have i18a := inv_F hI18 0 1000 rfl e18
        obtain ⟨z18b, e18a⟩ : ∃ w, w = s18.2.2.1 46 4 := ⟨_, rfl⟩
        have i18b := inv_F hI18 0 1000 rfl e18a
        obtain ⟨z18c, e18b⟩ : ∃ w, w = s18.2.2.1 102 4 := ⟨_, rfl⟩
        have i18c := inv_F hI18 0 120 rfl e18b
        rw [← (show z18a = s18.2.2.1 46 2 from e18)] at n18e
        rw [← (show u_46_1 = s18.2.2.1 46 1 from fr_F (e_46_1) hF18 rfl)] at n18e
        rw [← (show z18a = s18.2.2.1 46 2 from e18)] at n18f
        rw [← (show z18b = s18.2.2.1 46 4 from e18a)] at n18f
        rw [← (show z18b = s18.2.2.1 46 4 from e18a)] at n18g
        rw [← (show z18c = s18.2.2.1 102 4 from e18b)] at n18g
        rw [← (show u_46_4 = s.2.2.1 46 4 from e_46_4)] at n18h
        rw [← (show u_102_4 = s.2.2.1 102 4 from e_102_4)] at n18h
        rw [← (show z18b = s18.2.2.1 46 4 from e18a)] at n18h
        rw [← (show z18c = s18.2.2.1 102 4 from e18b)] at n18h
        show GG _ _ _ _ _ _ _ _ [.int z18] _ _ _
        have n21 : TK s18 := by exact p18a
        have n21a : (z18).toInt ≠ 0 → PCV s s18 1 := by exact p18b
        have n21b : (z18a).toInt ≤ (u_46_1).toInt := by have a0 := in_u ((inv_F hI 0 120 rfl e_102_4)); have a1 := in_u i13; have a2 := in_u ((inv_F hI 0 1000 rfl e_46_4)); have a3 := in_u r_46_1; have a4 := in_u ((inv_F hI 0 1000 rfl e_46_2)); have a5 := in_u h2; have a6 := in_u i18c; have a7 := in_u i18b; have a8 := in_u i18a; omega
        have n21c : (s18.2.2.1 46 2).toInt ≤ (s18.2.2.1 46 1).toInt := by have b0 : z18a = s18.2.2.1 46 2 := e18; have b1 : u_46_1 = s18.2.2.1 46 1 := fr_F (e_46_1) hF18 rfl; rw [← b0, ← b1]; exact n21b
        have n21d : (z18b).toInt ≤ (z18a).toInt := by have a0 := in_u ((inv_F hI 0 120 rfl e_102_4)); have a1 := in_u i13; have a2 := in_u ((inv_F hI 0 1000 rfl e_46_4)); have a3 := in_u r_46_1; have a4 := in_u ((inv_F hI 0 1000 rfl e_46_2)); have a5 := in_u h2; have a6 := in_u i18c; have a7 := in_u i18b; have a8 := in_u i18a; omega
        have n21e : (s18.2.2.1 46 4).toInt ≤ (s18.2.2.1 46 2).toInt := by have b0 : z18b = s18.2.2.1 46 4 := e18a; have b1 : z18a = s18.2.2.1 46 2 := e18; rw [← b0, ← b1]; exact n21d
        have n21f : (z18c).toInt ≤ (z18b).toInt := by have a0 := in_u ((inv_F hI 0 120 rfl e_102_4)); have a1 := in_u i13; have a2 := in_u ((inv_F hI 0 1000 rfl e_46_4)); have a3 := in_u r_46_1; have a4 := in_u ((inv_F hI 0 1000 rfl e_46_2)); have a5 := in_u h2; have a6 := in_u i18c; have a7 := in_u i18b; have a8 := in_u i18a; omega
        have n21g : (s18.2.2.1 102 4).toInt ≤ (s18.2.2.1 46 4).toInt := by have b0 : z18c = s18.2.2.1 102 4 := e18b; have b1 : z18b = s18.2.2.1 46 4 := e18a; rw [← b0, ← b1]; exact n21f
        have n21h : (u_46_4).toInt - (u_102_4).toInt ≤ (z18b).toInt - (z18c).toInt := by have a0 := in_u ((inv_F hI 0 120 rfl e_102_4)); have a1 := in_u i13; have a2 := in_u ((inv_F hI 0 1000 rfl e_46_4)); have a3 := in_u r_46_1; have a4 := in_u ((inv_F hI 0 1000 rfl e_46_2)); have a5 := in_u h2; have a6 := in_u i18c; have a7 := in_u i18b; have a8 := in_u i18a; omega
        have n21i : (s.2.2.1 46 4).toInt - (s.2.2.1 102 4).toInt ≤ (s18.2.2.1 46 4).toInt - (s18.2.2.1 102 4).toInt := by have b0 : z18b = s18.2.2.1 46 4 := e18a; have b1 : z18c = s18.2.2.1 102 4 := e18b; first | (rw [← b0, ← b1, ← e_46_4, ← e_102_4]; exact n21h) | (rw [← b0, ← b1]; exact n21h)
        exact g_ireturn (gd rfl) rfl (nb01 (in_w 0 1 i18 rfl)) (hP _ _ ⟨s18, hI18, (fr_tr rfl fr_rf hF18), n21c, n21e, n21g, n21i, z18, rfl, rfl, in_w 0 1 i18 rfl, n21, n21a⟩)
theorem k_58_102_46 {Z : AmZ} {A : Nat → Nat} {s : GS} {ex : va_W} {d : Nat} {X : AmX} {x2 : Int32} {u_46_2 : Int32} {u_46_1 : Int32} {u_46_4 : Int32} {u_46_3 : Int32} {u_46_5 : Int32} {u_102_4 : Int32} (hd : 295 ≤ d) (hI : Inv s) (h2 : In x2 0 10) (e_46_2 : u_46_2 = s.2.2.1 46 2) (e_46_1 : u_46_1 = s.2.2.1 46 1) (e_46_4 : u_46_4 = s.2.2.1 46 4) (e_46_3 : u_46_3 = s.2.2.1 46 3) (e_46_5 : u_46_5 = s.2.2.1 46 5) (e_102_4 : u_102_4 = s.2.2.1 102 4) (r_46_1 : In u_46_1 0 120) (p_0 : (u_46_2).toInt ≤ (u_46_1).toInt) (p_1 : (u_46_4).toInt ≤ (u_46_2).toInt) (p_2 : (u_102_4).toInt ≤ (u_46_4).toInt) (q_0 : TK s) : GC Z d 58 [.ref (A 102), .ref (A 46), .int x2] (WW Z A s ++ ex) 0 0 (fun v u => ∃ t : GS, Inv t ∧ Fr fm_58_102_46 s t ∧ ((t.2.2.1 46 2).toInt ≤ (t.2.2.1 46 1).toInt) ∧ ((t.2.2.1 46 4).toInt ≤ (t.2.2.1 46 2).toInt) ∧ ((t.2.2.1 102 4).toInt ≤ (t.2.2.1 46 4).toInt) ∧ ((s.2.2.1 46 4).toInt - (s.2.2.1 102 4).toInt ≤ (t.2.2.1 46 4).toInt - (t.2.2.1 102 4).toInt) ∧ ∃ z : Int32, v = some (.int z) ∧ u = WW Z A t ++ ex ∧ In z 0 1 ∧ (TK t) ∧ ((z).toInt ≠ 0 → PCV s t 1)) X := (k_58_102_46_r 11 (k_59_102_46_r 11 (k_60_102_46_r 11 (k_61_102_46_r 11)))) (by omega) hI h2 e_46_2 e_46_1 e_46_4 e_46_3 e_46_5 e_102_4 r_46_1 p_0 p_1 p_2 q_0 (m_in 11 h2 rfl)
