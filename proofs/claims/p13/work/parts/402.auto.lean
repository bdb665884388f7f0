/-! methods, by vc.py -/
def fm_60_102_46 : FM := ([104], [], [(46, 2), (46, 3), (46, 4), (46, 5), (46, 6), (46, 7), (102, 4)], [])
def fm_59_102_46 : FM := ([104], [], [(46, 2), (46, 3), (46, 4), (46, 5), (46, 6), (46, 7), (102, 4)], [])
def fm_58_102_46 : FM := ([104], [], [(46, 2), (46, 3), (46, 4), (46, 5), (46, 6), (46, 7), (102, 4)], [])
def fm_61_102_46 : FM := ([104], [], [(46, 2), (46, 3), (46, 4), (46, 5), (46, 6), (46, 7), (102, 4)], [])
theorem k_60_102_46_r {Z : AmZ} {A : Nat → Nat} {ex : va_W} (kk : Nat) (ih : ∀ {s : GS} {d : Nat} {X : AmX} {x2 : Int32} {u_46_2 : Int32} {u_46_1 : Int32} {u_46_4 : Int32} {u_46_3 : Int32} {u_46_5 : Int32} {u_102_4 : Int32}, 60 + kk * 20 ≤ d → Inv s → In x2 0 10 → u_46_2 = s.2.2.1 46 2 → u_46_1 = s.2.2.1 46 1 → u_46_4 = s.2.2.1 46 4 → u_46_3 = s.2.2.1 46 3 → u_46_5 = s.2.2.1 46 5 → u_102_4 = s.2.2.1 102 4 → In u_46_1 0 120 → (u_46_2).toInt ≤ (u_46_1).toInt → (u_46_3).toInt = 0 ∨ (u_46_4).toInt + 1 ≤ (u_46_2).toInt → (u_46_4).toInt ≤ (u_46_2).toInt → (u_102_4).toInt ≤ (u_46_4).toInt → (u_46_3).toInt = 2 → (u_46_5).toInt ≤ 999999 → 10 - (x2).toInt < ((kk : Nat) : Int) → GC Z d 61 [.ref (A 102), .ref (A 46), .int x2] (WW Z A s ++ ex) 0 0 (fun v u => ∃ t : GS, Inv t ∧ Fr fm_61_102_46 s t ∧ ((t.2.2.1 46 2).toInt ≤ (t.2.2.1 46 1).toInt) ∧ ((t.2.2.1 46 3).toInt = 0 ∨ (t.2.2.1 46 4).toInt + 1 ≤ (t.2.2.1 46 2).toInt) ∧ ((t.2.2.1 46 4).toInt ≤ (t.2.2.1 46 2).toInt) ∧ ((t.2.2.1 102 4).toInt ≤ (t.2.2.1 46 4).toInt) ∧ ((t.2.2.1 46 3).toInt = 2 → (t.2.2.1 46 5).toInt ≤ 999999) ∧ ((s.2.2.1 46 4).toInt - (s.2.2.1 102 4).toInt ≤ (t.2.2.1 46 4).toInt - (t.2.2.1 102 4).toInt) ∧ ∃ z : Int32, v = some (.int z) ∧ u = WW Z A t ++ ex ∧ In z 0 1 ∧ ((z).toInt ≠ 0 → PCV s t 1)) X) : ∀ {s : GS} {d : Nat} {X : AmX} {x2 : Int32} {u_46_2 : Int32} {u_46_1 : Int32} {u_46_4 : Int32} {u_46_3 : Int32} {u_46_5 : Int32} {u_102_4 : Int32}, 65 + kk * 20 ≤ d → Inv s → In x2 0 10 → u_46_2 = s.2.2.1 46 2 → u_46_1 = s.2.2.1 46 1 → u_46_4 = s.2.2.1 46 4 → u_46_3 = s.2.2.1 46 3 → u_46_5 = s.2.2.1 46 5 → u_102_4 = s.2.2.1 102 4 → In u_46_1 0 120 → (u_46_2).toInt ≤ (u_46_1).toInt → (u_46_3).toInt = 0 ∨ (u_46_4).toInt + 1 ≤ (u_46_2).toInt → (u_46_4).toInt ≤ (u_46_2).toInt → (u_102_4).toInt ≤ (u_46_4).toInt → (u_46_3).toInt = 2 → (u_46_5).toInt ≤ 999999 → 10 - (x2).toInt < ((kk : Nat) : Int) → GC Z d 60 [.ref (A 102), .ref (A 46), .int x2] (WW Z A s ++ ex) 0 0 (fun v u => ∃ t : GS, Inv t ∧ Fr fm_60_102_46 s t ∧ ((t.2.2.1 46 2).toInt ≤ (t.2.2.1 46 1).toInt) ∧ ((t.2.2.1 46 3).toInt = 0 ∨ (t.2.2.1 46 4).toInt + 1 ≤ (t.2.2.1 46 2).toInt) ∧ ((t.2.2.1 46 4).toInt ≤ (t.2.2.1 46 2).toInt) ∧ ((t.2.2.1 102 4).toInt ≤ (t.2.2.1 46 4).toInt) ∧ ((t.2.2.1 46 3).toInt = 2 → (t.2.2.1 46 5).toInt ≤ 999999) ∧ ((s.2.2.1 46 4).toInt - (s.2.2.1 102 4).toInt ≤ (t.2.2.1 46 4).toInt - (t.2.2.1 102 4).toInt) ∧ ∃ z : Int32, v = some (.int z) ∧ u = WW Z A t ++ ex ∧ In z 0 1 ∧ ((z).toInt ≠ 0 → PCV s t 1)) X := by
  intro s d X x2 u_46_2 u_46_1 u_46_4 u_46_3 u_46_5 u_102_4 hd hI h2 e_46_2 e_46_1 e_46_4 e_46_3 e_46_5 e_102_4 r_46_1 p_0 p_1 p_2 p_3 p_4 hm
  intro post xp hP hX
  have ct13 : ∀ (k13 : Nat) (sc13 : GS) (y13_3 : Int32) (w13_46_2 : Int32) (w13_46_4 : Int32) (w13_46_3 : Int32) (w13_46_5 : Int32) (w13_102_4 : Int32), Inv sc13 → Fr fm_60_102_46 s sc13 → (In y13_3 0 120) → (w13_46_2 = sc13.2.2.1 46 2) → (w13_46_4 = sc13.2.2.1 46 4) → (w13_46_3 = sc13.2.2.1 46 3) → (w13_46_5 = sc13.2.2.1 46 5) → (w13_102_4 = sc13.2.2.1 102 4) → ((w13_46_2).toInt ≤ (u_46_1).toInt) → ((w13_46_3).toInt = 0 ∨ (w13_46_4).toInt + 1 ≤ (w13_46_2).toInt) → ((w13_46_4).toInt ≤ (w13_46_2).toInt) → ((w13_102_4).toInt ≤ (w13_46_4).toInt) → ((w13_46_3).toInt = 2 → (w13_46_5).toInt ≤ 999999) → ((u_46_4).toInt - (u_102_4).toInt ≤ (w13_46_4).toInt - (w13_102_4).toInt) → (PCV s sc13 1) → 120 - (y13_3).toInt < (k13 : Int) → GG Z (d - 1) 60 post (gx xp) (1 + k13 * 900) 13 (fun j => xlook j [(0, .ref (A 102)), (1, .ref (A 46)), (2, .int x2), (3, .int y13_3)]) [] (WW Z A sc13 ++ ex) 0 0 := by
    intro k13
    induction k13 with
    | zero => intro sc13 y13_3 w13_46_2 w13_46_4 w13_46_3 w13_46_5 w13_102_4 hIc13 hFc13 j13_3 v13_46_2 v13_46_4 v13_46_3 v13_46_5 v13_102_4 n13_0 n13_1 n13_2 n13_3 n13_4 n13_5 g13_0 mm13; exact m_no mm13 j13_3 rfl
    | succ k13 ih13 =>
      intro sc13 y13_3 w13_46_2 w13_46_4 w13_46_3 w13_46_5 w13_102_4 hIc13 hFc13 j13_3 v13_46_2 v13_46_4 v13_46_3 v13_46_5 v13_102_4 n13_0 n13_1 n13_2 n13_3 n13_4 n13_5 g13_0 mm13
      refine gg_w (M := 1 + k13 * 900 + 900) (by omega) ?_
      refine g_iload_n 14 (gd rfl) rfl rfl ?_
      refine g_bipush 120 16 (gd rfl) rfl rfl ?_
      refine g_cmp_ge 19 59 (gd rfl) rfl rfl (fun c16 => ?_) (fun c16 => ?_)
      · skip
        have i16 := r_le2 120 120 c16 (in_c 120 rfl) j13_3 rfl
        refine g_iconst 1 60 (gd rfl) rfl rfl ?_
        have n60 : ((Int32.ofInt 1)).toInt ≠ 0 → PCV s sc13 1 := by first | (intro _; exact g13_0) | (intro h; exact absurd rfl h)
        have n60a : (w13_46_2).toInt ≤ (u_46_1).toInt := by have a0 := h2; unfold In at a0; have a1 := r_46_1; unfold In at a1; have a2 := (inv_F hIc13 0 120 rfl v13_102_4); unfold In at a2; have a3 := (inv_F hIc13 0 5 rfl v13_46_3); unfold In at a3; have a4 := (inv_F hIc13 0 1000 rfl v13_46_4); unfold In at a4; have a5 := (inv_F hIc13 0 1000 rfl v13_46_2); unfold In at a5; have a6 := i16; unfold In at a6; omega
        have n60b : (sc13.2.2.1 46 2).toInt ≤ (sc13.2.2.1 46 1).toInt := by have b0 : w13_46_2 = sc13.2.2.1 46 2 := v13_46_2; have b1 : u_46_1 = sc13.2.2.1 46 1 := fr_F e_46_1 hFc13 rfl; rw [← b0, ← b1]; exact n60a
        have n60c : (w13_46_3).toInt = 0 ∨ (w13_46_4).toInt + 1 ≤ (w13_46_2).toInt := by have a0 := h2; unfold In at a0; have a1 := r_46_1; unfold In at a1; have a2 := (inv_F hIc13 0 120 rfl v13_102_4); unfold In at a2; have a3 := (inv_F hIc13 0 5 rfl v13_46_3); unfold In at a3; have a4 := (inv_F hIc13 0 1000 rfl v13_46_4); unfold In at a4; have a5 := (inv_F hIc13 0 1000 rfl v13_46_2); unfold In at a5; have a6 := i16; unfold In at a6; omega
        have n60d : (sc13.2.2.1 46 3).toInt = 0 ∨ (sc13.2.2.1 46 4).toInt + 1 ≤ (sc13.2.2.1 46 2).toInt := by have b0 : w13_46_3 = sc13.2.2.1 46 3 := v13_46_3; have b1 : w13_46_4 = sc13.2.2.1 46 4 := v13_46_4; have b2 : w13_46_2 = sc13.2.2.1 46 2 := v13_46_2; rw [← b0, ← b1, ← b2]; exact n60c
        have n60e : (w13_46_4).toInt ≤ (w13_46_2).toInt := by have a0 := h2; unfold In at a0; have a1 := r_46_1; unfold In at a1; have a2 := (inv_F hIc13 0 120 rfl v13_102_4); unfold In at a2; have a3 := (inv_F hIc13 0 5 rfl v13_46_3); unfold In at a3; have a4 := (inv_F hIc13 0 1000 rfl v13_46_4); unfold In at a4; have a5 := (inv_F hIc13 0 1000 rfl v13_46_2); unfold In at a5; have a6 := i16; unfold In at a6; omega
        have n60f : (sc13.2.2.1 46 4).toInt ≤ (sc13.2.2.1 46 2).toInt := by have b0 : w13_46_4 = sc13.2.2.1 46 4 := v13_46_4; have b1 : w13_46_2 = sc13.2.2.1 46 2 := v13_46_2; rw [← b0, ← b1]; exact n60e
        have n60g : (w13_102_4).toInt ≤ (w13_46_4).toInt := by have a0 := h2; unfold In at a0; have a1 := r_46_1; unfold In at a1; have a2 := (inv_F hIc13 0 120 rfl v13_102_4); unfold In at a2; have a3 := (inv_F hIc13 0 5 rfl v13_46_3); unfold In at a3; have a4 := (inv_F hIc13 0 1000 rfl v13_46_4); unfold In at a4; have a5 := (inv_F hIc13 0 1000 rfl v13_46_2); unfold In at a5; have a6 := i16; unfold In at a6; omega
        have n60h : (sc13.2.2.1 102 4).toInt ≤ (sc13.2.2.1 46 4).toInt := by have b0 : w13_102_4 = sc13.2.2.1 102 4 := v13_102_4; have b1 : w13_46_4 = sc13.2.2.1 46 4 := v13_46_4; rw [← b0, ← b1]; exact n60g
        have n60i : (w13_46_3).toInt = 2 → (w13_46_5).toInt ≤ 999999 := by have a0 := h2; unfold In at a0; have a1 := r_46_1; unfold In at a1; have a2 := (inv_F hIc13 0 120 rfl v13_102_4); unfold In at a2; have a3 := (inv_F hIc13 0 5 rfl v13_46_3); unfold In at a3; have a4 := (inv_F hIc13 0 1000 rfl v13_46_4); unfold In at a4; have a5 := (inv_F hIc13 0 1000 rfl v13_46_2); unfold In at a5; have a6 := i16; unfold In at a6; omega
        have n60j : (sc13.2.2.1 46 3).toInt = 2 → (sc13.2.2.1 46 5).toInt ≤ 999999 := by have b0 : w13_46_3 = sc13.2.2.1 46 3 := v13_46_3; have b1 : w13_46_5 = sc13.2.2.1 46 5 := v13_46_5; rw [← b0, ← b1]; exact n60i
        have n60k : (u_46_4).toInt - (u_102_4).toInt ≤ (w13_46_4).toInt - (w13_102_4).toInt := by have a0 := h2; unfold In at a0; have a1 := r_46_1; unfold In at a1; have a2 := (inv_F hIc13 0 120 rfl v13_102_4); unfold In at a2; have a3 := (inv_F hIc13 0 5 rfl v13_46_3); unfold In at a3; have a4 := (inv_F hIc13 0 1000 rfl v13_46_4); unfold In at a4; have a5 := (inv_F hIc13 0 1000 rfl v13_46_2); unfold In at a5; have a6 := i16; unfold In at a6; omega
        have n60l : (s.2.2.1 46 4).toInt - (s.2.2.1 102 4).toInt ≤ (sc13.2.2.1 46 4).toInt - (sc13.2.2.1 102 4).toInt := by have b0 : w13_46_4 = sc13.2.2.1 46 4 := v13_46_4; have b1 : w13_102_4 = sc13.2.2.1 102 4 := v13_102_4; rw [← b0, ← b1, ← e_46_4, ← e_102_4]; exact n60k
        exact g_ireturn (gd rfl) rfl (nb01 (in_w 0 1 (in_c 1 rfl) rfl)) (hP _ _ ⟨sc13, hIc13, hFc13, n60b, n60d, n60f, n60h, n60j, n60l, (Int32.ofInt 1), rfl, rfl, in_w 0 1 (in_c 1 rfl) rfl, n60⟩)
      · skip
        have i16 := r_lt1 0 119 c16 j13_3 (in_c 120 rfl) rfl
        refine g_aload_n 20 (gd rfl) rfl rfl ?_
        refine g_bipush 42 22 (gd rfl) rfl rfl ?_
        refine g_callv (X := _) (As := [.int (Int32.ofInt 42)]) (r := []) (b := A 46) (q := 46) 25 (gd rfl) rfl rfl rfl rfl rfl (ww_o rfl) (Nat.le_of_ble_eq_true rfl) (mc := 0) (ms := 0) (Nat.zero_le _) (Nat.zero_le _) (P := fun v u => _) ?_ (fun e u h => h) (fun v u h => h)
        intro po22 xx22 hp22 hx22
        refine g_enter2 (k := 170) (N := 300) (by omega) rfl (Nat.le_of_ble_eq_true rfl) ?_
        refine g_aload_n 1 (gd rfl) rfl rfl ?_
        refine g_getI 4 (gd rfl) rfl rfl rfl (fun z22x1 e22x1 => ?_)
        have q22x1 : w13_46_3 = z22x1 := (v13_46_3).trans e22x1.symm
        subst q22x1
        refine g_iconst 3 5 (gd rfl) rfl rfl ?_
        refine g_cmp_ne 8 20 (gd rfl) rfl rfl (fun c22x5 => ?_) (fun c22x5 => ?_)
        · skip
          refine g_iconst 0 21 (gd rfl) rfl rfl ?_
          refine g_ireturn (gd rfl) rfl (nb01 (in_w 0 1 (in_c 0 rfl) rfl)) (hp22 _ _ ?_)
          show GG _ _ _ _ _ _ _ _ [.int (Int32.ofInt 0)] _ _ _
          refine g_if_eq 28 59 (gd rfl) rfl rfl (fun c25 => ?_) (fun c25 => ?_)
          · skip
            refine g_iconst 1 60 (gd rfl) rfl rfl ?_
            have n60 : ((Int32.ofInt 1)).toInt ≠ 0 → PCV s sc13 1 := by first | (intro _; exact g13_0) | (intro h; exact absurd rfl h)
            have n60a : (w13_46_2).toInt ≤ (u_46_1).toInt := by have a0 := h2; unfold In at a0; have a1 := r_46_1; unfold In at a1; have a2 := (inv_F hIc13 0 120 rfl v13_102_4); unfold In at a2; have a3 := (inv_F hIc13 0 5 rfl v13_46_3); unfold In at a3; have a4 := (inv_F hIc13 0 1000 rfl v13_46_4); unfold In at a4; have a5 := (inv_F hIc13 0 1000 rfl v13_46_2); unfold In at a5; have a6 := i16; unfold In at a6; omega
            have n60b : (sc13.2.2.1 46 2).toInt ≤ (sc13.2.2.1 46 1).toInt := by have b0 : w13_46_2 = sc13.2.2.1 46 2 := v13_46_2; have b1 : u_46_1 = sc13.2.2.1 46 1 := fr_F e_46_1 hFc13 rfl; rw [← b0, ← b1]; exact n60a
            have n60c : (w13_46_3).toInt = 0 ∨ (w13_46_4).toInt + 1 ≤ (w13_46_2).toInt := by have a0 := h2; unfold In at a0; have a1 := r_46_1; unfold In at a1; have a2 := (inv_F hIc13 0 120 rfl v13_102_4); unfold In at a2; have a3 := (inv_F hIc13 0 5 rfl v13_46_3); unfold In at a3; have a4 := (inv_F hIc13 0 1000 rfl v13_46_4); unfold In at a4; have a5 := (inv_F hIc13 0 1000 rfl v13_46_2); unfold In at a5; have a6 := i16; unfold In at a6; omega
            have n60d : (sc13.2.2.1 46 3).toInt = 0 ∨ (sc13.2.2.1 46 4).toInt + 1 ≤ (sc13.2.2.1 46 2).toInt := by have b0 : w13_46_3 = sc13.2.2.1 46 3 := v13_46_3; have b1 : w13_46_4 = sc13.2.2.1 46 4 := v13_46_4; have b2 : w13_46_2 = sc13.2.2.1 46 2 := v13_46_2; rw [← b0, ← b1, ← b2]; exact n60c
            have n60e : (w13_46_4).toInt ≤ (w13_46_2).toInt := by have a0 := h2; unfold In at a0; have a1 := r_46_1; unfold In at a1; have a2 := (inv_F hIc13 0 120 rfl v13_102_4); unfold In at a2; have a3 := (inv_F hIc13 0 5 rfl v13_46_3); unfold In at a3; have a4 := (inv_F hIc13 0 1000 rfl v13_46_4); unfold In at a4; have a5 := (inv_F hIc13 0 1000 rfl v13_46_2); unfold In at a5; have a6 := i16; unfold In at a6; omega
            have n60f : (sc13.2.2.1 46 4).toInt ≤ (sc13.2.2.1 46 2).toInt := by have b0 : w13_46_4 = sc13.2.2.1 46 4 := v13_46_4; have b1 : w13_46_2 = sc13.2.2.1 46 2 := v13_46_2; rw [← b0, ← b1]; exact n60e
            have n60g : (w13_102_4).toInt ≤ (w13_46_4).toInt := by have a0 := h2; unfold In at a0; have a1 := r_46_1; unfold In at a1; have a2 := (inv_F hIc13 0 120 rfl v13_102_4); unfold In at a2; have a3 := (inv_F hIc13 0 5 rfl v13_46_3); unfold In at a3; have a4 := (inv_F hIc13 0 1000 rfl v13_46_4); unfold In at a4; have a5 := (inv_F hIc13 0 1000 rfl v13_46_2); unfold In at a5; have a6 := i16; unfold In at a6; omega
            have n60h : (sc13.2.2.1 102 4).toInt ≤ (sc13.2.2.1 46 4).toInt := by have b0 : w13_102_4 = sc13.2.2.1 102 4 := v13_102_4; have b1 : w13_46_4 = sc13.2.2.1 46 4 := v13_46_4; rw [← b0, ← b1]; exact n60g
            have n60i : (w13_46_3).toInt = 2 → (w13_46_5).toInt ≤ 999999 := by have a0 := h2; unfold In at a0; have a1 := r_46_1; unfold In at a1; have a2 := (inv_F hIc13 0 120 rfl v13_102_4); unfold In at a2; have a3 := (inv_F hIc13 0 5 rfl v13_46_3); unfold In at a3; have a4 := (inv_F hIc13 0 1000 rfl v13_46_4); unfold In at a4; have a5 := (inv_F hIc13 0 1000 rfl v13_46_2); unfold In at a5; have a6 := i16; unfold In at a6; omega
            have n60j : (sc13.2.2.1 46 3).toInt = 2 → (sc13.2.2.1 46 5).toInt ≤ 999999 := by have b0 : w13_46_3 = sc13.2.2.1 46 3 := v13_46_3; have b1 : w13_46_5 = sc13.2.2.1 46 5 := v13_46_5; rw [← b0, ← b1]; exact n60i
            have n60k : (u_46_4).toInt - (u_102_4).toInt ≤ (w13_46_4).toInt - (w13_102_4).toInt := by have a0 := h2; unfold In at a0; have a1 := r_46_1; unfold In at a1; have a2 := (inv_F hIc13 0 120 rfl v13_102_4); unfold In at a2; have a3 := (inv_F hIc13 0 5 rfl v13_46_3); unfold In at a3; have a4 := (inv_F hIc13 0 1000 rfl v13_46_4); unfold In at a4; have a5 := (inv_F hIc13 0 1000 rfl v13_46_2); unfold In at a5; have a6 := i16; unfold In at a6; omega
            have n60l : (s.2.2.1 46 4).toInt - (s.2.2.1 102 4).toInt ≤ (sc13.2.2.1 46 4).toInt - (sc13.2.2.1 102 4).toInt := by have b0 : w13_46_4 = sc13.2.2.1 46 4 := v13_46_4; have b1 : w13_102_4 = sc13.2.2.1 102 4 := v13_102_4; rw [← b0, ← b1, ← e_46_4, ← e_102_4]; exact n60k
            exact g_ireturn (gd rfl) rfl (nb01 (in_w 0 1 (in_c 1 rfl) rfl)) (hP _ _ ⟨sc13, hIc13, hFc13, n60b, n60d, n60f, n60h, n60j, n60l, (Int32.ofInt 1), rfl, rfl, in_w 0 1 (in_c 1 rfl) rfl, n60⟩)
          · skip
            exact zn_ne c25 (in_c 0 rfl) rfl
        · skip
          have i22x5 := r_eq1 3 3 c22x5 (inv_F hIc13 0 5 rfl v13_46_3) (in_c 3 rfl) rfl
          refine g_aload_n 9 (gd rfl) rfl rfl ?_
          refine g_getI 12 (gd rfl) rfl rfl rfl (fun z22x9 e22x9 => ?_)
          have q22x9 : w13_46_5 = z22x9 := (v13_46_5).trans e22x9.symm
          subst q22x9
          refine g_iload_n 13 (gd rfl) rfl rfl ?_
          refine g_cmp_ne 16 20 (gd rfl) rfl rfl (fun c22x13 => ?_) (fun c22x13 => ?_)
          · skip
            refine g_iconst 0 21 (gd rfl) rfl rfl ?_
            refine g_ireturn (gd rfl) rfl (nb01 (in_w 0 1 (in_c 0 rfl) rfl)) (hp22 _ _ ?_)
            show GG _ _ _ _ _ _ _ _ [.int (Int32.ofInt 0)] _ _ _
            refine g_if_eq 28 59 (gd rfl) rfl rfl (fun c25 => ?_) (fun c25 => ?_)
            · skip
              refine g_iconst 1 60 (gd rfl) rfl rfl ?_
              have n60 : ((Int32.ofInt 1)).toInt ≠ 0 → PCV s sc13 1 := by first | (intro _; exact g13_0) | (intro h; exact absurd rfl h)
              have n60a : (w13_46_2).toInt ≤ (u_46_1).toInt := by have a0 := h2; unfold In at a0; have a1 := r_46_1; unfold In at a1; have a2 := (inv_F hIc13 0 120 rfl v13_102_4); unfold In at a2; have a3 := i22x5; unfold In at a3; have a4 := (inv_F hIc13 0 1000 rfl v13_46_4); unfold In at a4; have a5 := (inv_F hIc13 0 1000 rfl v13_46_2); unfold In at a5; have a6 := i16; unfold In at a6; omega
              have n60b : (sc13.2.2.1 46 2).toInt ≤ (sc13.2.2.1 46 1).toInt := by have b0 : w13_46_2 = sc13.2.2.1 46 2 := v13_46_2; have b1 : u_46_1 = sc13.2.2.1 46 1 := fr_F e_46_1 hFc13 rfl; rw [← b0, ← b1]; exact n60a
              have n60c : (w13_46_3).toInt = 0 ∨ (w13_46_4).toInt + 1 ≤ (w13_46_2).toInt := by have a0 := h2; unfold In at a0; have a1 := r_46_1; unfold In at a1; have a2 := (inv_F hIc13 0 120 rfl v13_102_4); unfold In at a2; have a3 := i22x5; unfold In at a3; have a4 := (inv_F hIc13 0 1000 rfl v13_46_4); unfold In at a4; have a5 := (inv_F hIc13 0 1000 rfl v13_46_2); unfold In at a5; have a6 := i16; unfold In at a6; omega
              have n60d : (sc13.2.2.1 46 3).toInt = 0 ∨ (sc13.2.2.1 46 4).toInt + 1 ≤ (sc13.2.2.1 46 2).toInt := by have b0 : w13_46_3 = sc13.2.2.1 46 3 := v13_46_3; have b1 : w13_46_4 = sc13.2.2.1 46 4 := v13_46_4; have b2 : w13_46_2 = sc13.2.2.1 46 2 := v13_46_2; rw [← b0, ← b1, ← b2]; exact n60c
              have n60e : (w13_46_4).toInt ≤ (w13_46_2).toInt := by have a0 := h2; unfold In at a0; have a1 := r_46_1; unfold In at a1; have a2 := (inv_F hIc13 0 120 rfl v13_102_4); unfold In at a2; have a3 := i22x5; unfold In at a3; have a4 := (inv_F hIc13 0 1000 rfl v13_46_4); unfold In at a4; have a5 := (inv_F hIc13 0 1000 rfl v13_46_2); unfold In at a5; have a6 := i16; unfold In at a6; omega
              have n60f : (sc13.2.2.1 46 4).toInt ≤ (sc13.2.2.1 46 2).toInt := by have b0 : w13_46_4 = sc13.2.2.1 46 4 := v13_46_4; have b1 : w13_46_2 = sc13.2.2.1 46 2 := v13_46_2; rw [← b0, ← b1]; exact n60e
              have n60g : (w13_102_4).toInt ≤ (w13_46_4).toInt := by have a0 := h2; unfold In at a0; have a1 := r_46_1; unfold In at a1; have a2 := (inv_F hIc13 0 120 rfl v13_102_4); unfold In at a2; have a3 := i22x5; unfold In at a3; have a4 := (inv_F hIc13 0 1000 rfl v13_46_4); unfold In at a4; have a5 := (inv_F hIc13 0 1000 rfl v13_46_2); unfold In at a5; have a6 := i16; unfold In at a6; omega
              have n60h : (sc13.2.2.1 102 4).toInt ≤ (sc13.2.2.1 46 4).toInt := by have b0 : w13_102_4 = sc13.2.2.1 102 4 := v13_102_4; have b1 : w13_46_4 = sc13.2.2.1 46 4 := v13_46_4; rw [← b0, ← b1]; exact n60g
              have n60i : (w13_46_3).toInt = 2 → (w13_46_5).toInt ≤ 999999 := by have a0 := h2; unfold In at a0; have a1 := r_46_1; unfold In at a1; have a2 := (inv_F hIc13 0 120 rfl v13_102_4); unfold In at a2; have a3 := i22x5; unfold In at a3; have a4 := (inv_F hIc13 0 1000 rfl v13_46_4); unfold In at a4; have a5 := (inv_F hIc13 0 1000 rfl v13_46_2); unfold In at a5; have a6 := i16; unfold In at a6; omega
              have n60j : (sc13.2.2.1 46 3).toInt = 2 → (sc13.2.2.1 46 5).toInt ≤ 999999 := by have b0 : w13_46_3 = sc13.2.2.1 46 3 := v13_46_3; have b1 : w13_46_5 = sc13.2.2.1 46 5 := v13_46_5; rw [← b0, ← b1]; exact n60i
              have n60k : (u_46_4).toInt - (u_102_4).toInt ≤ (w13_46_4).toInt - (w13_102_4).toInt := by have a0 := h2; unfold In at a0; have a1 := r_46_1; unfold In at a1; have a2 := (inv_F hIc13 0 120 rfl v13_102_4); unfold In at a2; have a3 := i22x5; unfold In at a3; have a4 := (inv_F hIc13 0 1000 rfl v13_46_4); unfold In at a4; have a5 := (inv_F hIc13 0 1000 rfl v13_46_2); unfold In at a5; have a6 := i16; unfold In at a6; omega
              have n60l : (s.2.2.1 46 4).toInt - (s.2.2.1 102 4).toInt ≤ (sc13.2.2.1 46 4).toInt - (sc13.2.2.1 102 4).toInt := by have b0 : w13_46_4 = sc13.2.2.1 46 4 := v13_46_4; have b1 : w13_102_4 = sc13.2.2.1 102 4 := v13_102_4; rw [← b0, ← b1, ← e_46_4, ← e_102_4]; exact n60k
              exact g_ireturn (gd rfl) rfl (nb01 (in_w 0 1 (in_c 1 rfl) rfl)) (hP _ _ ⟨sc13, hIc13, hFc13, n60b, n60d, n60f, n60h, n60j, n60l, (Int32.ofInt 1), rfl, rfl, in_w 0 1 (in_c 1 rfl) rfl, n60⟩)
            · skip
              exact zn_ne c25 (in_c 0 rfl) rfl
          · skip
            have i22x13 := r_eq1 42 42 c22x13 (inv_F hIc13 (-2147483648) 2147483647 rfl v13_46_5) (in_c 42 rfl) rfl
            refine g_iconst 1 17 (gd rfl) rfl rfl ?_
            refine g_goto 21 (gd rfl) rfl ?_
            refine g_ireturn (gd rfl) rfl (nb01 (in_w 0 1 (in_c 1 rfl) rfl)) (hp22 _ _ ?_)
            show GG _ _ _ _ _ _ _ _ [.int (Int32.ofInt 1)] _ _ _
            refine g_if_eq 28 59 (gd rfl) rfl rfl (fun c25 => ?_) (fun c25 => ?_)
            · skip
              exact zn_eq c25 (in_c 1 rfl) rfl
            · skip
              refine g_aload_n 29 (gd rfl) rfl rfl ?_
              refine g_bipush 6 31 (gd rfl) rfl rfl ?_
              refine g_iconst 0 32 (gd rfl) rfl rfl ?_
              have v32 : u_46_1 = sc13.2.2.1 46 1 := fr_F e_46_1 hFc13 rfl
              have n32 : (w13_46_2).toInt ≤ (u_46_1).toInt := by have a0 := h2; unfold In at a0; have a1 := r_46_1; unfold In at a1; have a2 := (inv_F hIc13 0 120 rfl v13_102_4); unfold In at a2; have a3 := i22x13; unfold In at a3; have a4 := i22x5; unfold In at a4; have a5 := (inv_F hIc13 0 1000 rfl v13_46_4); unfold In at a5; have a6 := (inv_F hIc13 0 1000 rfl v13_46_2); unfold In at a6; have a7 := i16; unfold In at a7; omega
              refine g_callv (X := _) (As := [.int (Int32.ofInt 6), .int (Int32.ofInt 0)]) (r := []) (b := A 46) (q := 46) 35 (gd rfl) rfl rfl rfl rfl rfl (ww_o rfl) (Nat.le_of_ble_eq_true rfl) (Nat.zero_le _) (Nat.zero_le _) (k_171_46 (by omega) hIc13 (in_w 6 7 (in_c 6 rfl) rfl) (in_w 0 1 (in_c 0 rfl) rfl) v13_46_2 v32 n32) (fun e u h => h) (fun v u h => ?_)
              obtain ⟨s32, hI32, hF32, n32a, n32b, n32c, n32d, rfl, rfl, p32⟩ := h
              obtain ⟨z32a, e32⟩ : ∃ w, w = s32.2.2.1 46 2 := ⟨_, rfl⟩
              have i32a := inv_F hI32 0 1000 rfl e32
              obtain ⟨z32b, e32a⟩ : ∃ w, w = s32.2.2.1 46 3 := ⟨_, rfl⟩
              have i32b := inv_F hI32 0 5 rfl e32a
              obtain ⟨z32c, e32b⟩ : ∃ w, w = s32.2.2.1 46 4 := ⟨_, rfl⟩
              have i32c := inv_F hI32 0 1000 rfl e32b
              rw [← (show z32a = s32.2.2.1 46 2 from e32)] at n32a
              rw [← (show u_46_1 = s32.2.2.1 46 1 from fr_F (fr_F e_46_1 hFc13 rfl) hF32 rfl)] at n32a
              rw [← (show z32a = s32.2.2.1 46 2 from e32)] at n32b
              rw [← (show z32b = s32.2.2.1 46 3 from e32a)] at n32b
              rw [← (show z32c = s32.2.2.1 46 4 from e32b)] at n32b
              rw [← (show z32a = s32.2.2.1 46 2 from e32)] at n32c
              rw [← (show z32c = s32.2.2.1 46 4 from e32b)] at n32c
              rw [← (show w13_46_2 = sc13.2.2.1 46 2 from v13_46_2)] at n32d
              rw [← (show z32c = s32.2.2.1 46 4 from e32b)] at n32d
              show GG _ _ _ _ _ _ _ _ [] _ _ _
              have hv32 := p32 (by decide); rw [← (show z32b = s32.2.2.1 46 3 from e32a)] at hv32
              refine g_aload_n 36 (gd rfl) rfl rfl ?_
              refine g_aload_n 37 (gd rfl) rfl rfl ?_
              refine g_iload_n 38 (gd rfl) rfl rfl ?_
              have v38 : u_46_1 = s32.2.2.1 46 1 := fr_F (fr_F e_46_1 hFc13 rfl) hF32 rfl
              have v38a : w13_102_4 = s32.2.2.1 102 4 := fr_F (v13_102_4) hF32 rfl
              have n38 : (z32a).toInt ≤ (u_46_1).toInt := by have a0 := h2; unfold In at a0; have a1 := r_46_1; unfold In at a1; have a2 := (inv_F hIc13 0 120 rfl v13_102_4); unfold In at a2; have a3 := i22x13; unfold In at a3; have a4 := i22x5; unfold In at a4; have a5 := (inv_F hIc13 0 1000 rfl v13_46_4); unfold In at a5; have a6 := (inv_F hIc13 0 1000 rfl v13_46_2); unfold In at a6; have a7 := i16; unfold In at a7; have a8 := i32c; unfold In at a8; have a9 := i32b; unfold In at a9; have a10 := i32a; unfold In at a10; omega
              have n38a : (z32b).toInt = 0 ∨ (z32c).toInt + 1 ≤ (z32a).toInt := by have a0 := h2; unfold In at a0; have a1 := r_46_1; unfold In at a1; have a2 := (inv_F hIc13 0 120 rfl v13_102_4); unfold In at a2; have a3 := i22x13; unfold In at a3; have a4 := i22x5; unfold In at a4; have a5 := (inv_F hIc13 0 1000 rfl v13_46_4); unfold In at a5; have a6 := (inv_F hIc13 0 1000 rfl v13_46_2); unfold In at a6; have a7 := i16; unfold In at a7; have a8 := i32c; unfold In at a8; have a9 := i32b; unfold In at a9; have a10 := i32a; unfold In at a10; omega
              have n38b : (z32c).toInt ≤ (z32a).toInt := by have a0 := h2; unfold In at a0; have a1 := r_46_1; unfold In at a1; have a2 := (inv_F hIc13 0 120 rfl v13_102_4); unfold In at a2; have a3 := i22x13; unfold In at a3; have a4 := i22x5; unfold In at a4; have a5 := (inv_F hIc13 0 1000 rfl v13_46_4); unfold In at a5; have a6 := (inv_F hIc13 0 1000 rfl v13_46_2); unfold In at a6; have a7 := i16; unfold In at a7; have a8 := i32c; unfold In at a8; have a9 := i32b; unfold In at a9; have a10 := i32a; unfold In at a10; omega
              have n38c : (w13_102_4).toInt ≤ (z32c).toInt := by have a0 := h2; unfold In at a0; have a1 := r_46_1; unfold In at a1; have a2 := (inv_F hIc13 0 120 rfl v13_102_4); unfold In at a2; have a3 := i22x13; unfold In at a3; have a4 := i22x5; unfold In at a4; have a5 := (inv_F hIc13 0 1000 rfl v13_46_4); unfold In at a5; have a6 := (inv_F hIc13 0 1000 rfl v13_46_2); unfold In at a6; have a7 := i16; unfold In at a7; have a8 := i32c; unfold In at a8; have a9 := i32b; unfold In at a9; have a10 := i32a; unfold In at a10; omega
              have n38d : (z32b).toInt = 2 → ((s32.2.2.1 46 5)).toInt ≤ 999999 := by have a0 := h2; unfold In at a0; have a1 := r_46_1; unfold In at a1; have a2 := (inv_F hIc13 0 120 rfl v13_102_4); unfold In at a2; have a3 := i22x13; unfold In at a3; have a4 := i22x5; unfold In at a4; have a5 := (inv_F hIc13 0 1000 rfl v13_46_4); unfold In at a5; have a6 := (inv_F hIc13 0 1000 rfl v13_46_2); unfold In at a6; have a7 := i16; unfold In at a7; have a8 := i32c; unfold In at a8; have a9 := i32b; unfold In at a9; have a10 := i32a; unfold In at a10; omega
              have n38e : 10 - (x2).toInt < ((kk : Nat) : Int) := by have a0 := h2; unfold In at a0; have a1 := r_46_1; unfold In at a1; have a2 := (inv_F hIc13 0 120 rfl v13_102_4); unfold In at a2; have a3 := i22x13; unfold In at a3; have a4 := i22x5; unfold In at a4; have a5 := (inv_F hIc13 0 1000 rfl v13_46_4); unfold In at a5; have a6 := (inv_F hIc13 0 1000 rfl v13_46_2); unfold In at a6; have a7 := i16; unfold In at a7; have a8 := i32c; unfold In at a8; have a9 := i32b; unfold In at a9; have a10 := i32a; unfold In at a10; omega
              refine g_callv (X := _) (As := [.ref (A 46), .int x2]) (r := []) (b := A 102) (q := 102) 41 (gd rfl) rfl rfl rfl rfl rfl (ww_o rfl) (Nat.le_of_ble_eq_true rfl) (Nat.zero_le _) (Nat.zero_le _) (ih (by omega) hI32 (in_w 0 10 h2 rfl) e32 v38 e32b e32a rfl v38a (in_w 0 120 r_46_1 rfl) n38 n38a n38b n38c n38d n38e) (fun e u h => h) (fun v u h => ?_)
              obtain ⟨s38, hI38, hF38, n38f, n38g, n38h, n38i, n38j, n38k, z38, rfl, rfl, i38, p38⟩ := h
              obtain ⟨z38a, e38⟩ : ∃ w, w = s38.2.2.1 46 2 := ⟨_, rfl⟩
              have i38a := inv_F hI38 0 1000 rfl e38
              obtain ⟨z38b, e38a⟩ : ∃ w, w = s38.2.2.1 46 3 := ⟨_, rfl⟩
              have i38b := inv_F hI38 0 5 rfl e38a
              obtain ⟨z38c, e38b⟩ : ∃ w, w = s38.2.2.1 46 4 := ⟨_, rfl⟩
              have i38c := inv_F hI38 0 1000 rfl e38b
              obtain ⟨z38d, e38c⟩ : ∃ w, w = s38.2.2.1 102 4 := ⟨_, rfl⟩
              have i38d := inv_F hI38 0 120 rfl e38c
              obtain ⟨z38e, e38d⟩ : ∃ w, w = s38.2.2.1 46 5 := ⟨_, rfl⟩
              rw [← (show z38a = s38.2.2.1 46 2 from e38)] at n38f
              rw [← (show u_46_1 = s38.2.2.1 46 1 from fr_F (fr_F (fr_F e_46_1 hFc13 rfl) hF32 rfl) hF38 rfl)] at n38f
              rw [← (show z38a = s38.2.2.1 46 2 from e38)] at n38g
              rw [← (show z38b = s38.2.2.1 46 3 from e38a)] at n38g
              rw [← (show z38c = s38.2.2.1 46 4 from e38b)] at n38g
              rw [← (show z38a = s38.2.2.1 46 2 from e38)] at n38h
              rw [← (show z38c = s38.2.2.1 46 4 from e38b)] at n38h
              rw [← (show z38c = s38.2.2.1 46 4 from e38b)] at n38i
              rw [← (show z38d = s38.2.2.1 102 4 from e38c)] at n38i
              rw [← (show z38b = s38.2.2.1 46 3 from e38a)] at n38j
              rw [← (show z38e = s38.2.2.1 46 5 from e38d)] at n38j
              rw [← (show z32c = s32.2.2.1 46 4 from e32b)] at n38k
              rw [← (show w13_102_4 = s32.2.2.1 102 4 from fr_F (v13_102_4) hF32 rfl)] at n38k
              rw [← (show z38c = s38.2.2.1 46 4 from e38b)] at n38k
              rw [← (show z38d = s38.2.2.1 102 4 from e38c)] at n38k
              show GG _ _ _ _ _ _ _ _ [.int z38] _ _ _
              refine g_if_ne 44 46 (gd rfl) rfl rfl (fun c41 => ?_) (fun c41 => ?_)
              · skip
                have i41 := z_ne 1 1 c41 i38 rfl
                refine g_aload_n 47 (gd rfl) rfl rfl ?_
                refine g_ldc 1000142 49 (gd rfl) rfl rfl ?_
                have hD : (s38.2.2.1 102 4).toInt < 120 := (by rw [← (show z38d = s38.2.2.1 102 4 from e38c)]; have a0 := h2; unfold In at a0; have a1 := r_46_1; unfold In at a1; have a2 := (inv_F hIc13 0 120 rfl v13_102_4); unfold In at a2; have a3 := i22x13; unfold In at a3; have a4 := i22x5; unfold In at a4; have a5 := (inv_F hIc13 0 1000 rfl v13_46_4); unfold In at a5; have a6 := (inv_F hIc13 0 1000 rfl v13_46_2); unfold In at a6; have a7 := i16; unfold In at a7; have a8 := i38d; unfold In at a8; have a9 := i38c; unfold In at a9; have a10 := i38b; unfold In at a10; have a11 := i38a; unfold In at a11; omega)
                have hDe : _ = s38.2.2.1 102 4 := (show z38d = s38.2.2.1 102 4 from e38c)
                refine g_callv (X := _) (As := [.int (Int32.ofInt 1000142)]) (r := []) (b := A 102) (q := 102) 52 (gd rfl) rfl rfl rfl rfl rfl (ww_o rfl) (Nat.le_of_ble_eq_true rfl) (Nat.zero_le _) (Nat.zero_le _) (k_57_102 (by omega) hI38 e38c) (fun e u h => h) (fun v u h => ?_)
                obtain ⟨s49, hI49, hF49, n49, n49a, z49, rfl, rfl, i49, p49⟩ := h
                obtain ⟨z49a, e49⟩ : ∃ w, w = s49.2.2.1 102 4 := ⟨_, rfl⟩
                have i49a := inv_F hI49 0 120 rfl e49
                rw [← (show z38d = s38.2.2.1 102 4 from e38c)] at n49
                rw [← (show z49a = s49.2.2.1 102 4 from e49)] at n49
                rw [← (show z38d = s38.2.2.1 102 4 from e38c)] at n49a
                rw [← (show z49a = s49.2.2.1 102 4 from e49)] at n49a
                show GG _ _ _ _ _ _ _ _ [.int z49] _ _ _
                refine g_pop 53 (gd rfl) rfl rfl ?_
                refine g_iinc 56 (gd rfl) rfl rfl (Nat.le_of_ble_eq_true rfl) (fun z53 e53 => ?_)
                have i53 := in_add 1 120 e53 i16 (in_c 1 rfl) rfl rfl
                refine g_goto 13 (gd rfl) rfl ?_
                have v13 : z38a = s49.2.2.1 46 2 := fr_F (e38) hF49 rfl
                have v13a : z38c = s49.2.2.1 46 4 := fr_F (e38b) hF49 rfl
                have v13b : z38b = s49.2.2.1 46 3 := fr_F (e38a) hF49 rfl
                have v13c : z38e = s49.2.2.1 46 5 := fr_F (e38d) hF49 rfl
                have n13 : (z38a).toInt ≤ (u_46_1).toInt := by have a0 := h2; unfold In at a0; have a1 := r_46_1; unfold In at a1; have a2 := (inv_F hIc13 0 120 rfl v13_102_4); unfold In at a2; have a3 := i22x13; unfold In at a3; have a4 := i22x5; unfold In at a4; have a5 := (inv_F hIc13 0 1000 rfl v13_46_4); unfold In at a5; have a6 := (inv_F hIc13 0 1000 rfl v13_46_2); unfold In at a6; have a7 := i16; unfold In at a7; have a8 := i53; unfold In at a8; have a9 := t_add e53 i16 (in_c 1 rfl) rfl; have a10 := (in_c 1 rfl); unfold In at a10; have a11 := i49a; unfold In at a11; have a12 := i38c; unfold In at a12; have a13 := i38b; unfold In at a13; have a14 := i38a; unfold In at a14; omega
                have n13a : (z38b).toInt = 0 ∨ (z38c).toInt + 1 ≤ (z38a).toInt := by have a0 := h2; unfold In at a0; have a1 := r_46_1; unfold In at a1; have a2 := (inv_F hIc13 0 120 rfl v13_102_4); unfold In at a2; have a3 := i22x13; unfold In at a3; have a4 := i22x5; unfold In at a4; have a5 := (inv_F hIc13 0 1000 rfl v13_46_4); unfold In at a5; have a6 := (inv_F hIc13 0 1000 rfl v13_46_2); unfold In at a6; have a7 := i16; unfold In at a7; have a8 := i53; unfold In at a8; have a9 := t_add e53 i16 (in_c 1 rfl) rfl; have a10 := (in_c 1 rfl); unfold In at a10; have a11 := i49a; unfold In at a11; have a12 := i38c; unfold In at a12; have a13 := i38b; unfold In at a13; have a14 := i38a; unfold In at a14; omega
                have n13b : (z38c).toInt ≤ (z38a).toInt := by have a0 := h2; unfold In at a0; have a1 := r_46_1; unfold In at a1; have a2 := (inv_F hIc13 0 120 rfl v13_102_4); unfold In at a2; have a3 := i22x13; unfold In at a3; have a4 := i22x5; unfold In at a4; have a5 := (inv_F hIc13 0 1000 rfl v13_46_4); unfold In at a5; have a6 := (inv_F hIc13 0 1000 rfl v13_46_2); unfold In at a6; have a7 := i16; unfold In at a7; have a8 := i53; unfold In at a8; have a9 := t_add e53 i16 (in_c 1 rfl) rfl; have a10 := (in_c 1 rfl); unfold In at a10; have a11 := i49a; unfold In at a11; have a12 := i38c; unfold In at a12; have a13 := i38b; unfold In at a13; have a14 := i38a; unfold In at a14; omega
                have n13c : (z49a).toInt ≤ (z38c).toInt := by have a0 := h2; unfold In at a0; have a1 := r_46_1; unfold In at a1; have a2 := (inv_F hIc13 0 120 rfl v13_102_4); unfold In at a2; have a3 := i22x13; unfold In at a3; have a4 := i22x5; unfold In at a4; have a5 := (inv_F hIc13 0 1000 rfl v13_46_4); unfold In at a5; have a6 := (inv_F hIc13 0 1000 rfl v13_46_2); unfold In at a6; have a7 := i16; unfold In at a7; have a8 := i53; unfold In at a8; have a9 := t_add e53 i16 (in_c 1 rfl) rfl; have a10 := (in_c 1 rfl); unfold In at a10; have a11 := i49a; unfold In at a11; have a12 := i38c; unfold In at a12; have a13 := i38b; unfold In at a13; have a14 := i38a; unfold In at a14; omega
                have n13d : (z38b).toInt = 2 → (z38e).toInt ≤ 999999 := by have a0 := h2; unfold In at a0; have a1 := r_46_1; unfold In at a1; have a2 := (inv_F hIc13 0 120 rfl v13_102_4); unfold In at a2; have a3 := i22x13; unfold In at a3; have a4 := i22x5; unfold In at a4; have a5 := (inv_F hIc13 0 1000 rfl v13_46_4); unfold In at a5; have a6 := (inv_F hIc13 0 1000 rfl v13_46_2); unfold In at a6; have a7 := i16; unfold In at a7; have a8 := i53; unfold In at a8; have a9 := t_add e53 i16 (in_c 1 rfl) rfl; have a10 := (in_c 1 rfl); unfold In at a10; have a11 := i49a; unfold In at a11; have a12 := i38c; unfold In at a12; have a13 := i38b; unfold In at a13; have a14 := i38a; unfold In at a14; omega
                have n13e : (u_46_4).toInt - (u_102_4).toInt ≤ (z38c).toInt - (z49a).toInt := by have a0 := h2; unfold In at a0; have a1 := r_46_1; unfold In at a1; have a2 := (inv_F hIc13 0 120 rfl v13_102_4); unfold In at a2; have a3 := i22x13; unfold In at a3; have a4 := i22x5; unfold In at a4; have a5 := (inv_F hIc13 0 1000 rfl v13_46_4); unfold In at a5; have a6 := (inv_F hIc13 0 1000 rfl v13_46_2); unfold In at a6; have a7 := i16; unfold In at a7; have a8 := i53; unfold In at a8; have a9 := t_add e53 i16 (in_c 1 rfl) rfl; have a10 := (in_c 1 rfl); unfold In at a10; have a11 := i49a; unfold In at a11; have a12 := i38c; unfold In at a12; have a13 := i38b; unfold In at a13; have a14 := i38a; unfold In at a14; omega
                have n13f : PCV s s49 1 := by exact pv_st (j := 2) (k := 1) (pv_tr (j := 1) (k := 1) (pv_tr (j := 1) (k := 0) g13_0 (pv_sm (hF32.1 104 rfl) (hF32.2.2.1 102 4 rfl))) (p38 c41)) (inv_F hI38 0 120 rfl rfl).1 (p49 hD) (by rw [← (show z49a = s49.2.2.1 102 4 from e49), ← hDe]; have a0 := h2; unfold In at a0; have a1 := r_46_1; unfold In at a1; have a2 := (inv_F hIc13 0 120 rfl v13_102_4); unfold In at a2; have a3 := i22x13; unfold In at a3; have a4 := i22x5; unfold In at a4; have a5 := (inv_F hIc13 0 1000 rfl v13_46_4); unfold In at a5; have a6 := (inv_F hIc13 0 1000 rfl v13_46_2); unfold In at a6; have a7 := i16; unfold In at a7; have a8 := i53; unfold In at a8; have a9 := t_add e53 i16 (in_c 1 rfl) rfl; have a10 := (in_c 1 rfl); unfold In at a10; have a11 := i49a; unfold In at a11; have a12 := i38c; unfold In at a12; have a13 := i38b; unfold In at a13; have a14 := i38a; unfold In at a14; omega) (fun e => hc_b (by decide) (by decide) e)
                exact gg_w (by omega) (gg_f (gf_cons rfl (gf_cons rfl (gf_cons rfl (gf_cons rfl gf_nil)))) (ih13 s49 z53 z38a z38c z38b z38e z49a hI49 (fr_tr rfl (fr_tr rfl (fr_tr rfl hFc13 hF32) hF38) hF49) (in_w 0 120 i53 rfl) v13 v13a v13b v13c e49 n13 n13a n13b n13c n13d n13e n13f (m_up mm13 (t_add e53 i16 (in_c 1 rfl) rfl) (in_w 1 1 (in_c 1 rfl) rfl))))
              · skip
                have i41 := z_eq 0 0 c41 i38 rfl
                refine g_iconst 0 45 (gd rfl) rfl rfl ?_
                have n45 : ((Int32.ofInt 0)).toInt ≠ 0 → PCV s s38 1 := by first | (intro _; exact g13_0) | (intro h; exact absurd rfl h)
                have n45a : (z38a).toInt ≤ (u_46_1).toInt := by have a0 := h2; unfold In at a0; have a1 := r_46_1; unfold In at a1; have a2 := (inv_F hIc13 0 120 rfl v13_102_4); unfold In at a2; have a3 := i22x13; unfold In at a3; have a4 := i22x5; unfold In at a4; have a5 := (inv_F hIc13 0 1000 rfl v13_46_4); unfold In at a5; have a6 := (inv_F hIc13 0 1000 rfl v13_46_2); unfold In at a6; have a7 := i16; unfold In at a7; have a8 := i38d; unfold In at a8; have a9 := i38c; unfold In at a9; have a10 := i38b; unfold In at a10; have a11 := i38a; unfold In at a11; omega
                have n45b : (s38.2.2.1 46 2).toInt ≤ (s38.2.2.1 46 1).toInt := by have b0 : z38a = s38.2.2.1 46 2 := e38; have b1 : u_46_1 = s38.2.2.1 46 1 := fr_F (fr_F (fr_F e_46_1 hFc13 rfl) hF32 rfl) hF38 rfl; rw [← b0, ← b1]; exact n45a
                have n45c : (z38b).toInt = 0 ∨ (z38c).toInt + 1 ≤ (z38a).toInt := by have a0 := h2; unfold In at a0; have a1 := r_46_1; unfold In at a1; have a2 := (inv_F hIc13 0 120 rfl v13_102_4); unfold In at a2; have a3 := i22x13; unfold In at a3; have a4 := i22x5; unfold In at a4; have a5 := (inv_F hIc13 0 1000 rfl v13_46_4); unfold In at a5; have a6 := (inv_F hIc13 0 1000 rfl v13_46_2); unfold In at a6; have a7 := i16; unfold In at a7; have a8 := i38d; unfold In at a8; have a9 := i38c; unfold In at a9; have a10 := i38b; unfold In at a10; have a11 := i38a; unfold In at a11; omega
                have n45d : (s38.2.2.1 46 3).toInt = 0 ∨ (s38.2.2.1 46 4).toInt + 1 ≤ (s38.2.2.1 46 2).toInt := by have b0 : z38b = s38.2.2.1 46 3 := e38a; have b1 : z38c = s38.2.2.1 46 4 := e38b; have b2 : z38a = s38.2.2.1 46 2 := e38; rw [← b0, ← b1, ← b2]; exact n45c
                have n45e : (z38c).toInt ≤ (z38a).toInt := by have a0 := h2; unfold In at a0; have a1 := r_46_1; unfold In at a1; have a2 := (inv_F hIc13 0 120 rfl v13_102_4); unfold In at a2; have a3 := i22x13; unfold In at a3; have a4 := i22x5; unfold In at a4; have a5 := (inv_F hIc13 0 1000 rfl v13_46_4); unfold In at a5; have a6 := (inv_F hIc13 0 1000 rfl v13_46_2); unfold In at a6; have a7 := i16; unfold In at a7; have a8 := i38d; unfold In at a8; have a9 := i38c; unfold In at a9; have a10 := i38b; unfold In at a10; have a11 := i38a; unfold In at a11; omega
                have n45f : (s38.2.2.1 46 4).toInt ≤ (s38.2.2.1 46 2).toInt := by have b0 : z38c = s38.2.2.1 46 4 := e38b; have b1 : z38a = s38.2.2.1 46 2 := e38; rw [← b0, ← b1]; exact n45e
                have n45g : (z38d).toInt ≤ (z38c).toInt := by have a0 := h2; unfold In at a0; have a1 := r_46_1; unfold In at a1; have a2 := (inv_F hIc13 0 120 rfl v13_102_4); unfold In at a2; have a3 := i22x13; unfold In at a3; have a4 := i22x5; unfold In at a4; have a5 := (inv_F hIc13 0 1000 rfl v13_46_4); unfold In at a5; have a6 := (inv_F hIc13 0 1000 rfl v13_46_2); unfold In at a6; have a7 := i16; unfold In at a7; have a8 := i38d; unfold In at a8; have a9 := i38c; unfold In at a9; have a10 := i38b; unfold In at a10; have a11 := i38a; unfold In at a11; omega
                have n45h : (s38.2.2.1 102 4).toInt ≤ (s38.2.2.1 46 4).toInt := by have b0 : z38d = s38.2.2.1 102 4 := e38c; have b1 : z38c = s38.2.2.1 46 4 := e38b; rw [← b0, ← b1]; exact n45g
                have n45i : (z38b).toInt = 2 → (z38e).toInt ≤ 999999 := by have a0 := h2; unfold In at a0; have a1 := r_46_1; unfold In at a1; have a2 := (inv_F hIc13 0 120 rfl v13_102_4); unfold In at a2; have a3 := i22x13; unfold In at a3; have a4 := i22x5; unfold In at a4; have a5 := (inv_F hIc13 0 1000 rfl v13_46_4); unfold In at a5; have a6 := (inv_F hIc13 0 1000 rfl v13_46_2); unfold In at a6; have a7 := i16; unfold In at a7; have a8 := i38d; unfold In at a8; have a9 := i38c; unfold In at a9; have a10 := i38b; unfold In at a10; have a11 := i38a; unfold In at a11; omega
                have n45j : (s38.2.2.1 46 3).toInt = 2 → (s38.2.2.1 46 5).toInt ≤ 999999 := by have b0 : z38b = s38.2.2.1 46 3 := e38a; have b1 : z38e = s38.2.2.1 46 5 := e38d; rw [← b0, ← b1]; exact n45i
                have n45k : (u_46_4).toInt - (u_102_4).toInt ≤ (z38c).toInt - (z38d).toInt := by have a0 := h2; unfold In at a0; have a1 := r_46_1; unfold In at a1; have a2 := (inv_F hIc13 0 120 rfl v13_102_4); unfold In at a2; have a3 := i22x13; unfold In at a3; have a4 := i22x5; unfold In at a4; have a5 := (inv_F hIc13 0 1000 rfl v13_46_4); unfold In at a5; have a6 := (inv_F hIc13 0 1000 rfl v13_46_2); unfold In at a6; have a7 := i16; unfold In at a7; have a8 := i38d; unfold In at a8; have a9 := i38c; unfold In at a9; have a10 := i38b; unfold In at a10; have a11 := i38a; unfold In at a11; omega
                have n45l : (s.2.2.1 46 4).toInt - (s.2.2.1 102 4).toInt ≤ (s38.2.2.1 46 4).toInt - (s38.2.2.1 102 4).toInt := by have b0 : z38c = s38.2.2.1 46 4 := e38b; have b1 : z38d = s38.2.2.1 102 4 := e38c; rw [← b0, ← b1, ← e_46_4, ← e_102_4]; exact n45k
                exact g_ireturn (gd rfl) rfl (nb01 (in_w 0 1 (in_c 0 rfl) rfl)) (hP _ _ ⟨s38, hI38, (fr_tr rfl (fr_tr rfl hFc13 hF32) hF38), n45b, n45d, n45f, n45h, n45j, n45l, (Int32.ofInt 0), rfl, rfl, in_w 0 1 (in_c 0 rfl) rfl, n45⟩)
  refine g_enter2 (k := 60) (N := 109801) (by omega) rfl (Nat.le_of_ble_eq_true rfl) ?_
  refine g_aload_n 1 (gd rfl) rfl rfl ?_
  refine g_aload_n 2 (gd rfl) rfl rfl ?_
  refine g_iload_n 3 (gd rfl) rfl rfl ?_
  have n3 : (u_46_2).toInt ≤ (u_46_1).toInt := by have a0 := (inv_F hI 0 120 rfl e_102_4); unfold In at a0; have a1 := (inv_F hI 0 5 rfl e_46_3); unfold In at a1; have a2 := (inv_F hI 0 1000 rfl e_46_4); unfold In at a2; have a3 := r_46_1; unfold In at a3; have a4 := (inv_F hI 0 1000 rfl e_46_2); unfold In at a4; have a5 := h2; unfold In at a5; omega
  have n3a : (u_46_3).toInt = 0 ∨ (u_46_4).toInt + 1 ≤ (u_46_2).toInt := by have a0 := (inv_F hI 0 120 rfl e_102_4); unfold In at a0; have a1 := (inv_F hI 0 5 rfl e_46_3); unfold In at a1; have a2 := (inv_F hI 0 1000 rfl e_46_4); unfold In at a2; have a3 := r_46_1; unfold In at a3; have a4 := (inv_F hI 0 1000 rfl e_46_2); unfold In at a4; have a5 := h2; unfold In at a5; omega
  have n3b : (u_46_4).toInt ≤ (u_46_2).toInt := by have a0 := (inv_F hI 0 120 rfl e_102_4); unfold In at a0; have a1 := (inv_F hI 0 5 rfl e_46_3); unfold In at a1; have a2 := (inv_F hI 0 1000 rfl e_46_4); unfold In at a2; have a3 := r_46_1; unfold In at a3; have a4 := (inv_F hI 0 1000 rfl e_46_2); unfold In at a4; have a5 := h2; unfold In at a5; omega
  have n3c : (u_102_4).toInt ≤ (u_46_4).toInt := by have a0 := (inv_F hI 0 120 rfl e_102_4); unfold In at a0; have a1 := (inv_F hI 0 5 rfl e_46_3); unfold In at a1; have a2 := (inv_F hI 0 1000 rfl e_46_4); unfold In at a2; have a3 := r_46_1; unfold In at a3; have a4 := (inv_F hI 0 1000 rfl e_46_2); unfold In at a4; have a5 := h2; unfold In at a5; omega
  have n3d : (u_46_3).toInt = 2 → (u_46_5).toInt ≤ 999999 := by have a0 := (inv_F hI 0 120 rfl e_102_4); unfold In at a0; have a1 := (inv_F hI 0 5 rfl e_46_3); unfold In at a1; have a2 := (inv_F hI 0 1000 rfl e_46_4); unfold In at a2; have a3 := r_46_1; unfold In at a3; have a4 := (inv_F hI 0 1000 rfl e_46_2); unfold In at a4; have a5 := h2; unfold In at a5; omega
  have n3e : 10 - (x2).toInt < ((kk : Nat) : Int) := by have a0 := (inv_F hI 0 120 rfl e_102_4); unfold In at a0; have a1 := (inv_F hI 0 5 rfl e_46_3); unfold In at a1; have a2 := (inv_F hI 0 1000 rfl e_46_4); unfold In at a2; have a3 := r_46_1; unfold In at a3; have a4 := (inv_F hI 0 1000 rfl e_46_2); unfold In at a4; have a5 := h2; unfold In at a5; omega
  refine g_callv (X := _) (As := [.ref (A 46), .int x2]) (r := []) (b := A 102) (q := 102) 6 (gd rfl) rfl rfl rfl rfl rfl (ww_o rfl) (Nat.le_of_ble_eq_true rfl) (Nat.zero_le _) (Nat.zero_le _) (ih (by omega) hI (in_w 0 10 h2 rfl) e_46_2 e_46_1 e_46_4 e_46_3 e_46_5 e_102_4 (in_w 0 120 r_46_1 rfl) n3 n3a n3b n3c n3d n3e) (fun e u h => h) (fun v u h => ?_)
  obtain ⟨s3, hI3, hF3, n3f, n3g, n3h, n3i, n3j, n3k, z3, rfl, rfl, i3, p3⟩ := h
  obtain ⟨z3a, e3⟩ : ∃ w, w = s3.2.2.1 46 2 := ⟨_, rfl⟩
  have i3a := inv_F hI3 0 1000 rfl e3
  obtain ⟨z3b, e3a⟩ : ∃ w, w = s3.2.2.1 46 3 := ⟨_, rfl⟩
  have i3b := inv_F hI3 0 5 rfl e3a
  obtain ⟨z3c, e3b⟩ : ∃ w, w = s3.2.2.1 46 4 := ⟨_, rfl⟩
  have i3c := inv_F hI3 0 1000 rfl e3b
  obtain ⟨z3d, e3c⟩ : ∃ w, w = s3.2.2.1 102 4 := ⟨_, rfl⟩
  have i3d := inv_F hI3 0 120 rfl e3c
  obtain ⟨z3e, e3d⟩ : ∃ w, w = s3.2.2.1 46 5 := ⟨_, rfl⟩
  rw [← (show z3a = s3.2.2.1 46 2 from e3)] at n3f
  rw [← (show u_46_1 = s3.2.2.1 46 1 from fr_F (e_46_1) hF3 rfl)] at n3f
  rw [← (show z3a = s3.2.2.1 46 2 from e3)] at n3g
  rw [← (show z3b = s3.2.2.1 46 3 from e3a)] at n3g
  rw [← (show z3c = s3.2.2.1 46 4 from e3b)] at n3g
  rw [← (show z3a = s3.2.2.1 46 2 from e3)] at n3h
  rw [← (show z3c = s3.2.2.1 46 4 from e3b)] at n3h
  rw [← (show z3c = s3.2.2.1 46 4 from e3b)] at n3i
  rw [← (show z3d = s3.2.2.1 102 4 from e3c)] at n3i
  rw [← (show z3b = s3.2.2.1 46 3 from e3a)] at n3j
  rw [← (show z3e = s3.2.2.1 46 5 from e3d)] at n3j
  rw [← (show u_46_4 = s.2.2.1 46 4 from e_46_4)] at n3k
  rw [← (show u_102_4 = s.2.2.1 102 4 from e_102_4)] at n3k
  rw [← (show z3c = s3.2.2.1 46 4 from e3b)] at n3k
  rw [← (show z3d = s3.2.2.1 102 4 from e3c)] at n3k
  show GG _ _ _ _ _ _ _ _ [.int z3] _ _ _
  refine g_if_ne 9 11 (gd rfl) rfl rfl (fun c6 => ?_) (fun c6 => ?_)
  · skip
    have i6 := z_ne 1 1 c6 i3 rfl
    refine g_iconst 0 12 (gd rfl) rfl rfl ?_
    refine g_istore_n 13 (gd rfl) rfl (Nat.le_of_ble_eq_true rfl) ?_
    have n13 : (z3a).toInt ≤ (u_46_1).toInt := by have a0 := (inv_F hI 0 120 rfl e_102_4); unfold In at a0; have a1 := (inv_F hI 0 5 rfl e_46_3); unfold In at a1; have a2 := (inv_F hI 0 1000 rfl e_46_4); unfold In at a2; have a3 := r_46_1; unfold In at a3; have a4 := (inv_F hI 0 1000 rfl e_46_2); unfold In at a4; have a5 := h2; unfold In at a5; have a6 := (in_c 0 rfl); unfold In at a6; have a7 := i3d; unfold In at a7; have a8 := i3c; unfold In at a8; have a9 := i3b; unfold In at a9; have a10 := i3a; unfold In at a10; omega
    have n13a : (z3b).toInt = 0 ∨ (z3c).toInt + 1 ≤ (z3a).toInt := by have a0 := (inv_F hI 0 120 rfl e_102_4); unfold In at a0; have a1 := (inv_F hI 0 5 rfl e_46_3); unfold In at a1; have a2 := (inv_F hI 0 1000 rfl e_46_4); unfold In at a2; have a3 := r_46_1; unfold In at a3; have a4 := (inv_F hI 0 1000 rfl e_46_2); unfold In at a4; have a5 := h2; unfold In at a5; have a6 := (in_c 0 rfl); unfold In at a6; have a7 := i3d; unfold In at a7; have a8 := i3c; unfold In at a8; have a9 := i3b; unfold In at a9; have a10 := i3a; unfold In at a10; omega
    have n13b : (z3c).toInt ≤ (z3a).toInt := by have a0 := (inv_F hI 0 120 rfl e_102_4); unfold In at a0; have a1 := (inv_F hI 0 5 rfl e_46_3); unfold In at a1; have a2 := (inv_F hI 0 1000 rfl e_46_4); unfold In at a2; have a3 := r_46_1; unfold In at a3; have a4 := (inv_F hI 0 1000 rfl e_46_2); unfold In at a4; have a5 := h2; unfold In at a5; have a6 := (in_c 0 rfl); unfold In at a6; have a7 := i3d; unfold In at a7; have a8 := i3c; unfold In at a8; have a9 := i3b; unfold In at a9; have a10 := i3a; unfold In at a10; omega
    have n13c : (z3d).toInt ≤ (z3c).toInt := by have a0 := (inv_F hI 0 120 rfl e_102_4); unfold In at a0; have a1 := (inv_F hI 0 5 rfl e_46_3); unfold In at a1; have a2 := (inv_F hI 0 1000 rfl e_46_4); unfold In at a2; have a3 := r_46_1; unfold In at a3; have a4 := (inv_F hI 0 1000 rfl e_46_2); unfold In at a4; have a5 := h2; unfold In at a5; have a6 := (in_c 0 rfl); unfold In at a6; have a7 := i3d; unfold In at a7; have a8 := i3c; unfold In at a8; have a9 := i3b; unfold In at a9; have a10 := i3a; unfold In at a10; omega
    have n13d : (z3b).toInt = 2 → (z3e).toInt ≤ 999999 := by have a0 := (inv_F hI 0 120 rfl e_102_4); unfold In at a0; have a1 := (inv_F hI 0 5 rfl e_46_3); unfold In at a1; have a2 := (inv_F hI 0 1000 rfl e_46_4); unfold In at a2; have a3 := r_46_1; unfold In at a3; have a4 := (inv_F hI 0 1000 rfl e_46_2); unfold In at a4; have a5 := h2; unfold In at a5; have a6 := (in_c 0 rfl); unfold In at a6; have a7 := i3d; unfold In at a7; have a8 := i3c; unfold In at a8; have a9 := i3b; unfold In at a9; have a10 := i3a; unfold In at a10; omega
    have n13e : (u_46_4).toInt - (u_102_4).toInt ≤ (z3c).toInt - (z3d).toInt := by have a0 := (inv_F hI 0 120 rfl e_102_4); unfold In at a0; have a1 := (inv_F hI 0 5 rfl e_46_3); unfold In at a1; have a2 := (inv_F hI 0 1000 rfl e_46_4); unfold In at a2; have a3 := r_46_1; unfold In at a3; have a4 := (inv_F hI 0 1000 rfl e_46_2); unfold In at a4; have a5 := h2; unfold In at a5; have a6 := (in_c 0 rfl); unfold In at a6; have a7 := i3d; unfold In at a7; have a8 := i3c; unfold In at a8; have a9 := i3b; unfold In at a9; have a10 := i3a; unfold In at a10; omega
    have n13f : PCV s s3 1 := by exact p3 c6
    exact gg_w (by omega) (gg_f (gf_cons rfl (gf_cons rfl (gf_cons rfl (gf_cons rfl gf_nil)))) (ct13 121 s3 (Int32.ofInt 0) z3a z3c z3b z3e z3d hI3 (fr_tr rfl fr_rf hF3) (in_w 0 120 (in_c 0 rfl) rfl) e3 e3b e3a e3d e3c n13 n13a n13b n13c n13d n13e n13f (m_in 121 (in_w 0 120 (in_c 0 rfl) rfl) rfl)))
  · skip
    have i6 := z_eq 0 0 c6 i3 rfl
    refine g_iconst 0 10 (gd rfl) rfl rfl ?_
    have n10 : ((Int32.ofInt 0)).toInt ≠ 0 → PCV s s3 1 := by first | (intro _; exact g13_0) | (intro h; exact absurd rfl h)
    have n10a : (z3a).toInt ≤ (u_46_1).toInt := by have a0 := (inv_F hI 0 120 rfl e_102_4); unfold In at a0; have a1 := (inv_F hI 0 5 rfl e_46_3); unfold In at a1; have a2 := (inv_F hI 0 1000 rfl e_46_4); unfold In at a2; have a3 := r_46_1; unfold In at a3; have a4 := (inv_F hI 0 1000 rfl e_46_2); unfold In at a4; have a5 := h2; unfold In at a5; have a6 := i3d; unfold In at a6; have a7 := i3c; unfold In at a7; have a8 := i3b; unfold In at a8; have a9 := i3a; unfold In at a9; omega
    have n10b : (s3.2.2.1 46 2).toInt ≤ (s3.2.2.1 46 1).toInt := by have b0 : z3a = s3.2.2.1 46 2 := e3; have b1 : u_46_1 = s3.2.2.1 46 1 := fr_F (e_46_1) hF3 rfl; rw [← b0, ← b1]; exact n10a
    have n10c : (z3b).toInt = 0 ∨ (z3c).toInt + 1 ≤ (z3a).toInt := by have a0 := (inv_F hI 0 120 rfl e_102_4); unfold In at a0; have a1 := (inv_F hI 0 5 rfl e_46_3); unfold In at a1; have a2 := (inv_F hI 0 1000 rfl e_46_4); unfold In at a2; have a3 := r_46_1; unfold In at a3; have a4 := (inv_F hI 0 1000 rfl e_46_2); unfold In at a4; have a5 := h2; unfold In at a5; have a6 := i3d; unfold In at a6; have a7 := i3c; unfold In at a7; have a8 := i3b; unfold In at a8; have a9 := i3a; unfold In at a9; omega
    have n10d : (s3.2.2.1 46 3).toInt = 0 ∨ (s3.2.2.1 46 4).toInt + 1 ≤ (s3.2.2.1 46 2).toInt := by have b0 : z3b = s3.2.2.1 46 3 := e3a; have b1 : z3c = s3.2.2.1 46 4 := e3b; have b2 : z3a = s3.2.2.1 46 2 := e3; rw [← b0, ← b1, ← b2]; exact n10c
    have n10e : (z3c).toInt ≤ (z3a).toInt := by have a0 := (inv_F hI 0 120 rfl e_102_4); unfold In at a0; have a1 := (inv_F hI 0 5 rfl e_46_3); unfold In at a1; have a2 := (inv_F hI 0 1000 rfl e_46_4); unfold In at a2; have a3 := r_46_1; unfold In at a3; have a4 := (inv_F hI 0 1000 rfl e_46_2); unfold In at a4; have a5 := h2; unfold In at a5; have a6 := i3d; unfold In at a6; have a7 := i3c; unfold In at a7; have a8 := i3b; unfold In at a8; have a9 := i3a; unfold In at a9; omega
    have n10f : (s3.2.2.1 46 4).toInt ≤ (s3.2.2.1 46 2).toInt := by have b0 : z3c = s3.2.2.1 46 4 := e3b; have b1 : z3a = s3.2.2.1 46 2 := e3; rw [← b0, ← b1]; exact n10e
    have n10g : (z3d).toInt ≤ (z3c).toInt := by have a0 := (inv_F hI 0 120 rfl e_102_4); unfold In at a0; have a1 := (inv_F hI 0 5 rfl e_46_3); unfold In at a1; have a2 := (inv_F hI 0 1000 rfl e_46_4); unfold In at a2; have a3 := r_46_1; unfold In at a3; have a4 := (inv_F hI 0 1000 rfl e_46_2); unfold In at a4; have a5 := h2; unfold In at a5; have a6 := i3d; unfold In at a6; have a7 := i3c; unfold In at a7; have a8 := i3b; unfold In at a8; have a9 := i3a; unfold In at a9; omega
    have n10h : (s3.2.2.1 102 4).toInt ≤ (s3.2.2.1 46 4).toInt := by have b0 : z3d = s3.2.2.1 102 4 := e3c; have b1 : z3c = s3.2.2.1 46 4 := e3b; rw [← b0, ← b1]; exact n10g
    have n10i : (z3b).toInt = 2 → (z3e).toInt ≤ 999999 := by have a0 := (inv_F hI 0 120 rfl e_102_4); unfold In at a0; have a1 := (inv_F hI 0 5 rfl e_46_3); unfold In at a1; have a2 := (inv_F hI 0 1000 rfl e_46_4); unfold In at a2; have a3 := r_46_1; unfold In at a3; have a4 := (inv_F hI 0 1000 rfl e_46_2); unfold In at a4; have a5 := h2; unfold In at a5; have a6 := i3d; unfold In at a6; have a7 := i3c; unfold In at a7; have a8 := i3b; unfold In at a8; have a9 := i3a; unfold In at a9; omega
    have n10j : (s3.2.2.1 46 3).toInt = 2 → (s3.2.2.1 46 5).toInt ≤ 999999 := by have b0 : z3b = s3.2.2.1 46 3 := e3a; have b1 : z3e = s3.2.2.1 46 5 := e3d; rw [← b0, ← b1]; exact n10i
    have n10k : (u_46_4).toInt - (u_102_4).toInt ≤ (z3c).toInt - (z3d).toInt := by have a0 := (inv_F hI 0 120 rfl e_102_4); unfold In at a0; have a1 := (inv_F hI 0 5 rfl e_46_3); unfold In at a1; have a2 := (inv_F hI 0 1000 rfl e_46_4); unfold In at a2; have a3 := r_46_1; unfold In at a3; have a4 := (inv_F hI 0 1000 rfl e_46_2); unfold In at a4; have a5 := h2; unfold In at a5; have a6 := i3d; unfold In at a6; have a7 := i3c; unfold In at a7; have a8 := i3b; unfold In at a8; have a9 := i3a; unfold In at a9; omega
    have n10l : (s.2.2.1 46 4).toInt - (s.2.2.1 102 4).toInt ≤ (s3.2.2.1 46 4).toInt - (s3.2.2.1 102 4).toInt := by have b0 : z3c = s3.2.2.1 46 4 := e3b; have b1 : z3d = s3.2.2.1 102 4 := e3c; rw [← b0, ← b1, ← e_46_4, ← e_102_4]; exact n10k
    exact g_ireturn (gd rfl) rfl (nb01 (in_w 0 1 (in_c 0 rfl) rfl)) (hP _ _ ⟨s3, hI3, (fr_tr rfl fr_rf hF3), n10b, n10d, n10f, n10h, n10j, n10l, (Int32.ofInt 0), rfl, rfl, in_w 0 1 (in_c 0 rfl) rfl, n10⟩)
theorem k_59_102_46_r {Z : AmZ} {A : Nat → Nat} {ex : va_W} (kk : Nat) (ih : ∀ {s : GS} {d : Nat} {X : AmX} {x2 : Int32} {u_46_2 : Int32} {u_46_1 : Int32} {u_46_4 : Int32} {u_46_3 : Int32} {u_46_5 : Int32} {u_102_4 : Int32}, 65 + kk * 20 ≤ d → Inv s → In x2 0 10 → u_46_2 = s.2.2.1 46 2 → u_46_1 = s.2.2.1 46 1 → u_46_4 = s.2.2.1 46 4 → u_46_3 = s.2.2.1 46 3 → u_46_5 = s.2.2.1 46 5 → u_102_4 = s.2.2.1 102 4 → In u_46_1 0 120 → (u_46_2).toInt ≤ (u_46_1).toInt → (u_46_3).toInt = 0 ∨ (u_46_4).toInt + 1 ≤ (u_46_2).toInt → (u_46_4).toInt ≤ (u_46_2).toInt → (u_102_4).toInt ≤ (u_46_4).toInt → (u_46_3).toInt = 2 → (u_46_5).toInt ≤ 999999 → 10 - (x2).toInt < ((kk : Nat) : Int) → GC Z d 60 [.ref (A 102), .ref (A 46), .int x2] (WW Z A s ++ ex) 0 0 (fun v u => ∃ t : GS, Inv t ∧ Fr fm_60_102_46 s t ∧ ((t.2.2.1 46 2).toInt ≤ (t.2.2.1 46 1).toInt) ∧ ((t.2.2.1 46 3).toInt = 0 ∨ (t.2.2.1 46 4).toInt + 1 ≤ (t.2.2.1 46 2).toInt) ∧ ((t.2.2.1 46 4).toInt ≤ (t.2.2.1 46 2).toInt) ∧ ((t.2.2.1 102 4).toInt ≤ (t.2.2.1 46 4).toInt) ∧ ((t.2.2.1 46 3).toInt = 2 → (t.2.2.1 46 5).toInt ≤ 999999) ∧ ((s.2.2.1 46 4).toInt - (s.2.2.1 102 4).toInt ≤ (t.2.2.1 46 4).toInt - (t.2.2.1 102 4).toInt) ∧ ∃ z : Int32, v = some (.int z) ∧ u = WW Z A t ++ ex ∧ In z 0 1 ∧ ((z).toInt ≠ 0 → PCV s t 1)) X) : ∀ {s : GS} {d : Nat} {X : AmX} {x2 : Int32} {u_46_2 : Int32} {u_46_1 : Int32} {u_46_4 : Int32} {u_46_3 : Int32} {u_46_5 : Int32} {u_102_4 : Int32}, 70 + kk * 20 ≤ d → Inv s → In x2 0 10 → u_46_2 = s.2.2.1 46 2 → u_46_1 = s.2.2.1 46 1 → u_46_4 = s.2.2.1 46 4 → u_46_3 = s.2.2.1 46 3 → u_46_5 = s.2.2.1 46 5 → u_102_4 = s.2.2.1 102 4 → In u_46_1 0 120 → (u_46_2).toInt ≤ (u_46_1).toInt → (u_46_3).toInt = 0 ∨ (u_46_4).toInt + 1 ≤ (u_46_2).toInt → (u_46_4).toInt ≤ (u_46_2).toInt → (u_102_4).toInt ≤ (u_46_4).toInt → (u_46_3).toInt = 2 → (u_46_5).toInt ≤ 999999 → 10 - (x2).toInt < ((kk : Nat) : Int) → GC Z d 59 [.ref (A 102), .ref (A 46), .int x2] (WW Z A s ++ ex) 0 0 (fun v u => ∃ t : GS, Inv t ∧ Fr fm_59_102_46 s t ∧ ((t.2.2.1 46 2).toInt ≤ (t.2.2.1 46 1).toInt) ∧ ((t.2.2.1 46 3).toInt = 0 ∨ (t.2.2.1 46 4).toInt + 1 ≤ (t.2.2.1 46 2).toInt) ∧ ((t.2.2.1 46 4).toInt ≤ (t.2.2.1 46 2).toInt) ∧ ((t.2.2.1 102 4).toInt ≤ (t.2.2.1 46 4).toInt) ∧ ((t.2.2.1 46 3).toInt = 2 → (t.2.2.1 46 5).toInt ≤ 999999) ∧ ((s.2.2.1 46 4).toInt - (s.2.2.1 102 4).toInt ≤ (t.2.2.1 46 4).toInt - (t.2.2.1 102 4).toInt) ∧ ∃ z : Int32, v = some (.int z) ∧ u = WW Z A t ++ ex ∧ In z 0 1 ∧ ((z).toInt ≠ 0 → PCV s t 1)) X := by
  intro s d X x2 u_46_2 u_46_1 u_46_4 u_46_3 u_46_5 u_102_4 hd hI h2 e_46_2 e_46_1 e_46_4 e_46_3 e_46_5 e_102_4 r_46_1 p_0 p_1 p_2 p_3 p_4 hm
  intro post xp hP hX
  have ct13 : ∀ (k13 : Nat) (sc13 : GS) (y13_3 : Int32) (w13_46_2 : Int32) (w13_46_4 : Int32) (w13_46_3 : Int32) (w13_46_5 : Int32) (w13_102_4 : Int32), Inv sc13 → Fr fm_59_102_46 s sc13 → (In y13_3 0 120) → (w13_46_2 = sc13.2.2.1 46 2) → (w13_46_4 = sc13.2.2.1 46 4) → (w13_46_3 = sc13.2.2.1 46 3) → (w13_46_5 = sc13.2.2.1 46 5) → (w13_102_4 = sc13.2.2.1 102 4) → ((w13_46_2).toInt ≤ (u_46_1).toInt) → ((w13_46_3).toInt = 0 ∨ (w13_46_4).toInt + 1 ≤ (w13_46_2).toInt) → ((w13_46_4).toInt ≤ (w13_46_2).toInt) → ((w13_102_4).toInt ≤ (w13_46_4).toInt) → ((w13_46_3).toInt = 2 → (w13_46_5).toInt ≤ 999999) → ((u_46_4).toInt - (u_102_4).toInt ≤ (w13_46_4).toInt - (w13_102_4).toInt) → (PCV s sc13 1) → 120 - (y13_3).toInt < (k13 : Int) → GG Z (d - 1) 59 post (gx xp) (1 + k13 * 900) 13 (fun j => xlook j [(0, .ref (A 102)), (1, .ref (A 46)), (2, .int x2), (3, .int y13_3)]) [] (WW Z A sc13 ++ ex) 0 0 := by
    intro k13
    induction k13 with
    | zero => intro sc13 y13_3 w13_46_2 w13_46_4 w13_46_3 w13_46_5 w13_102_4 hIc13 hFc13 j13_3 v13_46_2 v13_46_4 v13_46_3 v13_46_5 v13_102_4 n13_0 n13_1 n13_2 n13_3 n13_4 n13_5 g13_0 mm13; exact m_no mm13 j13_3 rfl
    | succ k13 ih13 =>
      intro sc13 y13_3 w13_46_2 w13_46_4 w13_46_3 w13_46_5 w13_102_4 hIc13 hFc13 j13_3 v13_46_2 v13_46_4 v13_46_3 v13_46_5 v13_102_4 n13_0 n13_1 n13_2 n13_3 n13_4 n13_5 g13_0 mm13
      refine gg_w (M := 1 + k13 * 900 + 900) (by omega) ?_
      refine g_iload_n 14 (gd rfl) rfl rfl ?_
      refine g_bipush 120 16 (gd rfl) rfl rfl ?_
      refine g_cmp_ge 19 77 (gd rfl) rfl rfl (fun c16 => ?_) (fun c16 => ?_)
      · skip
        have i16 := r_le2 120 120 c16 (in_c 120 rfl) j13_3 rfl
        refine g_iconst 1 78 (gd rfl) rfl rfl ?_
        have n78 : ((Int32.ofInt 1)).toInt ≠ 0 → PCV s sc13 1 := by first | (intro _; exact g13_0) | (intro h; exact absurd rfl h)
        have n78a : (w13_46_2).toInt ≤ (u_46_1).toInt := by have a0 := h2; unfold In at a0; have a1 := r_46_1; unfold In at a1; have a2 := (inv_F hIc13 0 120 rfl v13_102_4); unfold In at a2; have a3 := (inv_F hIc13 0 5 rfl v13_46_3); unfold In at a3; have a4 := (inv_F hIc13 0 1000 rfl v13_46_4); unfold In at a4; have a5 := (inv_F hIc13 0 1000 rfl v13_46_2); unfold In at a5; have a6 := i16; unfold In at a6; omega
        have n78b : (sc13.2.2.1 46 2).toInt ≤ (sc13.2.2.1 46 1).toInt := by have b0 : w13_46_2 = sc13.2.2.1 46 2 := v13_46_2; have b1 : u_46_1 = sc13.2.2.1 46 1 := fr_F e_46_1 hFc13 rfl; rw [← b0, ← b1]; exact n78a
        have n78c : (w13_46_3).toInt = 0 ∨ (w13_46_4).toInt + 1 ≤ (w13_46_2).toInt := by have a0 := h2; unfold In at a0; have a1 := r_46_1; unfold In at a1; have a2 := (inv_F hIc13 0 120 rfl v13_102_4); unfold In at a2; have a3 := (inv_F hIc13 0 5 rfl v13_46_3); unfold In at a3; have a4 := (inv_F hIc13 0 1000 rfl v13_46_4); unfold In at a4; have a5 := (inv_F hIc13 0 1000 rfl v13_46_2); unfold In at a5; have a6 := i16; unfold In at a6; omega
        have n78d : (sc13.2.2.1 46 3).toInt = 0 ∨ (sc13.2.2.1 46 4).toInt + 1 ≤ (sc13.2.2.1 46 2).toInt := by have b0 : w13_46_3 = sc13.2.2.1 46 3 := v13_46_3; have b1 : w13_46_4 = sc13.2.2.1 46 4 := v13_46_4; have b2 : w13_46_2 = sc13.2.2.1 46 2 := v13_46_2; rw [← b0, ← b1, ← b2]; exact n78c
        have n78e : (w13_46_4).toInt ≤ (w13_46_2).toInt := by have a0 := h2; unfold In at a0; have a1 := r_46_1; unfold In at a1; have a2 := (inv_F hIc13 0 120 rfl v13_102_4); unfold In at a2; have a3 := (inv_F hIc13 0 5 rfl v13_46_3); unfold In at a3; have a4 := (inv_F hIc13 0 1000 rfl v13_46_4); unfold In at a4; have a5 := (inv_F hIc13 0 1000 rfl v13_46_2); unfold In at a5; have a6 := i16; unfold In at a6; omega
        have n78f : (sc13.2.2.1 46 4).toInt ≤ (sc13.2.2.1 46 2).toInt := by have b0 : w13_46_4 = sc13.2.2.1 46 4 := v13_46_4; have b1 : w13_46_2 = sc13.2.2.1 46 2 := v13_46_2; rw [← b0, ← b1]; exact n78e
        have n78g : (w13_102_4).toInt ≤ (w13_46_4).toInt := by have a0 := h2; unfold In at a0; have a1 := r_46_1; unfold In at a1; have a2 := (inv_F hIc13 0 120 rfl v13_102_4); unfold In at a2; have a3 := (inv_F hIc13 0 5 rfl v13_46_3); unfold In at a3; have a4 := (inv_F hIc13 0 1000 rfl v13_46_4); unfold In at a4; have a5 := (inv_F hIc13 0 1000 rfl v13_46_2); unfold In at a5; have a6 := i16; unfold In at a6; omega
        have n78h : (sc13.2.2.1 102 4).toInt ≤ (sc13.2.2.1 46 4).toInt := by have b0 : w13_102_4 = sc13.2.2.1 102 4 := v13_102_4; have b1 : w13_46_4 = sc13.2.2.1 46 4 := v13_46_4; rw [← b0, ← b1]; exact n78g
        have n78i : (w13_46_3).toInt = 2 → (w13_46_5).toInt ≤ 999999 := by have a0 := h2; unfold In at a0; have a1 := r_46_1; unfold In at a1; have a2 := (inv_F hIc13 0 120 rfl v13_102_4); unfold In at a2; have a3 := (inv_F hIc13 0 5 rfl v13_46_3); unfold In at a3; have a4 := (inv_F hIc13 0 1000 rfl v13_46_4); unfold In at a4; have a5 := (inv_F hIc13 0 1000 rfl v13_46_2); unfold In at a5; have a6 := i16; unfold In at a6; omega
        have n78j : (sc13.2.2.1 46 3).toInt = 2 → (sc13.2.2.1 46 5).toInt ≤ 999999 := by have b0 : w13_46_3 = sc13.2.2.1 46 3 := v13_46_3; have b1 : w13_46_5 = sc13.2.2.1 46 5 := v13_46_5; rw [← b0, ← b1]; exact n78i
        have n78k : (u_46_4).toInt - (u_102_4).toInt ≤ (w13_46_4).toInt - (w13_102_4).toInt := by have a0 := h2; unfold In at a0; have a1 := r_46_1; unfold In at a1; have a2 := (inv_F hIc13 0 120 rfl v13_102_4); unfold In at a2; have a3 := (inv_F hIc13 0 5 rfl v13_46_3); unfold In at a3; have a4 := (inv_F hIc13 0 1000 rfl v13_46_4); unfold In at a4; have a5 := (inv_F hIc13 0 1000 rfl v13_46_2); unfold In at a5; have a6 := i16; unfold In at a6; omega
        have n78l : (s.2.2.1 46 4).toInt - (s.2.2.1 102 4).toInt ≤ (sc13.2.2.1 46 4).toInt - (sc13.2.2.1 102 4).toInt := by have b0 : w13_46_4 = sc13.2.2.1 46 4 := v13_46_4; have b1 : w13_102_4 = sc13.2.2.1 102 4 := v13_102_4; rw [← b0, ← b1, ← e_46_4, ← e_102_4]; exact n78k
        exact g_ireturn (gd rfl) rfl (nb01 (in_w 0 1 (in_c 1 rfl) rfl)) (hP _ _ ⟨sc13, hIc13, hFc13, n78b, n78d, n78f, n78h, n78j, n78l, (Int32.ofInt 1), rfl, rfl, in_w 0 1 (in_c 1 rfl) rfl, n78⟩)
      · skip
        have i16 := r_lt1 0 119 c16 j13_3 (in_c 120 rfl) rfl
        refine g_aload_n 20 (gd rfl) rfl rfl ?_
        refine g_bipush 43 22 (gd rfl) rfl rfl ?_
        refine g_callv (X := _) (As := [.int (Int32.ofInt 43)]) (r := []) (b := A 46) (q := 46) 25 (gd rfl) rfl rfl rfl rfl rfl (ww_o rfl) (Nat.le_of_ble_eq_true rfl) (mc := 0) (ms := 0) (Nat.zero_le _) (Nat.zero_le _) (P := fun v u => _) ?_ (fun e u h => h) (fun v u h => h)
        intro po22 xx22 hp22 hx22
        refine g_enter2 (k := 170) (N := 300) (by omega) rfl (Nat.le_of_ble_eq_true rfl) ?_
        refine g_aload_n 1 (gd rfl) rfl rfl ?_
        refine g_getI 4 (gd rfl) rfl rfl rfl (fun z22x1 e22x1 => ?_)
        have q22x1 : w13_46_3 = z22x1 := (v13_46_3).trans e22x1.symm
        subst q22x1
        refine g_iconst 3 5 (gd rfl) rfl rfl ?_
        refine g_cmp_ne 8 20 (gd rfl) rfl rfl (fun c22x5 => ?_) (fun c22x5 => ?_)
        · skip
          refine g_iconst 0 21 (gd rfl) rfl rfl ?_
          refine g_ireturn (gd rfl) rfl (nb01 (in_w 0 1 (in_c 0 rfl) rfl)) (hp22 _ _ ?_)
          show GG _ _ _ _ _ _ _ _ [.int (Int32.ofInt 0)] _ _ _
          refine g_if_ne 28 37 (gd rfl) rfl rfl (fun c25 => ?_) (fun c25 => ?_)
          · skip
            exact zn_ne c25 (in_c 0 rfl) rfl
          · skip
            refine g_aload_n 29 (gd rfl) rfl rfl ?_
            refine g_bipush 45 31 (gd rfl) rfl rfl ?_
            refine g_callv (X := _) (As := [.int (Int32.ofInt 45)]) (r := []) (b := A 46) (q := 46) 34 (gd rfl) rfl rfl rfl rfl rfl (ww_o rfl) (Nat.le_of_ble_eq_true rfl) (mc := 0) (ms := 0) (Nat.zero_le _) (Nat.zero_le _) (P := fun v u => _) ?_ (fun e u h => h) (fun v u h => h)
            intro po31 xx31 hp31 hx31
            refine g_enter2 (k := 170) (N := 300) (by omega) rfl (Nat.le_of_ble_eq_true rfl) ?_
            refine g_aload_n 1 (gd rfl) rfl rfl ?_
            refine g_getI 4 (gd rfl) rfl rfl rfl (fun z31x1 e31x1 => ?_)
            have q31x1 : w13_46_3 = z31x1 := (v13_46_3).trans e31x1.symm
            subst q31x1
            refine g_iconst 3 5 (gd rfl) rfl rfl ?_
            refine g_cmp_ne 8 20 (gd rfl) rfl rfl (fun c31x5 => ?_) (fun c31x5 => ?_)
            · skip
              refine g_iconst 0 21 (gd rfl) rfl rfl ?_
              refine g_ireturn (gd rfl) rfl (nb01 (in_w 0 1 (in_c 0 rfl) rfl)) (hp31 _ _ ?_)
              show GG _ _ _ _ _ _ _ _ [.int (Int32.ofInt 0)] _ _ _
              refine g_if_eq 37 77 (gd rfl) rfl rfl (fun c34 => ?_) (fun c34 => ?_)
              · skip
                refine g_iconst 1 78 (gd rfl) rfl rfl ?_
                have n78 : ((Int32.ofInt 1)).toInt ≠ 0 → PCV s sc13 1 := by first | (intro _; exact g13_0) | (intro h; exact absurd rfl h)
                have n78a : (w13_46_2).toInt ≤ (u_46_1).toInt := by have a0 := h2; unfold In at a0; have a1 := r_46_1; unfold In at a1; have a2 := (inv_F hIc13 0 120 rfl v13_102_4); unfold In at a2; have a3 := (inv_F hIc13 0 5 rfl v13_46_3); unfold In at a3; have a4 := (inv_F hIc13 0 1000 rfl v13_46_4); unfold In at a4; have a5 := (inv_F hIc13 0 1000 rfl v13_46_2); unfold In at a5; have a6 := i16; unfold In at a6; omega
                have n78b : (sc13.2.2.1 46 2).toInt ≤ (sc13.2.2.1 46 1).toInt := by have b0 : w13_46_2 = sc13.2.2.1 46 2 := v13_46_2; have b1 : u_46_1 = sc13.2.2.1 46 1 := fr_F e_46_1 hFc13 rfl; rw [← b0, ← b1]; exact n78a
                have n78c : (w13_46_3).toInt = 0 ∨ (w13_46_4).toInt + 1 ≤ (w13_46_2).toInt := by have a0 := h2; unfold In at a0; have a1 := r_46_1; unfold In at a1; have a2 := (inv_F hIc13 0 120 rfl v13_102_4); unfold In at a2; have a3 := (inv_F hIc13 0 5 rfl v13_46_3); unfold In at a3; have a4 := (inv_F hIc13 0 1000 rfl v13_46_4); unfold In at a4; have a5 := (inv_F hIc13 0 1000 rfl v13_46_2); unfold In at a5; have a6 := i16; unfold In at a6; omega
                have n78d : (sc13.2.2.1 46 3).toInt = 0 ∨ (sc13.2.2.1 46 4).toInt + 1 ≤ (sc13.2.2.1 46 2).toInt := by have b0 : w13_46_3 = sc13.2.2.1 46 3 := v13_46_3; have b1 : w13_46_4 = sc13.2.2.1 46 4 := v13_46_4; have b2 : w13_46_2 = sc13.2.2.1 46 2 := v13_46_2; rw [← b0, ← b1, ← b2]; exact n78c
                have n78e : (w13_46_4).toInt ≤ (w13_46_2).toInt := by have a0 := h2; unfold In at a0; have a1 := r_46_1; unfold In at a1; have a2 := (inv_F hIc13 0 120 rfl v13_102_4); unfold In at a2; have a3 := (inv_F hIc13 0 5 rfl v13_46_3); unfold In at a3; have a4 := (inv_F hIc13 0 1000 rfl v13_46_4); unfold In at a4; have a5 := (inv_F hIc13 0 1000 rfl v13_46_2); unfold In at a5; have a6 := i16; unfold In at a6; omega
                have n78f : (sc13.2.2.1 46 4).toInt ≤ (sc13.2.2.1 46 2).toInt := by have b0 : w13_46_4 = sc13.2.2.1 46 4 := v13_46_4; have b1 : w13_46_2 = sc13.2.2.1 46 2 := v13_46_2; rw [← b0, ← b1]; exact n78e
                have n78g : (w13_102_4).toInt ≤ (w13_46_4).toInt := by have a0 := h2; unfold In at a0; have a1 := r_46_1; unfold In at a1; have a2 := (inv_F hIc13 0 120 rfl v13_102_4); unfold In at a2; have a3 := (inv_F hIc13 0 5 rfl v13_46_3); unfold In at a3; have a4 := (inv_F hIc13 0 1000 rfl v13_46_4); unfold In at a4; have a5 := (inv_F hIc13 0 1000 rfl v13_46_2); unfold In at a5; have a6 := i16; unfold In at a6; omega
                have n78h : (sc13.2.2.1 102 4).toInt ≤ (sc13.2.2.1 46 4).toInt := by have b0 : w13_102_4 = sc13.2.2.1 102 4 := v13_102_4; have b1 : w13_46_4 = sc13.2.2.1 46 4 := v13_46_4; rw [← b0, ← b1]; exact n78g
                have n78i : (w13_46_3).toInt = 2 → (w13_46_5).toInt ≤ 999999 := by have a0 := h2; unfold In at a0; have a1 := r_46_1; unfold In at a1; have a2 := (inv_F hIc13 0 120 rfl v13_102_4); unfold In at a2; have a3 := (inv_F hIc13 0 5 rfl v13_46_3); unfold In at a3; have a4 := (inv_F hIc13 0 1000 rfl v13_46_4); unfold In at a4; have a5 := (inv_F hIc13 0 1000 rfl v13_46_2); unfold In at a5; have a6 := i16; unfold In at a6; omega
                have n78j : (sc13.2.2.1 46 3).toInt = 2 → (sc13.2.2.1 46 5).toInt ≤ 999999 := by have b0 : w13_46_3 = sc13.2.2.1 46 3 := v13_46_3; have b1 : w13_46_5 = sc13.2.2.1 46 5 := v13_46_5; rw [← b0, ← b1]; exact n78i
                have n78k : (u_46_4).toInt - (u_102_4).toInt ≤ (w13_46_4).toInt - (w13_102_4).toInt := by have a0 := h2; unfold In at a0; have a1 := r_46_1; unfold In at a1; have a2 := (inv_F hIc13 0 120 rfl v13_102_4); unfold In at a2; have a3 := (inv_F hIc13 0 5 rfl v13_46_3); unfold In at a3; have a4 := (inv_F hIc13 0 1000 rfl v13_46_4); unfold In at a4; have a5 := (inv_F hIc13 0 1000 rfl v13_46_2); unfold In at a5; have a6 := i16; unfold In at a6; omega
                have n78l : (s.2.2.1 46 4).toInt - (s.2.2.1 102 4).toInt ≤ (sc13.2.2.1 46 4).toInt - (sc13.2.2.1 102 4).toInt := by have b0 : w13_46_4 = sc13.2.2.1 46 4 := v13_46_4; have b1 : w13_102_4 = sc13.2.2.1 102 4 := v13_102_4; rw [← b0, ← b1, ← e_46_4, ← e_102_4]; exact n78k
                exact g_ireturn (gd rfl) rfl (nb01 (in_w 0 1 (in_c 1 rfl) rfl)) (hP _ _ ⟨sc13, hIc13, hFc13, n78b, n78d, n78f, n78h, n78j, n78l, (Int32.ofInt 1), rfl, rfl, in_w 0 1 (in_c 1 rfl) rfl, n78⟩)
              · skip
                exact zn_ne c34 (in_c 0 rfl) rfl
            · skip
              exact absurd c31x5 c22x5
        · skip
          have i22x5 := r_eq1 3 3 c22x5 (inv_F hIc13 0 5 rfl v13_46_3) (in_c 3 rfl) rfl
          refine g_aload_n 9 (gd rfl) rfl rfl ?_
          refine g_getI 12 (gd rfl) rfl rfl rfl (fun z22x9 e22x9 => ?_)
          have q22x9 : w13_46_5 = z22x9 := (v13_46_5).trans e22x9.symm
          subst q22x9
          refine g_iload_n 13 (gd rfl) rfl rfl ?_
          refine g_cmp_ne 16 20 (gd rfl) rfl rfl (fun c22x13 => ?_) (fun c22x13 => ?_)
          · skip
            refine g_iconst 0 21 (gd rfl) rfl rfl ?_
            refine g_ireturn (gd rfl) rfl (nb01 (in_w 0 1 (in_c 0 rfl) rfl)) (hp22 _ _ ?_)
            show GG _ _ _ _ _ _ _ _ [.int (Int32.ofInt 0)] _ _ _
            refine g_if_ne 28 37 (gd rfl) rfl rfl (fun c25 => ?_) (fun c25 => ?_)
            · skip
              exact zn_ne c25 (in_c 0 rfl) rfl
            · skip
              refine g_aload_n 29 (gd rfl) rfl rfl ?_
              refine g_bipush 45 31 (gd rfl) rfl rfl ?_
              refine g_callv (X := _) (As := [.int (Int32.ofInt 45)]) (r := []) (b := A 46) (q := 46) 34 (gd rfl) rfl rfl rfl rfl rfl (ww_o rfl) (Nat.le_of_ble_eq_true rfl) (mc := 0) (ms := 0) (Nat.zero_le _) (Nat.zero_le _) (P := fun v u => _) ?_ (fun e u h => h) (fun v u h => h)
              intro po31 xx31 hp31 hx31
              refine g_enter2 (k := 170) (N := 300) (by omega) rfl (Nat.le_of_ble_eq_true rfl) ?_
              refine g_aload_n 1 (gd rfl) rfl rfl ?_
              refine g_getI 4 (gd rfl) rfl rfl rfl (fun z31x1 e31x1 => ?_)
              have q31x1 : w13_46_3 = z31x1 := (v13_46_3).trans e31x1.symm
              subst q31x1
              refine g_iconst 3 5 (gd rfl) rfl rfl ?_
              refine g_cmp_ne 8 20 (gd rfl) rfl rfl (fun c31x5 => ?_) (fun c31x5 => ?_)
              · skip
                exact n_ne c31x5 i22x5 (in_c 3 rfl) rfl
              · skip
                refine g_aload_n 9 (gd rfl) rfl rfl ?_
                refine g_getI 12 (gd rfl) rfl rfl rfl (fun z31x9 e31x9 => ?_)
                have q31x9 : w13_46_5 = z31x9 := (v13_46_5).trans e31x9.symm
                subst q31x9
                refine g_iload_n 13 (gd rfl) rfl rfl ?_
                refine g_cmp_ne 16 20 (gd rfl) rfl rfl (fun c31x13 => ?_) (fun c31x13 => ?_)
                · skip
                  refine g_iconst 0 21 (gd rfl) rfl rfl ?_
                  refine g_ireturn (gd rfl) rfl (nb01 (in_w 0 1 (in_c 0 rfl) rfl)) (hp31 _ _ ?_)
                  show GG _ _ _ _ _ _ _ _ [.int (Int32.ofInt 0)] _ _ _
                  refine g_if_eq 37 77 (gd rfl) rfl rfl (fun c34 => ?_) (fun c34 => ?_)
                  · skip
                    refine g_iconst 1 78 (gd rfl) rfl rfl ?_
                    have n78 : ((Int32.ofInt 1)).toInt ≠ 0 → PCV s sc13 1 := by first | (intro _; exact g13_0) | (intro h; exact absurd rfl h)
                    have n78a : (w13_46_2).toInt ≤ (u_46_1).toInt := by have a0 := h2; unfold In at a0; have a1 := r_46_1; unfold In at a1; have a2 := (inv_F hIc13 0 120 rfl v13_102_4); unfold In at a2; have a3 := i22x5; unfold In at a3; have a4 := (inv_F hIc13 0 1000 rfl v13_46_4); unfold In at a4; have a5 := (inv_F hIc13 0 1000 rfl v13_46_2); unfold In at a5; have a6 := i16; unfold In at a6; omega
                    have n78b : (sc13.2.2.1 46 2).toInt ≤ (sc13.2.2.1 46 1).toInt := by have b0 : w13_46_2 = sc13.2.2.1 46 2 := v13_46_2; have b1 : u_46_1 = sc13.2.2.1 46 1 := fr_F e_46_1 hFc13 rfl; rw [← b0, ← b1]; exact n78a
                    have n78c : (w13_46_3).toInt = 0 ∨ (w13_46_4).toInt + 1 ≤ (w13_46_2).toInt := by have a0 := h2; unfold In at a0; have a1 := r_46_1; unfold In at a1; have a2 := (inv_F hIc13 0 120 rfl v13_102_4); unfold In at a2; have a3 := i22x5; unfold In at a3; have a4 := (inv_F hIc13 0 1000 rfl v13_46_4); unfold In at a4; have a5 := (inv_F hIc13 0 1000 rfl v13_46_2); unfold In at a5; have a6 := i16; unfold In at a6; omega
                    have n78d : (sc13.2.2.1 46 3).toInt = 0 ∨ (sc13.2.2.1 46 4).toInt + 1 ≤ (sc13.2.2.1 46 2).toInt := by have b0 : w13_46_3 = sc13.2.2.1 46 3 := v13_46_3; have b1 : w13_46_4 = sc13.2.2.1 46 4 := v13_46_4; have b2 : w13_46_2 = sc13.2.2.1 46 2 := v13_46_2; rw [← b0, ← b1, ← b2]; exact n78c
                    have n78e : (w13_46_4).toInt ≤ (w13_46_2).toInt := by have a0 := h2; unfold In at a0; have a1 := r_46_1; unfold In at a1; have a2 := (inv_F hIc13 0 120 rfl v13_102_4); unfold In at a2; have a3 := i22x5; unfold In at a3; have a4 := (inv_F hIc13 0 1000 rfl v13_46_4); unfold In at a4; have a5 := (inv_F hIc13 0 1000 rfl v13_46_2); unfold In at a5; have a6 := i16; unfold In at a6; omega
                    have n78f : (sc13.2.2.1 46 4).toInt ≤ (sc13.2.2.1 46 2).toInt := by have b0 : w13_46_4 = sc13.2.2.1 46 4 := v13_46_4; have b1 : w13_46_2 = sc13.2.2.1 46 2 := v13_46_2; rw [← b0, ← b1]; exact n78e
                    have n78g : (w13_102_4).toInt ≤ (w13_46_4).toInt := by have a0 := h2; unfold In at a0; have a1 := r_46_1; unfold In at a1; have a2 := (inv_F hIc13 0 120 rfl v13_102_4); unfold In at a2; have a3 := i22x5; unfold In at a3; have a4 := (inv_F hIc13 0 1000 rfl v13_46_4); unfold In at a4; have a5 := (inv_F hIc13 0 1000 rfl v13_46_2); unfold In at a5; have a6 := i16; unfold In at a6; omega
                    have n78h : (sc13.2.2.1 102 4).toInt ≤ (sc13.2.2.1 46 4).toInt := by have b0 : w13_102_4 = sc13.2.2.1 102 4 := v13_102_4; have b1 : w13_46_4 = sc13.2.2.1 46 4 := v13_46_4; rw [← b0, ← b1]; exact n78g
                    have n78i : (w13_46_3).toInt = 2 → (w13_46_5).toInt ≤ 999999 := by have a0 := h2; unfold In at a0; have a1 := r_46_1; unfold In at a1; have a2 := (inv_F hIc13 0 120 rfl v13_102_4); unfold In at a2; have a3 := i22x5; unfold In at a3; have a4 := (inv_F hIc13 0 1000 rfl v13_46_4); unfold In at a4; have a5 := (inv_F hIc13 0 1000 rfl v13_46_2); unfold In at a5; have a6 := i16; unfold In at a6; omega
                    have n78j : (sc13.2.2.1 46 3).toInt = 2 → (sc13.2.2.1 46 5).toInt ≤ 999999 := by have b0 : w13_46_3 = sc13.2.2.1 46 3 := v13_46_3; have b1 : w13_46_5 = sc13.2.2.1 46 5 := v13_46_5; rw [← b0, ← b1]; exact n78i
                    have n78k : (u_46_4).toInt - (u_102_4).toInt ≤ (w13_46_4).toInt - (w13_102_4).toInt := by have a0 := h2; unfold In at a0; have a1 := r_46_1; unfold In at a1; have a2 := (inv_F hIc13 0 120 rfl v13_102_4); unfold In at a2; have a3 := i22x5; unfold In at a3; have a4 := (inv_F hIc13 0 1000 rfl v13_46_4); unfold In at a4; have a5 := (inv_F hIc13 0 1000 rfl v13_46_2); unfold In at a5; have a6 := i16; unfold In at a6; omega
                    have n78l : (s.2.2.1 46 4).toInt - (s.2.2.1 102 4).toInt ≤ (sc13.2.2.1 46 4).toInt - (sc13.2.2.1 102 4).toInt := by have b0 : w13_46_4 = sc13.2.2.1 46 4 := v13_46_4; have b1 : w13_102_4 = sc13.2.2.1 102 4 := v13_102_4; rw [← b0, ← b1, ← e_46_4, ← e_102_4]; exact n78k
                    exact g_ireturn (gd rfl) rfl (nb01 (in_w 0 1 (in_c 1 rfl) rfl)) (hP _ _ ⟨sc13, hIc13, hFc13, n78b, n78d, n78f, n78h, n78j, n78l, (Int32.ofInt 1), rfl, rfl, in_w 0 1 (in_c 1 rfl) rfl, n78⟩)
                  · skip
                    exact zn_ne c34 (in_c 0 rfl) rfl
                · skip
                  have i31x13 := r_eq1 45 45 c31x13 (inv_F hIc13 (-2147483648) 2147483647 rfl v13_46_5) (in_c 45 rfl) rfl
                  refine g_iconst 1 17 (gd rfl) rfl rfl ?_
                  refine g_goto 21 (gd rfl) rfl ?_
                  refine g_ireturn (gd rfl) rfl (nb01 (in_w 0 1 (in_c 1 rfl) rfl)) (hp31 _ _ ?_)
                  show GG _ _ _ _ _ _ _ _ [.int (Int32.ofInt 1)] _ _ _
                  refine g_if_eq 37 77 (gd rfl) rfl rfl (fun c34 => ?_) (fun c34 => ?_)
                  · skip
                    exact zn_eq c34 (in_c 1 rfl) rfl
                  · skip
                    refine g_aload_n 38 (gd rfl) rfl rfl ?_
                    refine g_getI 41 (gd rfl) rfl rfl rfl (fun z38 e38 => ?_)
                    have q38 : w13_46_5 = z38 := (v13_46_5).trans e38.symm
                    subst q38
                    refine g_istore 43 (gd rfl) rfl (Nat.le_of_ble_eq_true rfl) ?_
                    refine g_aload_n 44 (gd rfl) rfl rfl ?_
                    refine g_bipush 6 46 (gd rfl) rfl rfl ?_
                    refine g_iconst 0 47 (gd rfl) rfl rfl ?_
                    have v47 : u_46_1 = sc13.2.2.1 46 1 := fr_F e_46_1 hFc13 rfl
                    have n47 : (w13_46_2).toInt ≤ (u_46_1).toInt := by have a0 := h2; unfold In at a0; have a1 := r_46_1; unfold In at a1; have a2 := (inv_F hIc13 0 120 rfl v13_102_4); unfold In at a2; have a3 := i31x13; unfold In at a3; have a4 := i22x5; unfold In at a4; have a5 := (inv_F hIc13 0 1000 rfl v13_46_4); unfold In at a5; have a6 := (inv_F hIc13 0 1000 rfl v13_46_2); unfold In at a6; have a7 := i16; unfold In at a7; omega
                    refine g_callv (X := _) (As := [.int (Int32.ofInt 6), .int (Int32.ofInt 0)]) (r := []) (b := A 46) (q := 46) 50 (gd rfl) rfl rfl rfl rfl rfl (ww_o rfl) (Nat.le_of_ble_eq_true rfl) (Nat.zero_le _) (Nat.zero_le _) (k_171_46 (by omega) hIc13 (in_w 6 7 (in_c 6 rfl) rfl) (in_w 0 1 (in_c 0 rfl) rfl) v13_46_2 v47 n47) (fun e u h => h) (fun v u h => ?_)
                    obtain ⟨s47, hI47, hF47, n47a, n47b, n47c, n47d, rfl, rfl, p47⟩ := h
                    obtain ⟨z47a, e47⟩ : ∃ w, w = s47.2.2.1 46 2 := ⟨_, rfl⟩
                    have i47a := inv_F hI47 0 1000 rfl e47
                    obtain ⟨z47b, e47a⟩ : ∃ w, w = s47.2.2.1 46 3 := ⟨_, rfl⟩
                    have i47b := inv_F hI47 0 5 rfl e47a
                    obtain ⟨z47c, e47b⟩ : ∃ w, w = s47.2.2.1 46 4 := ⟨_, rfl⟩
                    have i47c := inv_F hI47 0 1000 rfl e47b
                    rw [← (show z47a = s47.2.2.1 46 2 from e47)] at n47a
                    rw [← (show u_46_1 = s47.2.2.1 46 1 from fr_F (fr_F e_46_1 hFc13 rfl) hF47 rfl)] at n47a
                    rw [← (show z47a = s47.2.2.1 46 2 from e47)] at n47b
                    rw [← (show z47b = s47.2.2.1 46 3 from e47a)] at n47b
                    rw [← (show z47c = s47.2.2.1 46 4 from e47b)] at n47b
                    rw [← (show z47a = s47.2.2.1 46 2 from e47)] at n47c
                    rw [← (show z47c = s47.2.2.1 46 4 from e47b)] at n47c
                    rw [← (show w13_46_2 = sc13.2.2.1 46 2 from v13_46_2)] at n47d
                    rw [← (show z47c = s47.2.2.1 46 4 from e47b)] at n47d
                    show GG _ _ _ _ _ _ _ _ [] _ _ _
                    have hv47 := p47 (by decide); rw [← (show z47b = s47.2.2.1 46 3 from e47a)] at hv47
                    refine g_aload_n 51 (gd rfl) rfl rfl ?_
                    refine g_aload_n 52 (gd rfl) rfl rfl ?_
                    refine g_iload_n 53 (gd rfl) rfl rfl ?_
                    have v53 : u_46_1 = s47.2.2.1 46 1 := fr_F (fr_F e_46_1 hFc13 rfl) hF47 rfl
                    have v53a : w13_102_4 = s47.2.2.1 102 4 := fr_F (v13_102_4) hF47 rfl
                    have n53 : (z47a).toInt ≤ (u_46_1).toInt := by have a0 := h2; unfold In at a0; have a1 := r_46_1; unfold In at a1; have a2 := (inv_F hIc13 0 120 rfl v13_102_4); unfold In at a2; have a3 := i31x13; unfold In at a3; have a4 := i22x5; unfold In at a4; have a5 := (inv_F hIc13 0 1000 rfl v13_46_4); unfold In at a5; have a6 := (inv_F hIc13 0 1000 rfl v13_46_2); unfold In at a6; have a7 := i16; unfold In at a7; have a8 := i47c; unfold In at a8; have a9 := i47b; unfold In at a9; have a10 := i47a; unfold In at a10; omega
                    have n53a : (z47b).toInt = 0 ∨ (z47c).toInt + 1 ≤ (z47a).toInt := by have a0 := h2; unfold In at a0; have a1 := r_46_1; unfold In at a1; have a2 := (inv_F hIc13 0 120 rfl v13_102_4); unfold In at a2; have a3 := i31x13; unfold In at a3; have a4 := i22x5; unfold In at a4; have a5 := (inv_F hIc13 0 1000 rfl v13_46_4); unfold In at a5; have a6 := (inv_F hIc13 0 1000 rfl v13_46_2); unfold In at a6; have a7 := i16; unfold In at a7; have a8 := i47c; unfold In at a8; have a9 := i47b; unfold In at a9; have a10 := i47a; unfold In at a10; omega
                    have n53b : (z47c).toInt ≤ (z47a).toInt := by have a0 := h2; unfold In at a0; have a1 := r_46_1; unfold In at a1; have a2 := (inv_F hIc13 0 120 rfl v13_102_4); unfold In at a2; have a3 := i31x13; unfold In at a3; have a4 := i22x5; unfold In at a4; have a5 := (inv_F hIc13 0 1000 rfl v13_46_4); unfold In at a5; have a6 := (inv_F hIc13 0 1000 rfl v13_46_2); unfold In at a6; have a7 := i16; unfold In at a7; have a8 := i47c; unfold In at a8; have a9 := i47b; unfold In at a9; have a10 := i47a; unfold In at a10; omega
                    have n53c : (w13_102_4).toInt ≤ (z47c).toInt := by have a0 := h2; unfold In at a0; have a1 := r_46_1; unfold In at a1; have a2 := (inv_F hIc13 0 120 rfl v13_102_4); unfold In at a2; have a3 := i31x13; unfold In at a3; have a4 := i22x5; unfold In at a4; have a5 := (inv_F hIc13 0 1000 rfl v13_46_4); unfold In at a5; have a6 := (inv_F hIc13 0 1000 rfl v13_46_2); unfold In at a6; have a7 := i16; unfold In at a7; have a8 := i47c; unfold In at a8; have a9 := i47b; unfold In at a9; have a10 := i47a; unfold In at a10; omega
                    have n53d : (z47b).toInt = 2 → ((s47.2.2.1 46 5)).toInt ≤ 999999 := by have a0 := h2; unfold In at a0; have a1 := r_46_1; unfold In at a1; have a2 := (inv_F hIc13 0 120 rfl v13_102_4); unfold In at a2; have a3 := i31x13; unfold In at a3; have a4 := i22x5; unfold In at a4; have a5 := (inv_F hIc13 0 1000 rfl v13_46_4); unfold In at a5; have a6 := (inv_F hIc13 0 1000 rfl v13_46_2); unfold In at a6; have a7 := i16; unfold In at a7; have a8 := i47c; unfold In at a8; have a9 := i47b; unfold In at a9; have a10 := i47a; unfold In at a10; omega
                    have n53e : 10 - (x2).toInt < ((kk : Nat) : Int) := by have a0 := h2; unfold In at a0; have a1 := r_46_1; unfold In at a1; have a2 := (inv_F hIc13 0 120 rfl v13_102_4); unfold In at a2; have a3 := i31x13; unfold In at a3; have a4 := i22x5; unfold In at a4; have a5 := (inv_F hIc13 0 1000 rfl v13_46_4); unfold In at a5; have a6 := (inv_F hIc13 0 1000 rfl v13_46_2); unfold In at a6; have a7 := i16; unfold In at a7; have a8 := i47c; unfold In at a8; have a9 := i47b; unfold In at a9; have a10 := i47a; unfold In at a10; omega
                    refine g_callv (X := _) (As := [.ref (A 46), .int x2]) (r := []) (b := A 102) (q := 102) 56 (gd rfl) rfl rfl rfl rfl rfl (ww_o rfl) (Nat.le_of_ble_eq_true rfl) (Nat.zero_le _) (Nat.zero_le _) (ih (by omega) hI47 (in_w 0 10 h2 rfl) e47 v53 e47b e47a rfl v53a (in_w 0 120 r_46_1 rfl) n53 n53a n53b n53c n53d n53e) (fun e u h => h) (fun v u h => ?_)
                    obtain ⟨s53, hI53, hF53, n53f, n53g, n53h, n53i, n53j, n53k, z53, rfl, rfl, i53, p53⟩ := h
                    obtain ⟨z53a, e53⟩ : ∃ w, w = s53.2.2.1 46 2 := ⟨_, rfl⟩
                    have i53a := inv_F hI53 0 1000 rfl e53
                    obtain ⟨z53b, e53a⟩ : ∃ w, w = s53.2.2.1 46 3 := ⟨_, rfl⟩
                    have i53b := inv_F hI53 0 5 rfl e53a
                    obtain ⟨z53c, e53b⟩ : ∃ w, w = s53.2.2.1 46 4 := ⟨_, rfl⟩
                    have i53c := inv_F hI53 0 1000 rfl e53b
                    obtain ⟨z53d, e53c⟩ : ∃ w, w = s53.2.2.1 102 4 := ⟨_, rfl⟩
                    have i53d := inv_F hI53 0 120 rfl e53c
                    obtain ⟨z53e, e53d⟩ : ∃ w, w = s53.2.2.1 46 5 := ⟨_, rfl⟩
                    rw [← (show z53a = s53.2.2.1 46 2 from e53)] at n53f
                    rw [← (show u_46_1 = s53.2.2.1 46 1 from fr_F (fr_F (fr_F e_46_1 hFc13 rfl) hF47 rfl) hF53 rfl)] at n53f
                    rw [← (show z53a = s53.2.2.1 46 2 from e53)] at n53g
                    rw [← (show z53b = s53.2.2.1 46 3 from e53a)] at n53g
                    rw [← (show z53c = s53.2.2.1 46 4 from e53b)] at n53g
                    rw [← (show z53a = s53.2.2.1 46 2 from e53)] at n53h
                    rw [← (show z53c = s53.2.2.1 46 4 from e53b)] at n53h
                    rw [← (show z53c = s53.2.2.1 46 4 from e53b)] at n53i
                    rw [← (show z53d = s53.2.2.1 102 4 from e53c)] at n53i
                    rw [← (show z53b = s53.2.2.1 46 3 from e53a)] at n53j
                    rw [← (show z53e = s53.2.2.1 46 5 from e53d)] at n53j
                    rw [← (show z47c = s47.2.2.1 46 4 from e47b)] at n53k
                    rw [← (show w13_102_4 = s47.2.2.1 102 4 from fr_F (v13_102_4) hF47 rfl)] at n53k
                    rw [← (show z53c = s53.2.2.1 46 4 from e53b)] at n53k
                    rw [← (show z53d = s53.2.2.1 102 4 from e53c)] at n53k
                    show GG _ _ _ _ _ _ _ _ [.int z53] _ _ _
                    refine g_if_ne 59 61 (gd rfl) rfl rfl (fun c56 => ?_) (fun c56 => ?_)
                    · skip
                      have i56 := z_ne 1 1 c56 i53 rfl
                      refine g_aload_n 62 (gd rfl) rfl rfl ?_
                      refine g_ldc 1000100 64 (gd rfl) rfl rfl ?_
                      refine g_iload 66 (gd rfl) rfl rfl ?_
                      refine g_iadd 67 (gd rfl) rfl (fun z66 e66 => ?_)
                      have i66 := in_add 1000145 1000145 e66 (in_c 1000100 rfl) i31x13 rfl rfl
                      have hD : (s53.2.2.1 102 4).toInt < 120 := (by rw [← (show z53d = s53.2.2.1 102 4 from e53c)]; have a0 := h2; unfold In at a0; have a1 := r_46_1; unfold In at a1; have a2 := (inv_F hIc13 0 120 rfl v13_102_4); unfold In at a2; have a3 := i31x13; unfold In at a3; have a4 := i22x5; unfold In at a4; have a5 := (inv_F hIc13 0 1000 rfl v13_46_4); unfold In at a5; have a6 := (inv_F hIc13 0 1000 rfl v13_46_2); unfold In at a6; have a7 := i16; unfold In at a7; have a8 := i53d; unfold In at a8; have a9 := i53c; unfold In at a9; have a10 := i53b; unfold In at a10; have a11 := i53a; unfold In at a11; have a12 := i66; unfold In at a12; have a13 := t_add e66 (in_c 1000100 rfl) i31x13 rfl; have a14 := (in_c 1000100 rfl); unfold In at a14; omega)
                      have hDe : _ = s53.2.2.1 102 4 := (show z53d = s53.2.2.1 102 4 from e53c)
                      refine g_callv (X := _) (As := [.int z66]) (r := []) (b := A 102) (q := 102) 70 (gd rfl) rfl rfl rfl rfl rfl (ww_o rfl) (Nat.le_of_ble_eq_true rfl) (Nat.zero_le _) (Nat.zero_le _) (k_57_102 (by omega) hI53 e53c) (fun e u h => h) (fun v u h => ?_)
                      obtain ⟨s67, hI67, hF67, n67, n67a, z67, rfl, rfl, i67, p67⟩ := h
                      obtain ⟨z67a, e67⟩ : ∃ w, w = s67.2.2.1 102 4 := ⟨_, rfl⟩
                      have i67a := inv_F hI67 0 120 rfl e67
                      rw [← (show z53d = s53.2.2.1 102 4 from e53c)] at n67
                      rw [← (show z67a = s67.2.2.1 102 4 from e67)] at n67
                      rw [← (show z53d = s53.2.2.1 102 4 from e53c)] at n67a
                      rw [← (show z67a = s67.2.2.1 102 4 from e67)] at n67a
                      show GG _ _ _ _ _ _ _ _ [.int z67] _ _ _
                      refine g_pop 71 (gd rfl) rfl rfl ?_
                      refine g_iinc 74 (gd rfl) rfl rfl (Nat.le_of_ble_eq_true rfl) (fun z71 e71 => ?_)
                      have i71 := in_add 1 120 e71 i16 (in_c 1 rfl) rfl rfl
                      refine g_goto 13 (gd rfl) rfl ?_
                      have v13 : z53a = s67.2.2.1 46 2 := fr_F (e53) hF67 rfl
                      have v13a : z53c = s67.2.2.1 46 4 := fr_F (e53b) hF67 rfl
                      have v13b : z53b = s67.2.2.1 46 3 := fr_F (e53a) hF67 rfl
                      have v13c : z53e = s67.2.2.1 46 5 := fr_F (e53d) hF67 rfl
                      have n13 : (z53a).toInt ≤ (u_46_1).toInt := by have a0 := h2; unfold In at a0; have a1 := r_46_1; unfold In at a1; have a2 := (inv_F hIc13 0 120 rfl v13_102_4); unfold In at a2; have a3 := i31x13; unfold In at a3; have a4 := i22x5; unfold In at a4; have a5 := (inv_F hIc13 0 1000 rfl v13_46_4); unfold In at a5; have a6 := (inv_F hIc13 0 1000 rfl v13_46_2); unfold In at a6; have a7 := i16; unfold In at a7; have a8 := i71; unfold In at a8; have a9 := t_add e71 i16 (in_c 1 rfl) rfl; have a10 := (in_c 1 rfl); unfold In at a10; have a11 := i67a; unfold In at a11; have a12 := i53c; unfold In at a12; have a13 := i53b; unfold In at a13; have a14 := i53a; unfold In at a14; have a15 := i66; unfold In at a15; have a16 := t_add e66 (in_c 1000100 rfl) i31x13 rfl; have a17 := (in_c 1000100 rfl); unfold In at a17; omega
                      have n13a : (z53b).toInt = 0 ∨ (z53c).toInt + 1 ≤ (z53a).toInt := by have a0 := h2; unfold In at a0; have a1 := r_46_1; unfold In at a1; have a2 := (inv_F hIc13 0 120 rfl v13_102_4); unfold In at a2; have a3 := i31x13; unfold In at a3; have a4 := i22x5; unfold In at a4; have a5 := (inv_F hIc13 0 1000 rfl v13_46_4); unfold In at a5; have a6 := (inv_F hIc13 0 1000 rfl v13_46_2); unfold In at a6; have a7 := i16; unfold In at a7; have a8 := i71; unfold In at a8; have a9 := t_add e71 i16 (in_c 1 rfl) rfl; have a10 := (in_c 1 rfl); unfold In at a10; have a11 := i67a; unfold In at a11; have a12 := i53c; unfold In at a12; have a13 := i53b; unfold In at a13; have a14 := i53a; unfold In at a14; have a15 := i66; unfold In at a15; have a16 := t_add e66 (in_c 1000100 rfl) i31x13 rfl; have a17 := (in_c 1000100 rfl); unfold In at a17; omega
                      have n13b : (z53c).toInt ≤ (z53a).toInt := by have a0 := h2; unfold In at a0; have a1 := r_46_1; unfold In at a1; have a2 := (inv_F hIc13 0 120 rfl v13_102_4); unfold In at a2; have a3 := i31x13; unfold In at a3; have a4 := i22x5; unfold In at a4; have a5 := (inv_F hIc13 0 1000 rfl v13_46_4); unfold In at a5; have a6 := (inv_F hIc13 0 1000 rfl v13_46_2); unfold In at a6; have a7 := i16; unfold In at a7; have a8 := i71; unfold In at a8; have a9 := t_add e71 i16 (in_c 1 rfl) rfl; have a10 := (in_c 1 rfl); unfold In at a10; have a11 := i67a; unfold In at a11; have a12 := i53c; unfold In at a12; have a13 := i53b; unfold In at a13; have a14 := i53a; unfold In at a14; have a15 := i66; unfold In at a15; have a16 := t_add e66 (in_c 1000100 rfl) i31x13 rfl; have a17 := (in_c 1000100 rfl); unfold In at a17; omega
                      have n13c : (z67a).toInt ≤ (z53c).toInt := by have a0 := h2; unfold In at a0; have a1 := r_46_1; unfold In at a1; have a2 := (inv_F hIc13 0 120 rfl v13_102_4); unfold In at a2; have a3 := i31x13; unfold In at a3; have a4 := i22x5; unfold In at a4; have a5 := (inv_F hIc13 0 1000 rfl v13_46_4); unfold In at a5; have a6 := (inv_F hIc13 0 1000 rfl v13_46_2); unfold In at a6; have a7 := i16; unfold In at a7; have a8 := i71; unfold In at a8; have a9 := t_add e71 i16 (in_c 1 rfl) rfl; have a10 := (in_c 1 rfl); unfold In at a10; have a11 := i67a; unfold In at a11; have a12 := i53c; unfold In at a12; have a13 := i53b; unfold In at a13; have a14 := i53a; unfold In at a14; have a15 := i66; unfold In at a15; have a16 := t_add e66 (in_c 1000100 rfl) i31x13 rfl; have a17 := (in_c 1000100 rfl); unfold In at a17; omega
                      have n13d : (z53b).toInt = 2 → (z53e).toInt ≤ 999999 := by have a0 := h2; unfold In at a0; have a1 := r_46_1; unfold In at a1; have a2 := (inv_F hIc13 0 120 rfl v13_102_4); unfold In at a2; have a3 := i31x13; unfold In at a3; have a4 := i22x5; unfold In at a4; have a5 := (inv_F hIc13 0 1000 rfl v13_46_4); unfold In at a5; have a6 := (inv_F hIc13 0 1000 rfl v13_46_2); unfold In at a6; have a7 := i16; unfold In at a7; have a8 := i71; unfold In at a8; have a9 := t_add e71 i16 (in_c 1 rfl) rfl; have a10 := (in_c 1 rfl); unfold In at a10; have a11 := i67a; unfold In at a11; have a12 := i53c; unfold In at a12; have a13 := i53b; unfold In at a13; have a14 := i53a; unfold In at a14; have a15 := i66; unfold In at a15; have a16 := t_add e66 (in_c 1000100 rfl) i31x13 rfl; have a17 := (in_c 1000100 rfl); unfold In at a17; omega
                      have n13e : (u_46_4).toInt - (u_102_4).toInt ≤ (z53c).toInt - (z67a).toInt := by have a0 := h2; unfold In at a0; have a1 := r_46_1; unfold In at a1; have a2 := (inv_F hIc13 0 120 rfl v13_102_4); unfold In at a2; have a3 := i31x13; unfold In at a3; have a4 := i22x5; unfold In at a4; have a5 := (inv_F hIc13 0 1000 rfl v13_46_4); unfold In at a5; have a6 := (inv_F hIc13 0 1000 rfl v13_46_2); unfold In at a6; have a7 := i16; unfold In at a7; have a8 := i71; unfold In at a8; have a9 := t_add e71 i16 (in_c 1 rfl) rfl; have a10 := (in_c 1 rfl); unfold In at a10; have a11 := i67a; unfold In at a11; have a12 := i53c; unfold In at a12; have a13 := i53b; unfold In at a13; have a14 := i53a; unfold In at a14; have a15 := i66; unfold In at a15; have a16 := t_add e66 (in_c 1000100 rfl) i31x13 rfl; have a17 := (in_c 1000100 rfl); unfold In at a17; omega
                      have n13f : PCV s s67 1 := by exact pv_st (j := 2) (k := 1) (pv_tr (j := 1) (k := 1) (pv_tr (j := 1) (k := 0) g13_0 (pv_sm (hF47.1 104 rfl) (hF47.2.2.1 102 4 rfl))) (p53 c56)) (inv_F hI53 0 120 rfl rfl).1 (p67 hD) (by rw [← (show z67a = s67.2.2.1 102 4 from e67), ← hDe]; have a0 := h2; unfold In at a0; have a1 := r_46_1; unfold In at a1; have a2 := (inv_F hIc13 0 120 rfl v13_102_4); unfold In at a2; have a3 := i31x13; unfold In at a3; have a4 := i22x5; unfold In at a4; have a5 := (inv_F hIc13 0 1000 rfl v13_46_4); unfold In at a5; have a6 := (inv_F hIc13 0 1000 rfl v13_46_2); unfold In at a6; have a7 := i16; unfold In at a7; have a8 := i71; unfold In at a8; have a9 := t_add e71 i16 (in_c 1 rfl) rfl; have a10 := (in_c 1 rfl); unfold In at a10; have a11 := i67a; unfold In at a11; have a12 := i53c; unfold In at a12; have a13 := i53b; unfold In at a13; have a14 := i53a; unfold In at a14; have a15 := i66; unfold In at a15; have a16 := t_add e66 (in_c 1000100 rfl) i31x13 rfl; have a17 := (in_c 1000100 rfl); unfold In at a17; omega) (fun e => hc_b (by have a0 := h2; unfold In at a0; have a1 := r_46_1; unfold In at a1; have a2 := (inv_F hIc13 0 120 rfl v13_102_4); unfold In at a2; have a3 := i31x13; unfold In at a3; have a4 := i22x5; unfold In at a4; have a5 := (inv_F hIc13 0 1000 rfl v13_46_4); unfold In at a5; have a6 := (inv_F hIc13 0 1000 rfl v13_46_2); unfold In at a6; have a7 := i16; unfold In at a7; have a8 := i71; unfold In at a8; have a9 := t_add e71 i16 (in_c 1 rfl) rfl; have a10 := (in_c 1 rfl); unfold In at a10; have a11 := i67a; unfold In at a11; have a12 := i53c; unfold In at a12; have a13 := i53b; unfold In at a13; have a14 := i53a; unfold In at a14; have a15 := i66; unfold In at a15; have a16 := t_add e66 (in_c 1000100 rfl) i31x13 rfl; have a17 := (in_c 1000100 rfl); unfold In at a17; omega) (by have a0 := h2; unfold In at a0; have a1 := r_46_1; unfold In at a1; have a2 := (inv_F hIc13 0 120 rfl v13_102_4); unfold In at a2; have a3 := i31x13; unfold In at a3; have a4 := i22x5; unfold In at a4; have a5 := (inv_F hIc13 0 1000 rfl v13_46_4); unfold In at a5; have a6 := (inv_F hIc13 0 1000 rfl v13_46_2); unfold In at a6; have a7 := i16; unfold In at a7; have a8 := i71; unfold In at a8; have a9 := t_add e71 i16 (in_c 1 rfl) rfl; have a10 := (in_c 1 rfl); unfold In at a10; have a11 := i67a; unfold In at a11; have a12 := i53c; unfold In at a12; have a13 := i53b; unfold In at a13; have a14 := i53a; unfold In at a14; have a15 := i66; unfold In at a15; have a16 := t_add e66 (in_c 1000100 rfl) i31x13 rfl; have a17 := (in_c 1000100 rfl); unfold In at a17; omega) e)
                      exact gg_w (by omega) (gg_f (gf_cons rfl (gf_cons rfl (gf_cons rfl (gf_cons rfl gf_nil)))) (ih13 s67 z71 z53a z53c z53b z53e z67a hI67 (fr_tr rfl (fr_tr rfl (fr_tr rfl hFc13 hF47) hF53) hF67) (in_w 0 120 i71 rfl) v13 v13a v13b v13c e67 n13 n13a n13b n13c n13d n13e n13f (m_up mm13 (t_add e71 i16 (in_c 1 rfl) rfl) (in_w 1 1 (in_c 1 rfl) rfl))))
                    · skip
                      have i56 := z_eq 0 0 c56 i53 rfl
                      refine g_iconst 0 60 (gd rfl) rfl rfl ?_
                      have n60 : ((Int32.ofInt 0)).toInt ≠ 0 → PCV s s53 1 := by first | (intro _; exact g13_0) | (intro h; exact absurd rfl h)
                      have n60a : (z53a).toInt ≤ (u_46_1).toInt := by have a0 := h2; unfold In at a0; have a1 := r_46_1; unfold In at a1; have a2 := (inv_F hIc13 0 120 rfl v13_102_4); unfold In at a2; have a3 := i31x13; unfold In at a3; have a4 := i22x5; unfold In at a4; have a5 := (inv_F hIc13 0 1000 rfl v13_46_4); unfold In at a5; have a6 := (inv_F hIc13 0 1000 rfl v13_46_2); unfold In at a6; have a7 := i16; unfold In at a7; have a8 := i53d; unfold In at a8; have a9 := i53c; unfold In at a9; have a10 := i53b; unfold In at a10; have a11 := i53a; unfold In at a11; omega
                      have n60b : (s53.2.2.1 46 2).toInt ≤ (s53.2.2.1 46 1).toInt := by have b0 : z53a = s53.2.2.1 46 2 := e53; have b1 : u_46_1 = s53.2.2.1 46 1 := fr_F (fr_F (fr_F e_46_1 hFc13 rfl) hF47 rfl) hF53 rfl; rw [← b0, ← b1]; exact n60a
                      have n60c : (z53b).toInt = 0 ∨ (z53c).toInt + 1 ≤ (z53a).toInt := by have a0 := h2; unfold In at a0; have a1 := r_46_1; unfold In at a1; have a2 := (inv_F hIc13 0 120 rfl v13_102_4); unfold In at a2; have a3 := i31x13; unfold In at a3; have a4 := i22x5; unfold In at a4; have a5 := (inv_F hIc13 0 1000 rfl v13_46_4); unfold In at a5; have a6 := (inv_F hIc13 0 1000 rfl v13_46_2); unfold In at a6; have a7 := i16; unfold In at a7; have a8 := i53d; unfold In at a8; have a9 := i53c; unfold In at a9; have a10 := i53b; unfold In at a10; have a11 := i53a; unfold In at a11; omega
                      have n60d : (s53.2.2.1 46 3).toInt = 0 ∨ (s53.2.2.1 46 4).toInt + 1 ≤ (s53.2.2.1 46 2).toInt := by have b0 : z53b = s53.2.2.1 46 3 := e53a; have b1 : z53c = s53.2.2.1 46 4 := e53b; have b2 : z53a = s53.2.2.1 46 2 := e53; rw [← b0, ← b1, ← b2]; exact n60c
                      have n60e : (z53c).toInt ≤ (z53a).toInt := by have a0 := h2; unfold In at a0; have a1 := r_46_1; unfold In at a1; have a2 := (inv_F hIc13 0 120 rfl v13_102_4); unfold In at a2; have a3 := i31x13; unfold In at a3; have a4 := i22x5; unfold In at a4; have a5 := (inv_F hIc13 0 1000 rfl v13_46_4); unfold In at a5; have a6 := (inv_F hIc13 0 1000 rfl v13_46_2); unfold In at a6; have a7 := i16; unfold In at a7; have a8 := i53d; unfold In at a8; have a9 := i53c; unfold In at a9; have a10 := i53b; unfold In at a10; have a11 := i53a; unfold In at a11; omega
                      have n60f : (s53.2.2.1 46 4).toInt ≤ (s53.2.2.1 46 2).toInt := by have b0 : z53c = s53.2.2.1 46 4 := e53b; have b1 : z53a = s53.2.2.1 46 2 := e53; rw [← b0, ← b1]; exact n60e
                      have n60g : (z53d).toInt ≤ (z53c).toInt := by have a0 := h2; unfold In at a0; have a1 := r_46_1; unfold In at a1; have a2 := (inv_F hIc13 0 120 rfl v13_102_4); unfold In at a2; have a3 := i31x13; unfold In at a3; have a4 := i22x5; unfold In at a4; have a5 := (inv_F hIc13 0 1000 rfl v13_46_4); unfold In at a5; have a6 := (inv_F hIc13 0 1000 rfl v13_46_2); unfold In at a6; have a7 := i16; unfold In at a7; have a8 := i53d; unfold In at a8; have a9 := i53c; unfold In at a9; have a10 := i53b; unfold In at a10; have a11 := i53a; unfold In at a11; omega
                      have n60h : (s53.2.2.1 102 4).toInt ≤ (s53.2.2.1 46 4).toInt := by have b0 : z53d = s53.2.2.1 102 4 := e53c; have b1 : z53c = s53.2.2.1 46 4 := e53b; rw [← b0, ← b1]; exact n60g
                      have n60i : (z53b).toInt = 2 → (z53e).toInt ≤ 999999 := by have a0 := h2; unfold In at a0; have a1 := r_46_1; unfold In at a1; have a2 := (inv_F hIc13 0 120 rfl v13_102_4); unfold In at a2; have a3 := i31x13; unfold In at a3; have a4 := i22x5; unfold In at a4; have a5 := (inv_F hIc13 0 1000 rfl v13_46_4); unfold In at a5; have a6 := (inv_F hIc13 0 1000 rfl v13_46_2); unfold In at a6; have a7 := i16; unfold In at a7; have a8 := i53d; unfold In at a8; have a9 := i53c; unfold In at a9; have a10 := i53b; unfold In at a10; have a11 := i53a; unfold In at a11; omega
                      have n60j : (s53.2.2.1 46 3).toInt = 2 → (s53.2.2.1 46 5).toInt ≤ 999999 := by have b0 : z53b = s53.2.2.1 46 3 := e53a; have b1 : z53e = s53.2.2.1 46 5 := e53d; rw [← b0, ← b1]; exact n60i
                      have n60k : (u_46_4).toInt - (u_102_4).toInt ≤ (z53c).toInt - (z53d).toInt := by have a0 := h2; unfold In at a0; have a1 := r_46_1; unfold In at a1; have a2 := (inv_F hIc13 0 120 rfl v13_102_4); unfold In at a2; have a3 := i31x13; unfold In at a3; have a4 := i22x5; unfold In at a4; have a5 := (inv_F hIc13 0 1000 rfl v13_46_4); unfold In at a5; have a6 := (inv_F hIc13 0 1000 rfl v13_46_2); unfold In at a6; have a7 := i16; unfold In at a7; have a8 := i53d; unfold In at a8; have a9 := i53c; unfold In at a9; have a10 := i53b; unfold In at a10; have a11 := i53a; unfold In at a11; omega
                      have n60l : (s.2.2.1 46 4).toInt - (s.2.2.1 102 4).toInt ≤ (s53.2.2.1 46 4).toInt - (s53.2.2.1 102 4).toInt := by have b0 : z53c = s53.2.2.1 46 4 := e53b; have b1 : z53d = s53.2.2.1 102 4 := e53c; rw [← b0, ← b1, ← e_46_4, ← e_102_4]; exact n60k
                      exact g_ireturn (gd rfl) rfl (nb01 (in_w 0 1 (in_c 0 rfl) rfl)) (hP _ _ ⟨s53, hI53, (fr_tr rfl (fr_tr rfl hFc13 hF47) hF53), n60b, n60d, n60f, n60h, n60j, n60l, (Int32.ofInt 0), rfl, rfl, in_w 0 1 (in_c 0 rfl) rfl, n60⟩)
          · skip
            have i22x13 := r_eq1 43 43 c22x13 (inv_F hIc13 (-2147483648) 2147483647 rfl v13_46_5) (in_c 43 rfl) rfl
            refine g_iconst 1 17 (gd rfl) rfl rfl ?_
            refine g_goto 21 (gd rfl) rfl ?_
            refine g_ireturn (gd rfl) rfl (nb01 (in_w 0 1 (in_c 1 rfl) rfl)) (hp22 _ _ ?_)
            show GG _ _ _ _ _ _ _ _ [.int (Int32.ofInt 1)] _ _ _
            refine g_if_ne 28 37 (gd rfl) rfl rfl (fun c25 => ?_) (fun c25 => ?_)
            · skip
              refine g_aload_n 38 (gd rfl) rfl rfl ?_
              refine g_getI 41 (gd rfl) rfl rfl rfl (fun z38 e38 => ?_)
              have q38 : w13_46_5 = z38 := (v13_46_5).trans e38.symm
              subst q38
              refine g_istore 43 (gd rfl) rfl (Nat.le_of_ble_eq_true rfl) ?_
              refine g_aload_n 44 (gd rfl) rfl rfl ?_
              refine g_bipush 6 46 (gd rfl) rfl rfl ?_
              refine g_iconst 0 47 (gd rfl) rfl rfl ?_
              have v47 : u_46_1 = sc13.2.2.1 46 1 := fr_F e_46_1 hFc13 rfl
              have n47 : (w13_46_2).toInt ≤ (u_46_1).toInt := by have a0 := h2; unfold In at a0; have a1 := r_46_1; unfold In at a1; have a2 := (inv_F hIc13 0 120 rfl v13_102_4); unfold In at a2; have a3 := i22x13; unfold In at a3; have a4 := i22x5; unfold In at a4; have a5 := (inv_F hIc13 0 1000 rfl v13_46_4); unfold In at a5; have a6 := (inv_F hIc13 0 1000 rfl v13_46_2); unfold In at a6; have a7 := i16; unfold In at a7; omega
              refine g_callv (X := _) (As := [.int (Int32.ofInt 6), .int (Int32.ofInt 0)]) (r := []) (b := A 46) (q := 46) 50 (gd rfl) rfl rfl rfl rfl rfl (ww_o rfl) (Nat.le_of_ble_eq_true rfl) (Nat.zero_le _) (Nat.zero_le _) (k_171_46 (by omega) hIc13 (in_w 6 7 (in_c 6 rfl) rfl) (in_w 0 1 (in_c 0 rfl) rfl) v13_46_2 v47 n47) (fun e u h => h) (fun v u h => ?_)
              obtain ⟨s47, hI47, hF47, n47a, n47b, n47c, n47d, rfl, rfl, p47⟩ := h
              obtain ⟨z47a, e47⟩ : ∃ w, w = s47.2.2.1 46 2 := ⟨_, rfl⟩
              have i47a := inv_F hI47 0 1000 rfl e47
              obtain ⟨z47b, e47a⟩ : ∃ w, w = s47.2.2.1 46 3 := ⟨_, rfl⟩
              have i47b := inv_F hI47 0 5 rfl e47a
              obtain ⟨z47c, e47b⟩ : ∃ w, w = s47.2.2.1 46 4 := ⟨_, rfl⟩
              have i47c := inv_F hI47 0 1000 rfl e47b
              rw [← (show z47a = s47.2.2.1 46 2 from e47)] at n47a
              rw [← (show u_46_1 = s47.2.2.1 46 1 from fr_F (fr_F e_46_1 hFc13 rfl) hF47 rfl)] at n47a
              rw [← (show z47a = s47.2.2.1 46 2 from e47)] at n47b
              rw [← (show z47b = s47.2.2.1 46 3 from e47a)] at n47b
              rw [← (show z47c = s47.2.2.1 46 4 from e47b)] at n47b
              rw [← (show z47a = s47.2.2.1 46 2 from e47)] at n47c
              rw [← (show z47c = s47.2.2.1 46 4 from e47b)] at n47c
              rw [← (show w13_46_2 = sc13.2.2.1 46 2 from v13_46_2)] at n47d
              rw [← (show z47c = s47.2.2.1 46 4 from e47b)] at n47d
              show GG _ _ _ _ _ _ _ _ [] _ _ _
              have hv47 := p47 (by decide); rw [← (show z47b = s47.2.2.1 46 3 from e47a)] at hv47
              refine g_aload_n 51 (gd rfl) rfl rfl ?_
              refine g_aload_n 52 (gd rfl) rfl rfl ?_
              refine g_iload_n 53 (gd rfl) rfl rfl ?_
              have v53 : u_46_1 = s47.2.2.1 46 1 := fr_F (fr_F e_46_1 hFc13 rfl) hF47 rfl
              have v53a : w13_102_4 = s47.2.2.1 102 4 := fr_F (v13_102_4) hF47 rfl
              have n53 : (z47a).toInt ≤ (u_46_1).toInt := by have a0 := h2; unfold In at a0; have a1 := r_46_1; unfold In at a1; have a2 := (inv_F hIc13 0 120 rfl v13_102_4); unfold In at a2; have a3 := i22x13; unfold In at a3; have a4 := i22x5; unfold In at a4; have a5 := (inv_F hIc13 0 1000 rfl v13_46_4); unfold In at a5; have a6 := (inv_F hIc13 0 1000 rfl v13_46_2); unfold In at a6; have a7 := i16; unfold In at a7; have a8 := i47c; unfold In at a8; have a9 := i47b; unfold In at a9; have a10 := i47a; unfold In at a10; omega
              have n53a : (z47b).toInt = 0 ∨ (z47c).toInt + 1 ≤ (z47a).toInt := by have a0 := h2; unfold In at a0; have a1 := r_46_1; unfold In at a1; have a2 := (inv_F hIc13 0 120 rfl v13_102_4); unfold In at a2; have a3 := i22x13; unfold In at a3; have a4 := i22x5; unfold In at a4; have a5 := (inv_F hIc13 0 1000 rfl v13_46_4); unfold In at a5; have a6 := (inv_F hIc13 0 1000 rfl v13_46_2); unfold In at a6; have a7 := i16; unfold In at a7; have a8 := i47c; unfold In at a8; have a9 := i47b; unfold In at a9; have a10 := i47a; unfold In at a10; omega
              have n53b : (z47c).toInt ≤ (z47a).toInt := by have a0 := h2; unfold In at a0; have a1 := r_46_1; unfold In at a1; have a2 := (inv_F hIc13 0 120 rfl v13_102_4); unfold In at a2; have a3 := i22x13; unfold In at a3; have a4 := i22x5; unfold In at a4; have a5 := (inv_F hIc13 0 1000 rfl v13_46_4); unfold In at a5; have a6 := (inv_F hIc13 0 1000 rfl v13_46_2); unfold In at a6; have a7 := i16; unfold In at a7; have a8 := i47c; unfold In at a8; have a9 := i47b; unfold In at a9; have a10 := i47a; unfold In at a10; omega
              have n53c : (w13_102_4).toInt ≤ (z47c).toInt := by have a0 := h2; unfold In at a0; have a1 := r_46_1; unfold In at a1; have a2 := (inv_F hIc13 0 120 rfl v13_102_4); unfold In at a2; have a3 := i22x13; unfold In at a3; have a4 := i22x5; unfold In at a4; have a5 := (inv_F hIc13 0 1000 rfl v13_46_4); unfold In at a5; have a6 := (inv_F hIc13 0 1000 rfl v13_46_2); unfold In at a6; have a7 := i16; unfold In at a7; have a8 := i47c; unfold In at a8; have a9 := i47b; unfold In at a9; have a10 := i47a; unfold In at a10; omega
              have n53d : (z47b).toInt = 2 → ((s47.2.2.1 46 5)).toInt ≤ 999999 := by have a0 := h2; unfold In at a0; have a1 := r_46_1; unfold In at a1; have a2 := (inv_F hIc13 0 120 rfl v13_102_4); unfold In at a2; have a3 := i22x13; unfold In at a3; have a4 := i22x5; unfold In at a4; have a5 := (inv_F hIc13 0 1000 rfl v13_46_4); unfold In at a5; have a6 := (inv_F hIc13 0 1000 rfl v13_46_2); unfold In at a6; have a7 := i16; unfold In at a7; have a8 := i47c; unfold In at a8; have a9 := i47b; unfold In at a9; have a10 := i47a; unfold In at a10; omega
              have n53e : 10 - (x2).toInt < ((kk : Nat) : Int) := by have a0 := h2; unfold In at a0; have a1 := r_46_1; unfold In at a1; have a2 := (inv_F hIc13 0 120 rfl v13_102_4); unfold In at a2; have a3 := i22x13; unfold In at a3; have a4 := i22x5; unfold In at a4; have a5 := (inv_F hIc13 0 1000 rfl v13_46_4); unfold In at a5; have a6 := (inv_F hIc13 0 1000 rfl v13_46_2); unfold In at a6; have a7 := i16; unfold In at a7; have a8 := i47c; unfold In at a8; have a9 := i47b; unfold In at a9; have a10 := i47a; unfold In at a10; omega
              refine g_callv (X := _) (As := [.ref (A 46), .int x2]) (r := []) (b := A 102) (q := 102) 56 (gd rfl) rfl rfl rfl rfl rfl (ww_o rfl) (Nat.le_of_ble_eq_true rfl) (Nat.zero_le _) (Nat.zero_le _) (ih (by omega) hI47 (in_w 0 10 h2 rfl) e47 v53 e47b e47a rfl v53a (in_w 0 120 r_46_1 rfl) n53 n53a n53b n53c n53d n53e) (fun e u h => h) (fun v u h => ?_)
              obtain ⟨s53, hI53, hF53, n53f, n53g, n53h, n53i, n53j, n53k, z53, rfl, rfl, i53, p53⟩ := h
              obtain ⟨z53a, e53⟩ : ∃ w, w = s53.2.2.1 46 2 := ⟨_, rfl⟩
              have i53a := inv_F hI53 0 1000 rfl e53
              obtain ⟨z53b, e53a⟩ : ∃ w, w = s53.2.2.1 46 3 := ⟨_, rfl⟩
              have i53b := inv_F hI53 0 5 rfl e53a
              obtain ⟨z53c, e53b⟩ : ∃ w, w = s53.2.2.1 46 4 := ⟨_, rfl⟩
              have i53c := inv_F hI53 0 1000 rfl e53b
              obtain ⟨z53d, e53c⟩ : ∃ w, w = s53.2.2.1 102 4 := ⟨_, rfl⟩
              have i53d := inv_F hI53 0 120 rfl e53c
              obtain ⟨z53e, e53d⟩ : ∃ w, w = s53.2.2.1 46 5 := ⟨_, rfl⟩
              rw [← (show z53a = s53.2.2.1 46 2 from e53)] at n53f
              rw [← (show u_46_1 = s53.2.2.1 46 1 from fr_F (fr_F (fr_F e_46_1 hFc13 rfl) hF47 rfl) hF53 rfl)] at n53f
              rw [← (show z53a = s53.2.2.1 46 2 from e53)] at n53g
              rw [← (show z53b = s53.2.2.1 46 3 from e53a)] at n53g
              rw [← (show z53c = s53.2.2.1 46 4 from e53b)] at n53g
              rw [← (show z53a = s53.2.2.1 46 2 from e53)] at n53h
              rw [← (show z53c = s53.2.2.1 46 4 from e53b)] at n53h
              rw [← (show z53c = s53.2.2.1 46 4 from e53b)] at n53i
              rw [← (show z53d = s53.2.2.1 102 4 from e53c)] at n53i
              rw [← (show z53b = s53.2.2.1 46 3 from e53a)] at n53j
              rw [← (show z53e = s53.2.2.1 46 5 from e53d)] at n53j
              rw [← (show z47c = s47.2.2.1 46 4 from e47b)] at n53k
              rw [← (show w13_102_4 = s47.2.2.1 102 4 from fr_F (v13_102_4) hF47 rfl)] at n53k
              rw [← (show z53c = s53.2.2.1 46 4 from e53b)] at n53k
              rw [← (show z53d = s53.2.2.1 102 4 from e53c)] at n53k
              show GG _ _ _ _ _ _ _ _ [.int z53] _ _ _
              refine g_if_ne 59 61 (gd rfl) rfl rfl (fun c56 => ?_) (fun c56 => ?_)
              · skip
                have i56 := z_ne 1 1 c56 i53 rfl
                refine g_aload_n 62 (gd rfl) rfl rfl ?_
                refine g_ldc 1000100 64 (gd rfl) rfl rfl ?_
                refine g_iload 66 (gd rfl) rfl rfl ?_
                refine g_iadd 67 (gd rfl) rfl (fun z66 e66 => ?_)
                have i66 := in_add 1000143 1000143 e66 (in_c 1000100 rfl) i22x13 rfl rfl
                have hD : (s53.2.2.1 102 4).toInt < 120 := (by rw [← (show z53d = s53.2.2.1 102 4 from e53c)]; have a0 := h2; unfold In at a0; have a1 := r_46_1; unfold In at a1; have a2 := (inv_F hIc13 0 120 rfl v13_102_4); unfold In at a2; have a3 := i22x13; unfold In at a3; have a4 := i22x5; unfold In at a4; have a5 := (inv_F hIc13 0 1000 rfl v13_46_4); unfold In at a5; have a6 := (inv_F hIc13 0 1000 rfl v13_46_2); unfold In at a6; have a7 := i16; unfold In at a7; have a8 := i53d; unfold In at a8; have a9 := i53c; unfold In at a9; have a10 := i53b; unfold In at a10; have a11 := i53a; unfold In at a11; have a12 := i66; unfold In at a12; have a13 := t_add e66 (in_c 1000100 rfl) i22x13 rfl; have a14 := (in_c 1000100 rfl); unfold In at a14; omega)
                have hDe : _ = s53.2.2.1 102 4 := (show z53d = s53.2.2.1 102 4 from e53c)
                refine g_callv (X := _) (As := [.int z66]) (r := []) (b := A 102) (q := 102) 70 (gd rfl) rfl rfl rfl rfl rfl (ww_o rfl) (Nat.le_of_ble_eq_true rfl) (Nat.zero_le _) (Nat.zero_le _) (k_57_102 (by omega) hI53 e53c) (fun e u h => h) (fun v u h => ?_)
                obtain ⟨s67, hI67, hF67, n67, n67a, z67, rfl, rfl, i67, p67⟩ := h
                obtain ⟨z67a, e67⟩ : ∃ w, w = s67.2.2.1 102 4 := ⟨_, rfl⟩
                have i67a := inv_F hI67 0 120 rfl e67
                rw [← (show z53d = s53.2.2.1 102 4 from e53c)] at n67
                rw [← (show z67a = s67.2.2.1 102 4 from e67)] at n67
                rw [← (show z53d = s53.2.2.1 102 4 from e53c)] at n67a
                rw [← (show z67a = s67.2.2.1 102 4 from e67)] at n67a
                show GG _ _ _ _ _ _ _ _ [.int z67] _ _ _
                refine g_pop 71 (gd rfl) rfl rfl ?_
                refine g_iinc 74 (gd rfl) rfl rfl (Nat.le_of_ble_eq_true rfl) (fun z71 e71 => ?_)
                have i71 := in_add 1 120 e71 i16 (in_c 1 rfl) rfl rfl
                refine g_goto 13 (gd rfl) rfl ?_
                have v13 : z53a = s67.2.2.1 46 2 := fr_F (e53) hF67 rfl
                have v13a : z53c = s67.2.2.1 46 4 := fr_F (e53b) hF67 rfl
                have v13b : z53b = s67.2.2.1 46 3 := fr_F (e53a) hF67 rfl
                have v13c : z53e = s67.2.2.1 46 5 := fr_F (e53d) hF67 rfl
                have n13 : (z53a).toInt ≤ (u_46_1).toInt := by have a0 := h2; unfold In at a0; have a1 := r_46_1; unfold In at a1; have a2 := (inv_F hIc13 0 120 rfl v13_102_4); unfold In at a2; have a3 := i22x13; unfold In at a3; have a4 := i22x5; unfold In at a4; have a5 := (inv_F hIc13 0 1000 rfl v13_46_4); unfold In at a5; have a6 := (inv_F hIc13 0 1000 rfl v13_46_2); unfold In at a6; have a7 := i16; unfold In at a7; have a8 := i71; unfold In at a8; have a9 := t_add e71 i16 (in_c 1 rfl) rfl; have a10 := (in_c 1 rfl); unfold In at a10; have a11 := i67a; unfold In at a11; have a12 := i53c; unfold In at a12; have a13 := i53b; unfold In at a13; have a14 := i53a; unfold In at a14; have a15 := i66; unfold In at a15; have a16 := t_add e66 (in_c 1000100 rfl) i22x13 rfl; have a17 := (in_c 1000100 rfl); unfold In at a17; omega
                have n13a : (z53b).toInt = 0 ∨ (z53c).toInt + 1 ≤ (z53a).toInt := by have a0 := h2; unfold In at a0; have a1 := r_46_1; unfold In at a1; have a2 := (inv_F hIc13 0 120 rfl v13_102_4); unfold In at a2; have a3 := i22x13; unfold In at a3; have a4 := i22x5; unfold In at a4; have a5 := (inv_F hIc13 0 1000 rfl v13_46_4); unfold In at a5; have a6 := (inv_F hIc13 0 1000 rfl v13_46_2); unfold In at a6; have a7 := i16; unfold In at a7; have a8 := i71; unfold In at a8; have a9 := t_add e71 i16 (in_c 1 rfl) rfl; have a10 := (in_c 1 rfl); unfold In at a10; have a11 := i67a; unfold In at a11; have a12 := i53c; unfold In at a12; have a13 := i53b; unfold In at a13; have a14 := i53a; unfold In at a14; have a15 := i66; unfold In at a15; have a16 := t_add e66 (in_c 1000100 rfl) i22x13 rfl; have a17 := (in_c 1000100 rfl); unfold In at a17; omega
                have n13b : (z53c).toInt ≤ (z53a).toInt := by have a0 := h2; unfold In at a0; have a1 := r_46_1; unfold In at a1; have a2 := (inv_F hIc13 0 120 rfl v13_102_4); unfold In at a2; have a3 := i22x13; unfold In at a3; have a4 := i22x5; unfold In at a4; have a5 := (inv_F hIc13 0 1000 rfl v13_46_4); unfold In at a5; have a6 := (inv_F hIc13 0 1000 rfl v13_46_2); unfold In at a6; have a7 := i16; unfold In at a7; have a8 := i71; unfold In at a8; have a9 := t_add e71 i16 (in_c 1 rfl) rfl; have a10 := (in_c 1 rfl); unfold In at a10; have a11 := i67a; unfold In at a11; have a12 := i53c; unfold In at a12; have a13 := i53b; unfold In at a13; have a14 := i53a; unfold In at a14; have a15 := i66; unfold In at a15; have a16 := t_add e66 (in_c 1000100 rfl) i22x13 rfl; have a17 := (in_c 1000100 rfl); unfold In at a17; omega
                have n13c : (z67a).toInt ≤ (z53c).toInt := by have a0 := h2; unfold In at a0; have a1 := r_46_1; unfold In at a1; have a2 := (inv_F hIc13 0 120 rfl v13_102_4); unfold In at a2; have a3 := i22x13; unfold In at a3; have a4 := i22x5; unfold In at a4; have a5 := (inv_F hIc13 0 1000 rfl v13_46_4); unfold In at a5; have a6 := (inv_F hIc13 0 1000 rfl v13_46_2); unfold In at a6; have a7 := i16; unfold In at a7; have a8 := i71; unfold In at a8; have a9 := t_add e71 i16 (in_c 1 rfl) rfl; have a10 := (in_c 1 rfl); unfold In at a10; have a11 := i67a; unfold In at a11; have a12 := i53c; unfold In at a12; have a13 := i53b; unfold In at a13; have a14 := i53a; unfold In at a14; have a15 := i66; unfold In at a15; have a16 := t_add e66 (in_c 1000100 rfl) i22x13 rfl; have a17 := (in_c 1000100 rfl); unfold In at a17; omega
                have n13d : (z53b).toInt = 2 → (z53e).toInt ≤ 999999 := by have a0 := h2; unfold In at a0; have a1 := r_46_1; unfold In at a1; have a2 := (inv_F hIc13 0 120 rfl v13_102_4); unfold In at a2; have a3 := i22x13; unfold In at a3; have a4 := i22x5; unfold In at a4; have a5 := (inv_F hIc13 0 1000 rfl v13_46_4); unfold In at a5; have a6 := (inv_F hIc13 0 1000 rfl v13_46_2); unfold In at a6; have a7 := i16; unfold In at a7; have a8 := i71; unfold In at a8; have a9 := t_add e71 i16 (in_c 1 rfl) rfl; have a10 := (in_c 1 rfl); unfold In at a10; have a11 := i67a; unfold In at a11; have a12 := i53c; unfold In at a12; have a13 := i53b; unfold In at a13; have a14 := i53a; unfold In at a14; have a15 := i66; unfold In at a15; have a16 := t_add e66 (in_c 1000100 rfl) i22x13 rfl; have a17 := (in_c 1000100 rfl); unfold In at a17; omega
                have n13e : (u_46_4).toInt - (u_102_4).toInt ≤ (z53c).toInt - (z67a).toInt := by have a0 := h2; unfold In at a0; have a1 := r_46_1; unfold In at a1; have a2 := (inv_F hIc13 0 120 rfl v13_102_4); unfold In at a2; have a3 := i22x13; unfold In at a3; have a4 := i22x5; unfold In at a4; have a5 := (inv_F hIc13 0 1000 rfl v13_46_4); unfold In at a5; have a6 := (inv_F hIc13 0 1000 rfl v13_46_2); unfold In at a6; have a7 := i16; unfold In at a7; have a8 := i71; unfold In at a8; have a9 := t_add e71 i16 (in_c 1 rfl) rfl; have a10 := (in_c 1 rfl); unfold In at a10; have a11 := i67a; unfold In at a11; have a12 := i53c; unfold In at a12; have a13 := i53b; unfold In at a13; have a14 := i53a; unfold In at a14; have a15 := i66; unfold In at a15; have a16 := t_add e66 (in_c 1000100 rfl) i22x13 rfl; have a17 := (in_c 1000100 rfl); unfold In at a17; omega
                have n13f : PCV s s67 1 := by exact pv_st (j := 2) (k := 1) (pv_tr (j := 1) (k := 1) (pv_tr (j := 1) (k := 0) g13_0 (pv_sm (hF47.1 104 rfl) (hF47.2.2.1 102 4 rfl))) (p53 c56)) (inv_F hI53 0 120 rfl rfl).1 (p67 hD) (by rw [← (show z67a = s67.2.2.1 102 4 from e67), ← hDe]; have a0 := h2; unfold In at a0; have a1 := r_46_1; unfold In at a1; have a2 := (inv_F hIc13 0 120 rfl v13_102_4); unfold In at a2; have a3 := i22x13; unfold In at a3; have a4 := i22x5; unfold In at a4; have a5 := (inv_F hIc13 0 1000 rfl v13_46_4); unfold In at a5; have a6 := (inv_F hIc13 0 1000 rfl v13_46_2); unfold In at a6; have a7 := i16; unfold In at a7; have a8 := i71; unfold In at a8; have a9 := t_add e71 i16 (in_c 1 rfl) rfl; have a10 := (in_c 1 rfl); unfold In at a10; have a11 := i67a; unfold In at a11; have a12 := i53c; unfold In at a12; have a13 := i53b; unfold In at a13; have a14 := i53a; unfold In at a14; have a15 := i66; unfold In at a15; have a16 := t_add e66 (in_c 1000100 rfl) i22x13 rfl; have a17 := (in_c 1000100 rfl); unfold In at a17; omega) (fun e => hc_b (by have a0 := h2; unfold In at a0; have a1 := r_46_1; unfold In at a1; have a2 := (inv_F hIc13 0 120 rfl v13_102_4); unfold In at a2; have a3 := i22x13; unfold In at a3; have a4 := i22x5; unfold In at a4; have a5 := (inv_F hIc13 0 1000 rfl v13_46_4); unfold In at a5; have a6 := (inv_F hIc13 0 1000 rfl v13_46_2); unfold In at a6; have a7 := i16; unfold In at a7; have a8 := i71; unfold In at a8; have a9 := t_add e71 i16 (in_c 1 rfl) rfl; have a10 := (in_c 1 rfl); unfold In at a10; have a11 := i67a; unfold In at a11; have a12 := i53c; unfold In at a12; have a13 := i53b; unfold In at a13; have a14 := i53a; unfold In at a14; have a15 := i66; unfold In at a15; have a16 := t_add e66 (in_c 1000100 rfl) i22x13 rfl; have a17 := (in_c 1000100 rfl); unfold In at a17; omega) (by have a0 := h2; unfold In at a0; have a1 := r_46_1; unfold In at a1; have a2 := (inv_F hIc13 0 120 rfl v13_102_4); unfold In at a2; have a3 := i22x13; unfold In at a3; have a4 := i22x5; unfold In at a4; have a5 := (inv_F hIc13 0 1000 rfl v13_46_4); unfold In at a5; have a6 := (inv_F hIc13 0 1000 rfl v13_46_2); unfold In at a6; have a7 := i16; unfold In at a7; have a8 := i71; unfold In at a8; have a9 := t_add e71 i16 (in_c 1 rfl) rfl; have a10 := (in_c 1 rfl); unfold In at a10; have a11 := i67a; unfold In at a11; have a12 := i53c; unfold In at a12; have a13 := i53b; unfold In at a13; have a14 := i53a; unfold In at a14; have a15 := i66; unfold In at a15; have a16 := t_add e66 (in_c 1000100 rfl) i22x13 rfl; have a17 := (in_c 1000100 rfl); unfold In at a17; omega) e)
                exact gg_w (by omega) (gg_f (gf_cons rfl (gf_cons rfl (gf_cons rfl (gf_cons rfl gf_nil)))) (ih13 s67 z71 z53a z53c z53b z53e z67a hI67 (fr_tr rfl (fr_tr rfl (fr_tr rfl hFc13 hF47) hF53) hF67) (in_w 0 120 i71 rfl) v13 v13a v13b v13c e67 n13 n13a n13b n13c n13d n13e n13f (m_up mm13 (t_add e71 i16 (in_c 1 rfl) rfl) (in_w 1 1 (in_c 1 rfl) rfl))))
              · skip
                have i56 := z_eq 0 0 c56 i53 rfl
                refine g_iconst 0 60 (gd rfl) rfl rfl ?_
                have n60 : ((Int32.ofInt 0)).toInt ≠ 0 → PCV s s53 1 := by first | (intro _; exact g13_0) | (intro h; exact absurd rfl h)
                have n60a : (z53a).toInt ≤ (u_46_1).toInt := by have a0 := h2; unfold In at a0; have a1 := r_46_1; unfold In at a1; have a2 := (inv_F hIc13 0 120 rfl v13_102_4); unfold In at a2; have a3 := i22x13; unfold In at a3; have a4 := i22x5; unfold In at a4; have a5 := (inv_F hIc13 0 1000 rfl v13_46_4); unfold In at a5; have a6 := (inv_F hIc13 0 1000 rfl v13_46_2); unfold In at a6; have a7 := i16; unfold In at a7; have a8 := i53d; unfold In at a8; have a9 := i53c; unfold In at a9; have a10 := i53b; unfold In at a10; have a11 := i53a; unfold In at a11; omega
                have n60b : (s53.2.2.1 46 2).toInt ≤ (s53.2.2.1 46 1).toInt := by have b0 : z53a = s53.2.2.1 46 2 := e53; have b1 : u_46_1 = s53.2.2.1 46 1 := fr_F (fr_F (fr_F e_46_1 hFc13 rfl) hF47 rfl) hF53 rfl; rw [← b0, ← b1]; exact n60a
                have n60c : (z53b).toInt = 0 ∨ (z53c).toInt + 1 ≤ (z53a).toInt := by have a0 := h2; unfold In at a0; have a1 := r_46_1; unfold In at a1; have a2 := (inv_F hIc13 0 120 rfl v13_102_4); unfold In at a2; have a3 := i22x13; unfold In at a3; have a4 := i22x5; unfold In at a4; have a5 := (inv_F hIc13 0 1000 rfl v13_46_4); unfold In at a5; have a6 := (inv_F hIc13 0 1000 rfl v13_46_2); unfold In at a6; have a7 := i16; unfold In at a7; have a8 := i53d; unfold In at a8; have a9 := i53c; unfold In at a9; have a10 := i53b; unfold In at a10; have a11 := i53a; unfold In at a11; omega
                have n60d : (s53.2.2.1 46 3).toInt = 0 ∨ (s53.2.2.1 46 4).toInt + 1 ≤ (s53.2.2.1 46 2).toInt := by have b0 : z53b = s53.2.2.1 46 3 := e53a; have b1 : z53c = s53.2.2.1 46 4 := e53b; have b2 : z53a = s53.2.2.1 46 2 := e53; rw [← b0, ← b1, ← b2]; exact n60c
                have n60e : (z53c).toInt ≤ (z53a).toInt := by have a0 := h2; unfold In at a0; have a1 := r_46_1; unfold In at a1; have a2 := (inv_F hIc13 0 120 rfl v13_102_4); unfold In at a2; have a3 := i22x13; unfold In at a3; have a4 := i22x5; unfold In at a4; have a5 := (inv_F hIc13 0 1000 rfl v13_46_4); unfold In at a5; have a6 := (inv_F hIc13 0 1000 rfl v13_46_2); unfold In at a6; have a7 := i16; unfold In at a7; have a8 := i53d; unfold In at a8; have a9 := i53c; unfold In at a9; have a10 := i53b; unfold In at a10; have a11 := i53a; unfold In at a11; omega
                have n60f : (s53.2.2.1 46 4).toInt ≤ (s53.2.2.1 46 2).toInt := by have b0 : z53c = s53.2.2.1 46 4 := e53b; have b1 : z53a = s53.2.2.1 46 2 := e53; rw [← b0, ← b1]; exact n60e
                have n60g : (z53d).toInt ≤ (z53c).toInt := by have a0 := h2; unfold In at a0; have a1 := r_46_1; unfold In at a1; have a2 := (inv_F hIc13 0 120 rfl v13_102_4); unfold In at a2; have a3 := i22x13; unfold In at a3; have a4 := i22x5; unfold In at a4; have a5 := (inv_F hIc13 0 1000 rfl v13_46_4); unfold In at a5; have a6 := (inv_F hIc13 0 1000 rfl v13_46_2); unfold In at a6; have a7 := i16; unfold In at a7; have a8 := i53d; unfold In at a8; have a9 := i53c; unfold In at a9; have a10 := i53b; unfold In at a10; have a11 := i53a; unfold In at a11; omega
                have n60h : (s53.2.2.1 102 4).toInt ≤ (s53.2.2.1 46 4).toInt := by have b0 : z53d = s53.2.2.1 102 4 := e53c; have b1 : z53c = s53.2.2.1 46 4 := e53b; rw [← b0, ← b1]; exact n60g
                have n60i : (z53b).toInt = 2 → (z53e).toInt ≤ 999999 := by have a0 := h2; unfold In at a0; have a1 := r_46_1; unfold In at a1; have a2 := (inv_F hIc13 0 120 rfl v13_102_4); unfold In at a2; have a3 := i22x13; unfold In at a3; have a4 := i22x5; unfold In at a4; have a5 := (inv_F hIc13 0 1000 rfl v13_46_4); unfold In at a5; have a6 := (inv_F hIc13 0 1000 rfl v13_46_2); unfold In at a6; have a7 := i16; unfold In at a7; have a8 := i53d; unfold In at a8; have a9 := i53c; unfold In at a9; have a10 := i53b; unfold In at a10; have a11 := i53a; unfold In at a11; omega
                have n60j : (s53.2.2.1 46 3).toInt = 2 → (s53.2.2.1 46 5).toInt ≤ 999999 := by have b0 : z53b = s53.2.2.1 46 3 := e53a; have b1 : z53e = s53.2.2.1 46 5 := e53d; rw [← b0, ← b1]; exact n60i
                have n60k : (u_46_4).toInt - (u_102_4).toInt ≤ (z53c).toInt - (z53d).toInt := by have a0 := h2; unfold In at a0; have a1 := r_46_1; unfold In at a1; have a2 := (inv_F hIc13 0 120 rfl v13_102_4); unfold In at a2; have a3 := i22x13; unfold In at a3; have a4 := i22x5; unfold In at a4; have a5 := (inv_F hIc13 0 1000 rfl v13_46_4); unfold In at a5; have a6 := (inv_F hIc13 0 1000 rfl v13_46_2); unfold In at a6; have a7 := i16; unfold In at a7; have a8 := i53d; unfold In at a8; have a9 := i53c; unfold In at a9; have a10 := i53b; unfold In at a10; have a11 := i53a; unfold In at a11; omega
                have n60l : (s.2.2.1 46 4).toInt - (s.2.2.1 102 4).toInt ≤ (s53.2.2.1 46 4).toInt - (s53.2.2.1 102 4).toInt := by have b0 : z53c = s53.2.2.1 46 4 := e53b; have b1 : z53d = s53.2.2.1 102 4 := e53c; rw [← b0, ← b1, ← e_46_4, ← e_102_4]; exact n60k
                exact g_ireturn (gd rfl) rfl (nb01 (in_w 0 1 (in_c 0 rfl) rfl)) (hP _ _ ⟨s53, hI53, (fr_tr rfl (fr_tr rfl hFc13 hF47) hF53), n60b, n60d, n60f, n60h, n60j, n60l, (Int32.ofInt 0), rfl, rfl, in_w 0 1 (in_c 0 rfl) rfl, n60⟩)
            · skip
              exact zn_eq c25 (in_c 1 rfl) rfl
  refine g_enter2 (k := 59) (N := 109801) (by omega) rfl (Nat.le_of_ble_eq_true rfl) ?_
  refine g_aload_n 1 (gd rfl) rfl rfl ?_
  refine g_aload_n 2 (gd rfl) rfl rfl ?_
  refine g_iload_n 3 (gd rfl) rfl rfl ?_
  have n3 : (u_46_2).toInt ≤ (u_46_1).toInt := by have a0 := (inv_F hI 0 120 rfl e_102_4); unfold In at a0; have a1 := (inv_F hI 0 5 rfl e_46_3); unfold In at a1; have a2 := (inv_F hI 0 1000 rfl e_46_4); unfold In at a2; have a3 := r_46_1; unfold In at a3; have a4 := (inv_F hI 0 1000 rfl e_46_2); unfold In at a4; have a5 := h2; unfold In at a5; omega
  have n3a : (u_46_3).toInt = 0 ∨ (u_46_4).toInt + 1 ≤ (u_46_2).toInt := by have a0 := (inv_F hI 0 120 rfl e_102_4); unfold In at a0; have a1 := (inv_F hI 0 5 rfl e_46_3); unfold In at a1; have a2 := (inv_F hI 0 1000 rfl e_46_4); unfold In at a2; have a3 := r_46_1; unfold In at a3; have a4 := (inv_F hI 0 1000 rfl e_46_2); unfold In at a4; have a5 := h2; unfold In at a5; omega
  have n3b : (u_46_4).toInt ≤ (u_46_2).toInt := by have a0 := (inv_F hI 0 120 rfl e_102_4); unfold In at a0; have a1 := (inv_F hI 0 5 rfl e_46_3); unfold In at a1; have a2 := (inv_F hI 0 1000 rfl e_46_4); unfold In at a2; have a3 := r_46_1; unfold In at a3; have a4 := (inv_F hI 0 1000 rfl e_46_2); unfold In at a4; have a5 := h2; unfold In at a5; omega
  have n3c : (u_102_4).toInt ≤ (u_46_4).toInt := by have a0 := (inv_F hI 0 120 rfl e_102_4); unfold In at a0; have a1 := (inv_F hI 0 5 rfl e_46_3); unfold In at a1; have a2 := (inv_F hI 0 1000 rfl e_46_4); unfold In at a2; have a3 := r_46_1; unfold In at a3; have a4 := (inv_F hI 0 1000 rfl e_46_2); unfold In at a4; have a5 := h2; unfold In at a5; omega
  have n3d : (u_46_3).toInt = 2 → (u_46_5).toInt ≤ 999999 := by have a0 := (inv_F hI 0 120 rfl e_102_4); unfold In at a0; have a1 := (inv_F hI 0 5 rfl e_46_3); unfold In at a1; have a2 := (inv_F hI 0 1000 rfl e_46_4); unfold In at a2; have a3 := r_46_1; unfold In at a3; have a4 := (inv_F hI 0 1000 rfl e_46_2); unfold In at a4; have a5 := h2; unfold In at a5; omega
  have n3e : 10 - (x2).toInt < ((kk : Nat) : Int) := by have a0 := (inv_F hI 0 120 rfl e_102_4); unfold In at a0; have a1 := (inv_F hI 0 5 rfl e_46_3); unfold In at a1; have a2 := (inv_F hI 0 1000 rfl e_46_4); unfold In at a2; have a3 := r_46_1; unfold In at a3; have a4 := (inv_F hI 0 1000 rfl e_46_2); unfold In at a4; have a5 := h2; unfold In at a5; omega
  refine g_callv (X := _) (As := [.ref (A 46), .int x2]) (r := []) (b := A 102) (q := 102) 6 (gd rfl) rfl rfl rfl rfl rfl (ww_o rfl) (Nat.le_of_ble_eq_true rfl) (Nat.zero_le _) (Nat.zero_le _) (ih (by omega) hI (in_w 0 10 h2 rfl) e_46_2 e_46_1 e_46_4 e_46_3 e_46_5 e_102_4 (in_w 0 120 r_46_1 rfl) n3 n3a n3b n3c n3d n3e) (fun e u h => h) (fun v u h => ?_)
  obtain ⟨s3, hI3, hF3, n3f, n3g, n3h, n3i, n3j, n3k, z3, rfl, rfl, i3, p3⟩ := h
  obtain ⟨z3a, e3⟩ : ∃ w, w = s3.2.2.1 46 2 := ⟨_, rfl⟩
  have i3a := inv_F hI3 0 1000 rfl e3
  obtain ⟨z3b, e3a⟩ : ∃ w, w = s3.2.2.1 46 3 := ⟨_, rfl⟩
  have i3b := inv_F hI3 0 5 rfl e3a
  obtain ⟨z3c, e3b⟩ : ∃ w, w = s3.2.2.1 46 4 := ⟨_, rfl⟩
  have i3c := inv_F hI3 0 1000 rfl e3b
  obtain ⟨z3d, e3c⟩ : ∃ w, w = s3.2.2.1 102 4 := ⟨_, rfl⟩
  have i3d := inv_F hI3 0 120 rfl e3c
  obtain ⟨z3e, e3d⟩ : ∃ w, w = s3.2.2.1 46 5 := ⟨_, rfl⟩
  rw [← (show z3a = s3.2.2.1 46 2 from e3)] at n3f
  rw [← (show u_46_1 = s3.2.2.1 46 1 from fr_F (e_46_1) hF3 rfl)] at n3f
  rw [← (show z3a = s3.2.2.1 46 2 from e3)] at n3g
  rw [← (show z3b = s3.2.2.1 46 3 from e3a)] at n3g
  rw [← (show z3c = s3.2.2.1 46 4 from e3b)] at n3g
  rw [← (show z3a = s3.2.2.1 46 2 from e3)] at n3h
  rw [← (show z3c = s3.2.2.1 46 4 from e3b)] at n3h
  rw [← (show z3c = s3.2.2.1 46 4 from e3b)] at n3i
  rw [← (show z3d = s3.2.2.1 102 4 from e3c)] at n3i
  rw [← (show z3b = s3.2.2.1 46 3 from e3a)] at n3j
  rw [← (show z3e = s3.2.2.1 46 5 from e3d)] at n3j
  rw [← (show u_46_4 = s.2.2.1 46 4 from e_46_4)] at n3k
  rw [← (show u_102_4 = s.2.2.1 102 4 from e_102_4)] at n3k
  rw [← (show z3c = s3.2.2.1 46 4 from e3b)] at n3k
  rw [← (show z3d = s3.2.2.1 102 4 from e3c)] at n3k
  show GG _ _ _ _ _ _ _ _ [.int z3] _ _ _
  refine g_if_ne 9 11 (gd rfl) rfl rfl (fun c6 => ?_) (fun c6 => ?_)
  · skip
    have i6 := z_ne 1 1 c6 i3 rfl
    refine g_iconst 0 12 (gd rfl) rfl rfl ?_
    refine g_istore_n 13 (gd rfl) rfl (Nat.le_of_ble_eq_true rfl) ?_
    have n13 : (z3a).toInt ≤ (u_46_1).toInt := by have a0 := (inv_F hI 0 120 rfl e_102_4); unfold In at a0; have a1 := (inv_F hI 0 5 rfl e_46_3); unfold In at a1; have a2 := (inv_F hI 0 1000 rfl e_46_4); unfold In at a2; have a3 := r_46_1; unfold In at a3; have a4 := (inv_F hI 0 1000 rfl e_46_2); unfold In at a4; have a5 := h2; unfold In at a5; have a6 := (in_c 0 rfl); unfold In at a6; have a7 := i3d; unfold In at a7; have a8 := i3c; unfold In at a8; have a9 := i3b; unfold In at a9; have a10 := i3a; unfold In at a10; omega
    have n13a : (z3b).toInt = 0 ∨ (z3c).toInt + 1 ≤ (z3a).toInt := by have a0 := (inv_F hI 0 120 rfl e_102_4); unfold In at a0; have a1 := (inv_F hI 0 5 rfl e_46_3); unfold In at a1; have a2 := (inv_F hI 0 1000 rfl e_46_4); unfold In at a2; have a3 := r_46_1; unfold In at a3; have a4 := (inv_F hI 0 1000 rfl e_46_2); unfold In at a4; have a5 := h2; unfold In at a5; have a6 := (in_c 0 rfl); unfold In at a6; have a7 := i3d; unfold In at a7; have a8 := i3c; unfold In at a8; have a9 := i3b; unfold In at a9; have a10 := i3a; unfold In at a10; omega
    have n13b : (z3c).toInt ≤ (z3a).toInt := by have a0 := (inv_F hI 0 120 rfl e_102_4); unfold In at a0; have a1 := (inv_F hI 0 5 rfl e_46_3); unfold In at a1; have a2 := (inv_F hI 0 1000 rfl e_46_4); unfold In at a2; have a3 := r_46_1; unfold In at a3; have a4 := (inv_F hI 0 1000 rfl e_46_2); unfold In at a4; have a5 := h2; unfold In at a5; have a6 := (in_c 0 rfl); unfold In at a6; have a7 := i3d; unfold In at a7; have a8 := i3c; unfold In at a8; have a9 := i3b; unfold In at a9; have a10 := i3a; unfold In at a10; omega
    have n13c : (z3d).toInt ≤ (z3c).toInt := by have a0 := (inv_F hI 0 120 rfl e_102_4); unfold In at a0; have a1 := (inv_F hI 0 5 rfl e_46_3); unfold In at a1; have a2 := (inv_F hI 0 1000 rfl e_46_4); unfold In at a2; have a3 := r_46_1; unfold In at a3; have a4 := (inv_F hI 0 1000 rfl e_46_2); unfold In at a4; have a5 := h2; unfold In at a5; have a6 := (in_c 0 rfl); unfold In at a6; have a7 := i3d; unfold In at a7; have a8 := i3c; unfold In at a8; have a9 := i3b; unfold In at a9; have a10 := i3a; unfold In at a10; omega
    have n13d : (z3b).toInt = 2 → (z3e).toInt ≤ 999999 := by have a0 := (inv_F hI 0 120 rfl e_102_4); unfold In at a0; have a1 := (inv_F hI 0 5 rfl e_46_3); unfold In at a1; have a2 := (inv_F hI 0 1000 rfl e_46_4); unfold In at a2; have a3 := r_46_1; unfold In at a3; have a4 := (inv_F hI 0 1000 rfl e_46_2); unfold In at a4; have a5 := h2; unfold In at a5; have a6 := (in_c 0 rfl); unfold In at a6; have a7 := i3d; unfold In at a7; have a8 := i3c; unfold In at a8; have a9 := i3b; unfold In at a9; have a10 := i3a; unfold In at a10; omega
    have n13e : (u_46_4).toInt - (u_102_4).toInt ≤ (z3c).toInt - (z3d).toInt := by have a0 := (inv_F hI 0 120 rfl e_102_4); unfold In at a0; have a1 := (inv_F hI 0 5 rfl e_46_3); unfold In at a1; have a2 := (inv_F hI 0 1000 rfl e_46_4); unfold In at a2; have a3 := r_46_1; unfold In at a3; have a4 := (inv_F hI 0 1000 rfl e_46_2); unfold In at a4; have a5 := h2; unfold In at a5; have a6 := (in_c 0 rfl); unfold In at a6; have a7 := i3d; unfold In at a7; have a8 := i3c; unfold In at a8; have a9 := i3b; unfold In at a9; have a10 := i3a; unfold In at a10; omega
    have n13f : PCV s s3 1 := by exact p3 c6
    exact gg_w (by omega) (gg_f (gf_cons rfl (gf_cons rfl (gf_cons rfl (gf_cons rfl gf_nil)))) (ct13 121 s3 (Int32.ofInt 0) z3a z3c z3b z3e z3d hI3 (fr_tr rfl fr_rf hF3) (in_w 0 120 (in_c 0 rfl) rfl) e3 e3b e3a e3d e3c n13 n13a n13b n13c n13d n13e n13f (m_in 121 (in_w 0 120 (in_c 0 rfl) rfl) rfl)))
  · skip
    have i6 := z_eq 0 0 c6 i3 rfl
    refine g_iconst 0 10 (gd rfl) rfl rfl ?_
    have n10 : ((Int32.ofInt 0)).toInt ≠ 0 → PCV s s3 1 := by first | (intro _; exact g13_0) | (intro h; exact absurd rfl h)
    have n10a : (z3a).toInt ≤ (u_46_1).toInt := by have a0 := (inv_F hI 0 120 rfl e_102_4); unfold In at a0; have a1 := (inv_F hI 0 5 rfl e_46_3); unfold In at a1; have a2 := (inv_F hI 0 1000 rfl e_46_4); unfold In at a2; have a3 := r_46_1; unfold In at a3; have a4 := (inv_F hI 0 1000 rfl e_46_2); unfold In at a4; have a5 := h2; unfold In at a5; have a6 := i3d; unfold In at a6; have a7 := i3c; unfold In at a7; have a8 := i3b; unfold In at a8; have a9 := i3a; unfold In at a9; omega
    have n10b : (s3.2.2.1 46 2).toInt ≤ (s3.2.2.1 46 1).toInt := by have b0 : z3a = s3.2.2.1 46 2 := e3; have b1 : u_46_1 = s3.2.2.1 46 1 := fr_F (e_46_1) hF3 rfl; rw [← b0, ← b1]; exact n10a
    have n10c : (z3b).toInt = 0 ∨ (z3c).toInt + 1 ≤ (z3a).toInt := by have a0 := (inv_F hI 0 120 rfl e_102_4); unfold In at a0; have a1 := (inv_F hI 0 5 rfl e_46_3); unfold In at a1; have a2 := (inv_F hI 0 1000 rfl e_46_4); unfold In at a2; have a3 := r_46_1; unfold In at a3; have a4 := (inv_F hI 0 1000 rfl e_46_2); unfold In at a4; have a5 := h2; unfold In at a5; have a6 := i3d; unfold In at a6; have a7 := i3c; unfold In at a7; have a8 := i3b; unfold In at a8; have a9 := i3a; unfold In at a9; omega
    have n10d : (s3.2.2.1 46 3).toInt = 0 ∨ (s3.2.2.1 46 4).toInt + 1 ≤ (s3.2.2.1 46 2).toInt := by have b0 : z3b = s3.2.2.1 46 3 := e3a; have b1 : z3c = s3.2.2.1 46 4 := e3b; have b2 : z3a = s3.2.2.1 46 2 := e3; rw [← b0, ← b1, ← b2]; exact n10c
    have n10e : (z3c).toInt ≤ (z3a).toInt := by have a0 := (inv_F hI 0 120 rfl e_102_4); unfold In at a0; have a1 := (inv_F hI 0 5 rfl e_46_3); unfold In at a1; have a2 := (inv_F hI 0 1000 rfl e_46_4); unfold In at a2; have a3 := r_46_1; unfold In at a3; have a4 := (inv_F hI 0 1000 rfl e_46_2); unfold In at a4; have a5 := h2; unfold In at a5; have a6 := i3d; unfold In at a6; have a7 := i3c; unfold In at a7; have a8 := i3b; unfold In at a8; have a9 := i3a; unfold In at a9; omega
    have n10f : (s3.2.2.1 46 4).toInt ≤ (s3.2.2.1 46 2).toInt := by have b0 : z3c = s3.2.2.1 46 4 := e3b; have b1 : z3a = s3.2.2.1 46 2 := e3; rw [← b0, ← b1]; exact n10e
    have n10g : (z3d).toInt ≤ (z3c).toInt := by have a0 := (inv_F hI 0 120 rfl e_102_4); unfold In at a0; have a1 := (inv_F hI 0 5 rfl e_46_3); unfold In at a1; have a2 := (inv_F hI 0 1000 rfl e_46_4); unfold In at a2; have a3 := r_46_1; unfold In at a3; have a4 := (inv_F hI 0 1000 rfl e_46_2); unfold In at a4; have a5 := h2; unfold In at a5; have a6 := i3d; unfold In at a6; have a7 := i3c; unfold In at a7; have a8 := i3b; unfold In at a8; have a9 := i3a; unfold In at a9; omega
    have n10h : (s3.2.2.1 102 4).toInt ≤ (s3.2.2.1 46 4).toInt := by have b0 : z3d = s3.2.2.1 102 4 := e3c; have b1 : z3c = s3.2.2.1 46 4 := e3b; rw [← b0, ← b1]; exact n10g
    have n10i : (z3b).toInt = 2 → (z3e).toInt ≤ 999999 := by have a0 := (inv_F hI 0 120 rfl e_102_4); unfold In at a0; have a1 := (inv_F hI 0 5 rfl e_46_3); unfold In at a1; have a2 := (inv_F hI 0 1000 rfl e_46_4); unfold In at a2; have a3 := r_46_1; unfold In at a3; have a4 := (inv_F hI 0 1000 rfl e_46_2); unfold In at a4; have a5 := h2; unfold In at a5; have a6 := i3d; unfold In at a6; have a7 := i3c; unfold In at a7; have a8 := i3b; unfold In at a8; have a9 := i3a; unfold In at a9; omega
    have n10j : (s3.2.2.1 46 3).toInt = 2 → (s3.2.2.1 46 5).toInt ≤ 999999 := by have b0 : z3b = s3.2.2.1 46 3 := e3a; have b1 : z3e = s3.2.2.1 46 5 := e3d; rw [← b0, ← b1]; exact n10i
    have n10k : (u_46_4).toInt - (u_102_4).toInt ≤ (z3c).toInt - (z3d).toInt := by have a0 := (inv_F hI 0 120 rfl e_102_4); unfold In at a0; have a1 := (inv_F hI 0 5 rfl e_46_3); unfold In at a1; have a2 := (inv_F hI 0 1000 rfl e_46_4); unfold In at a2; have a3 := r_46_1; unfold In at a3; have a4 := (inv_F hI 0 1000 rfl e_46_2); unfold In at a4; have a5 := h2; unfold In at a5; have a6 := i3d; unfold In at a6; have a7 := i3c; unfold In at a7; have a8 := i3b; unfold In at a8; have a9 := i3a; unfold In at a9; omega
    have n10l : (s.2.2.1 46 4).toInt - (s.2.2.1 102 4).toInt ≤ (s3.2.2.1 46 4).toInt - (s3.2.2.1 102 4).toInt := by have b0 : z3c = s3.2.2.1 46 4 := e3b; have b1 : z3d = s3.2.2.1 102 4 := e3c; rw [← b0, ← b1, ← e_46_4, ← e_102_4]; exact n10k
    exact g_ireturn (gd rfl) rfl (nb01 (in_w 0 1 (in_c 0 rfl) rfl)) (hP _ _ ⟨s3, hI3, (fr_tr rfl fr_rf hF3), n10b, n10d, n10f, n10h, n10j, n10l, (Int32.ofInt 0), rfl, rfl, in_w 0 1 (in_c 0 rfl) rfl, n10⟩)
theorem k_58_102_46_r {Z : AmZ} {A : Nat → Nat} {ex : va_W} (kk : Nat) (ih : ∀ {s : GS} {d : Nat} {X : AmX} {x2 : Int32} {u_46_2 : Int32} {u_46_1 : Int32} {u_46_4 : Int32} {u_46_3 : Int32} {u_46_5 : Int32} {u_102_4 : Int32}, 70 + kk * 20 ≤ d → Inv s → In x2 0 10 → u_46_2 = s.2.2.1 46 2 → u_46_1 = s.2.2.1 46 1 → u_46_4 = s.2.2.1 46 4 → u_46_3 = s.2.2.1 46 3 → u_46_5 = s.2.2.1 46 5 → u_102_4 = s.2.2.1 102 4 → In u_46_1 0 120 → (u_46_2).toInt ≤ (u_46_1).toInt → (u_46_3).toInt = 0 ∨ (u_46_4).toInt + 1 ≤ (u_46_2).toInt → (u_46_4).toInt ≤ (u_46_2).toInt → (u_102_4).toInt ≤ (u_46_4).toInt → (u_46_3).toInt = 2 → (u_46_5).toInt ≤ 999999 → 10 - (x2).toInt < ((kk : Nat) : Int) → GC Z d 59 [.ref (A 102), .ref (A 46), .int x2] (WW Z A s ++ ex) 0 0 (fun v u => ∃ t : GS, Inv t ∧ Fr fm_59_102_46 s t ∧ ((t.2.2.1 46 2).toInt ≤ (t.2.2.1 46 1).toInt) ∧ ((t.2.2.1 46 3).toInt = 0 ∨ (t.2.2.1 46 4).toInt + 1 ≤ (t.2.2.1 46 2).toInt) ∧ ((t.2.2.1 46 4).toInt ≤ (t.2.2.1 46 2).toInt) ∧ ((t.2.2.1 102 4).toInt ≤ (t.2.2.1 46 4).toInt) ∧ ((t.2.2.1 46 3).toInt = 2 → (t.2.2.1 46 5).toInt ≤ 999999) ∧ ((s.2.2.1 46 4).toInt - (s.2.2.1 102 4).toInt ≤ (t.2.2.1 46 4).toInt - (t.2.2.1 102 4).toInt) ∧ ∃ z : Int32, v = some (.int z) ∧ u = WW Z A t ++ ex ∧ In z 0 1 ∧ ((z).toInt ≠ 0 → PCV s t 1)) X) : ∀ {s : GS} {d : Nat} {X : AmX} {x2 : Int32} {u_46_2 : Int32} {u_46_1 : Int32} {u_46_4 : Int32} {u_46_3 : Int32} {u_46_5 : Int32} {u_102_4 : Int32}, 75 + kk * 20 ≤ d → Inv s → In x2 0 10 → u_46_2 = s.2.2.1 46 2 → u_46_1 = s.2.2.1 46 1 → u_46_4 = s.2.2.1 46 4 → u_46_3 = s.2.2.1 46 3 → u_46_5 = s.2.2.1 46 5 → u_102_4 = s.2.2.1 102 4 → In u_46_1 0 120 → (u_46_2).toInt ≤ (u_46_1).toInt → (u_46_3).toInt = 0 ∨ (u_46_4).toInt + 1 ≤ (u_46_2).toInt → (u_46_4).toInt ≤ (u_46_2).toInt → (u_102_4).toInt ≤ (u_46_4).toInt → (u_46_3).toInt = 2 → (u_46_5).toInt ≤ 999999 → 10 - (x2).toInt < ((kk : Nat) : Int) → GC Z d 58 [.ref (A 102), .ref (A 46), .int x2] (WW Z A s ++ ex) 0 0 (fun v u => ∃ t : GS, Inv t ∧ Fr fm_58_102_46 s t ∧ ((t.2.2.1 46 2).toInt ≤ (t.2.2.1 46 1).toInt) ∧ ((t.2.2.1 46 3).toInt = 0 ∨ (t.2.2.1 46 4).toInt + 1 ≤ (t.2.2.1 46 2).toInt) ∧ ((t.2.2.1 46 4).toInt ≤ (t.2.2.1 46 2).toInt) ∧ ((t.2.2.1 102 4).toInt ≤ (t.2.2.1 46 4).toInt) ∧ ((t.2.2.1 46 3).toInt = 2 → (t.2.2.1 46 5).toInt ≤ 999999) ∧ ((s.2.2.1 46 4).toInt - (s.2.2.1 102 4).toInt ≤ (t.2.2.1 46 4).toInt - (t.2.2.1 102 4).toInt) ∧ ∃ z : Int32, v = some (.int z) ∧ u = WW Z A t ++ ex ∧ In z 0 1 ∧ ((z).toInt ≠ 0 → PCV s t 1)) X := by
  intro s d X x2 u_46_2 u_46_1 u_46_4 u_46_3 u_46_5 u_102_4 hd hI h2 e_46_2 e_46_1 e_46_4 e_46_3 e_46_5 e_102_4 r_46_1 p_0 p_1 p_2 p_3 p_4 hm
  intro post xp hP hX
  refine g_enter2 (k := 58) (N := 900) (by omega) rfl (Nat.le_of_ble_eq_true rfl) ?_
  refine g_aload_n 1 (gd rfl) rfl rfl ?_
  refine g_aload_n 2 (gd rfl) rfl rfl ?_
  refine g_iload_n 3 (gd rfl) rfl rfl ?_
  have n3 : (u_46_2).toInt ≤ (u_46_1).toInt := by have a0 := (inv_F hI 0 120 rfl e_102_4); unfold In at a0; have a1 := (inv_F hI 0 5 rfl e_46_3); unfold In at a1; have a2 := (inv_F hI 0 1000 rfl e_46_4); unfold In at a2; have a3 := r_46_1; unfold In at a3; have a4 := (inv_F hI 0 1000 rfl e_46_2); unfold In at a4; have a5 := h2; unfold In at a5; omega
  have n3a : (u_46_3).toInt = 0 ∨ (u_46_4).toInt + 1 ≤ (u_46_2).toInt := by have a0 := (inv_F hI 0 120 rfl e_102_4); unfold In at a0; have a1 := (inv_F hI 0 5 rfl e_46_3); unfold In at a1; have a2 := (inv_F hI 0 1000 rfl e_46_4); unfold In at a2; have a3 := r_46_1; unfold In at a3; have a4 := (inv_F hI 0 1000 rfl e_46_2); unfold In at a4; have a5 := h2; unfold In at a5; omega
  have n3b : (u_46_4).toInt ≤ (u_46_2).toInt := by have a0 := (inv_F hI 0 120 rfl e_102_4); unfold In at a0; have a1 := (inv_F hI 0 5 rfl e_46_3); unfold In at a1; have a2 := (inv_F hI 0 1000 rfl e_46_4); unfold In at a2; have a3 := r_46_1; unfold In at a3; have a4 := (inv_F hI 0 1000 rfl e_46_2); unfold In at a4; have a5 := h2; unfold In at a5; omega
  have n3c : (u_102_4).toInt ≤ (u_46_4).toInt := by have a0 := (inv_F hI 0 120 rfl e_102_4); unfold In at a0; have a1 := (inv_F hI 0 5 rfl e_46_3); unfold In at a1; have a2 := (inv_F hI 0 1000 rfl e_46_4); unfold In at a2; have a3 := r_46_1; unfold In at a3; have a4 := (inv_F hI 0 1000 rfl e_46_2); unfold In at a4; have a5 := h2; unfold In at a5; omega
  have n3d : (u_46_3).toInt = 2 → (u_46_5).toInt ≤ 999999 := by have a0 := (inv_F hI 0 120 rfl e_102_4); unfold In at a0; have a1 := (inv_F hI 0 5 rfl e_46_3); unfold In at a1; have a2 := (inv_F hI 0 1000 rfl e_46_4); unfold In at a2; have a3 := r_46_1; unfold In at a3; have a4 := (inv_F hI 0 1000 rfl e_46_2); unfold In at a4; have a5 := h2; unfold In at a5; omega
  have n3e : 10 - (x2).toInt < ((kk : Nat) : Int) := by have a0 := (inv_F hI 0 120 rfl e_102_4); unfold In at a0; have a1 := (inv_F hI 0 5 rfl e_46_3); unfold In at a1; have a2 := (inv_F hI 0 1000 rfl e_46_4); unfold In at a2; have a3 := r_46_1; unfold In at a3; have a4 := (inv_F hI 0 1000 rfl e_46_2); unfold In at a4; have a5 := h2; unfold In at a5; omega
  refine g_callv (X := _) (As := [.ref (A 46), .int x2]) (r := []) (b := A 102) (q := 102) 6 (gd rfl) rfl rfl rfl rfl rfl (ww_o rfl) (Nat.le_of_ble_eq_true rfl) (Nat.zero_le _) (Nat.zero_le _) (ih (by omega) hI (in_w 0 10 h2 rfl) e_46_2 e_46_1 e_46_4 e_46_3 e_46_5 e_102_4 (in_w 0 120 r_46_1 rfl) n3 n3a n3b n3c n3d n3e) (fun e u h => h) (fun v u h => ?_)
  obtain ⟨s3, hI3, hF3, n3f, n3g, n3h, n3i, n3j, n3k, z3, rfl, rfl, i3, p3⟩ := h
  obtain ⟨z3a, e3⟩ : ∃ w, w = s3.2.2.1 46 2 := ⟨_, rfl⟩
  have i3a := inv_F hI3 0 1000 rfl e3
  obtain ⟨z3b, e3a⟩ : ∃ w, w = s3.2.2.1 46 3 := ⟨_, rfl⟩
  have i3b := inv_F hI3 0 5 rfl e3a
  obtain ⟨z3c, e3b⟩ : ∃ w, w = s3.2.2.1 46 4 := ⟨_, rfl⟩
  have i3c := inv_F hI3 0 1000 rfl e3b
  obtain ⟨z3d, e3c⟩ : ∃ w, w = s3.2.2.1 102 4 := ⟨_, rfl⟩
  have i3d := inv_F hI3 0 120 rfl e3c
  obtain ⟨z3e, e3d⟩ : ∃ w, w = s3.2.2.1 46 5 := ⟨_, rfl⟩
  rw [← (show z3a = s3.2.2.1 46 2 from e3)] at n3f
  rw [← (show u_46_1 = s3.2.2.1 46 1 from fr_F (e_46_1) hF3 rfl)] at n3f
  rw [← (show z3a = s3.2.2.1 46 2 from e3)] at n3g
  rw [← (show z3b = s3.2.2.1 46 3 from e3a)] at n3g
  rw [← (show z3c = s3.2.2.1 46 4 from e3b)] at n3g
  rw [← (show z3a = s3.2.2.1 46 2 from e3)] at n3h
  rw [← (show z3c = s3.2.2.1 46 4 from e3b)] at n3h
  rw [← (show z3c = s3.2.2.1 46 4 from e3b)] at n3i
  rw [← (show z3d = s3.2.2.1 102 4 from e3c)] at n3i
  rw [← (show z3b = s3.2.2.1 46 3 from e3a)] at n3j
  rw [← (show z3e = s3.2.2.1 46 5 from e3d)] at n3j
  rw [← (show u_46_4 = s.2.2.1 46 4 from e_46_4)] at n3k
  rw [← (show u_102_4 = s.2.2.1 102 4 from e_102_4)] at n3k
  rw [← (show z3c = s3.2.2.1 46 4 from e3b)] at n3k
  rw [← (show z3d = s3.2.2.1 102 4 from e3c)] at n3k
  show GG _ _ _ _ _ _ _ _ [.int z3] _ _ _
  refine g_if_ne 9 11 (gd rfl) rfl rfl (fun c6 => ?_) (fun c6 => ?_)
  · skip
    have i6 := z_ne 1 1 c6 i3 rfl
    refine g_aload_n 12 (gd rfl) rfl rfl ?_
    refine g_bipush 60 14 (gd rfl) rfl rfl ?_
    refine g_callv (X := _) (As := [.int (Int32.ofInt 60)]) (r := []) (b := A 46) (q := 46) 17 (gd rfl) rfl rfl rfl rfl rfl (ww_o rfl) (Nat.le_of_ble_eq_true rfl) (mc := 0) (ms := 0) (Nat.zero_le _) (Nat.zero_le _) (P := fun v u => _) ?_ (fun e u h => h) (fun v u h => h)
    intro po14 xx14 hp14 hx14
    refine g_enter2 (k := 170) (N := 300) (by omega) rfl (Nat.le_of_ble_eq_true rfl) ?_
    refine g_aload_n 1 (gd rfl) rfl rfl ?_
    refine g_getI 4 (gd rfl) rfl rfl rfl (fun z14x1 e14x1 => ?_)
    have q14x1 : z3b = z14x1 := (e3a).trans e14x1.symm
    subst q14x1
    refine g_iconst 3 5 (gd rfl) rfl rfl ?_
    refine g_cmp_ne 8 20 (gd rfl) rfl rfl (fun c14x5 => ?_) (fun c14x5 => ?_)
    · skip
      refine g_iconst 0 21 (gd rfl) rfl rfl ?_
      refine g_ireturn (gd rfl) rfl (nb01 (in_w 0 1 (in_c 0 rfl) rfl)) (hp14 _ _ ?_)
      show GG _ _ _ _ _ _ _ _ [.int (Int32.ofInt 0)] _ _ _
      refine g_if_ne 20 31 (gd rfl) rfl rfl (fun c17 => ?_) (fun c17 => ?_)
      · skip
        exact zn_ne c17 (in_c 0 rfl) rfl
      · skip
        refine g_aload_n 21 (gd rfl) rfl rfl ?_
        refine g_bipush 61 23 (gd rfl) rfl rfl ?_
        refine g_callv (X := _) (As := [.int (Int32.ofInt 61)]) (r := []) (b := A 46) (q := 46) 26 (gd rfl) rfl rfl rfl rfl rfl (ww_o rfl) (Nat.le_of_ble_eq_true rfl) (mc := 0) (ms := 0) (Nat.zero_le _) (Nat.zero_le _) (P := fun v u => _) ?_ (fun e u h => h) (fun v u h => h)
        intro po23 xx23 hp23 hx23
        refine g_enter2 (k := 170) (N := 300) (by omega) rfl (Nat.le_of_ble_eq_true rfl) ?_
        refine g_aload_n 1 (gd rfl) rfl rfl ?_
        refine g_getI 4 (gd rfl) rfl rfl rfl (fun z23x1 e23x1 => ?_)
        have q23x1 : z3b = z23x1 := (e3a).trans e23x1.symm
        subst q23x1
        refine g_iconst 3 5 (gd rfl) rfl rfl ?_
        refine g_cmp_ne 8 20 (gd rfl) rfl rfl (fun c23x5 => ?_) (fun c23x5 => ?_)
        · skip
          refine g_iconst 0 21 (gd rfl) rfl rfl ?_
          refine g_ireturn (gd rfl) rfl (nb01 (in_w 0 1 (in_c 0 rfl) rfl)) (hp23 _ _ ?_)
          show GG _ _ _ _ _ _ _ _ [.int (Int32.ofInt 0)] _ _ _
          refine g_if_ne 29 31 (gd rfl) rfl rfl (fun c26 => ?_) (fun c26 => ?_)
          · skip
            exact zn_ne c26 (in_c 0 rfl) rfl
          · skip
            refine g_iconst 1 30 (gd rfl) rfl rfl ?_
            have n30 : ((Int32.ofInt 1)).toInt ≠ 0 → PCV s s3 1 := by first | (intro _; exact p3 c6) | (intro h; exact absurd rfl h)
            have n30a : (z3a).toInt ≤ (u_46_1).toInt := by have a0 := (inv_F hI 0 120 rfl e_102_4); unfold In at a0; have a1 := (inv_F hI 0 5 rfl e_46_3); unfold In at a1; have a2 := (inv_F hI 0 1000 rfl e_46_4); unfold In at a2; have a3 := r_46_1; unfold In at a3; have a4 := (inv_F hI 0 1000 rfl e_46_2); unfold In at a4; have a5 := h2; unfold In at a5; have a6 := i3d; unfold In at a6; have a7 := i3c; unfold In at a7; have a8 := i3b; unfold In at a8; have a9 := i3a; unfold In at a9; omega
            have n30b : (s3.2.2.1 46 2).toInt ≤ (s3.2.2.1 46 1).toInt := by have b0 : z3a = s3.2.2.1 46 2 := e3; have b1 : u_46_1 = s3.2.2.1 46 1 := fr_F (e_46_1) hF3 rfl; rw [← b0, ← b1]; exact n30a
            have n30c : (z3b).toInt = 0 ∨ (z3c).toInt + 1 ≤ (z3a).toInt := by have a0 := (inv_F hI 0 120 rfl e_102_4); unfold In at a0; have a1 := (inv_F hI 0 5 rfl e_46_3); unfold In at a1; have a2 := (inv_F hI 0 1000 rfl e_46_4); unfold In at a2; have a3 := r_46_1; unfold In at a3; have a4 := (inv_F hI 0 1000 rfl e_46_2); unfold In at a4; have a5 := h2; unfold In at a5; have a6 := i3d; unfold In at a6; have a7 := i3c; unfold In at a7; have a8 := i3b; unfold In at a8; have a9 := i3a; unfold In at a9; omega
            have n30d : (s3.2.2.1 46 3).toInt = 0 ∨ (s3.2.2.1 46 4).toInt + 1 ≤ (s3.2.2.1 46 2).toInt := by have b0 : z3b = s3.2.2.1 46 3 := e3a; have b1 : z3c = s3.2.2.1 46 4 := e3b; have b2 : z3a = s3.2.2.1 46 2 := e3; rw [← b0, ← b1, ← b2]; exact n30c
            have n30e : (z3c).toInt ≤ (z3a).toInt := by have a0 := (inv_F hI 0 120 rfl e_102_4); unfold In at a0; have a1 := (inv_F hI 0 5 rfl e_46_3); unfold In at a1; have a2 := (inv_F hI 0 1000 rfl e_46_4); unfold In at a2; have a3 := r_46_1; unfold In at a3; have a4 := (inv_F hI 0 1000 rfl e_46_2); unfold In at a4; have a5 := h2; unfold In at a5; have a6 := i3d; unfold In at a6; have a7 := i3c; unfold In at a7; have a8 := i3b; unfold In at a8; have a9 := i3a; unfold In at a9; omega
            have n30f : (s3.2.2.1 46 4).toInt ≤ (s3.2.2.1 46 2).toInt := by have b0 : z3c = s3.2.2.1 46 4 := e3b; have b1 : z3a = s3.2.2.1 46 2 := e3; rw [← b0, ← b1]; exact n30e
            have n30g : (z3d).toInt ≤ (z3c).toInt := by have a0 := (inv_F hI 0 120 rfl e_102_4); unfold In at a0; have a1 := (inv_F hI 0 5 rfl e_46_3); unfold In at a1; have a2 := (inv_F hI 0 1000 rfl e_46_4); unfold In at a2; have a3 := r_46_1; unfold In at a3; have a4 := (inv_F hI 0 1000 rfl e_46_2); unfold In at a4; have a5 := h2; unfold In at a5; have a6 := i3d; unfold In at a6; have a7 := i3c; unfold In at a7; have a8 := i3b; unfold In at a8; have a9 := i3a; unfold In at a9; omega
            have n30h : (s3.2.2.1 102 4).toInt ≤ (s3.2.2.1 46 4).toInt := by have b0 : z3d = s3.2.2.1 102 4 := e3c; have b1 : z3c = s3.2.2.1 46 4 := e3b; rw [← b0, ← b1]; exact n30g
            have n30i : (z3b).toInt = 2 → (z3e).toInt ≤ 999999 := by have a0 := (inv_F hI 0 120 rfl e_102_4); unfold In at a0; have a1 := (inv_F hI 0 5 rfl e_46_3); unfold In at a1; have a2 := (inv_F hI 0 1000 rfl e_46_4); unfold In at a2; have a3 := r_46_1; unfold In at a3; have a4 := (inv_F hI 0 1000 rfl e_46_2); unfold In at a4; have a5 := h2; unfold In at a5; have a6 := i3d; unfold In at a6; have a7 := i3c; unfold In at a7; have a8 := i3b; unfold In at a8; have a9 := i3a; unfold In at a9; omega
            have n30j : (s3.2.2.1 46 3).toInt = 2 → (s3.2.2.1 46 5).toInt ≤ 999999 := by have b0 : z3b = s3.2.2.1 46 3 := e3a; have b1 : z3e = s3.2.2.1 46 5 := e3d; rw [← b0, ← b1]; exact n30i
            have n30k : (u_46_4).toInt - (u_102_4).toInt ≤ (z3c).toInt - (z3d).toInt := by have a0 := (inv_F hI 0 120 rfl e_102_4); unfold In at a0; have a1 := (inv_F hI 0 5 rfl e_46_3); unfold In at a1; have a2 := (inv_F hI 0 1000 rfl e_46_4); unfold In at a2; have a3 := r_46_1; unfold In at a3; have a4 := (inv_F hI 0 1000 rfl e_46_2); unfold In at a4; have a5 := h2; unfold In at a5; have a6 := i3d; unfold In at a6; have a7 := i3c; unfold In at a7; have a8 := i3b; unfold In at a8; have a9 := i3a; unfold In at a9; omega
            have n30l : (s.2.2.1 46 4).toInt - (s.2.2.1 102 4).toInt ≤ (s3.2.2.1 46 4).toInt - (s3.2.2.1 102 4).toInt := by have b0 : z3c = s3.2.2.1 46 4 := e3b; have b1 : z3d = s3.2.2.1 102 4 := e3c; rw [← b0, ← b1, ← e_46_4, ← e_102_4]; exact n30k
            exact g_ireturn (gd rfl) rfl (nb01 (in_w 0 1 (in_c 1 rfl) rfl)) (hP _ _ ⟨s3, hI3, (fr_tr rfl fr_rf hF3), n30b, n30d, n30f, n30h, n30j, n30l, (Int32.ofInt 1), rfl, rfl, in_w 0 1 (in_c 1 rfl) rfl, n30⟩)
        · skip
          exact absurd c23x5 c14x5
    · skip
      have i14x5 := r_eq1 3 3 c14x5 i3b (in_c 3 rfl) rfl
      refine g_aload_n 9 (gd rfl) rfl rfl ?_
      refine g_getI 12 (gd rfl) rfl rfl rfl (fun z14x9 e14x9 => ?_)
      have q14x9 : z3e = z14x9 := (e3d).trans e14x9.symm
      subst q14x9
      refine g_iload_n 13 (gd rfl) rfl rfl ?_
      refine g_cmp_ne 16 20 (gd rfl) rfl rfl (fun c14x13 => ?_) (fun c14x13 => ?_)
      · skip
        refine g_iconst 0 21 (gd rfl) rfl rfl ?_
        refine g_ireturn (gd rfl) rfl (nb01 (in_w 0 1 (in_c 0 rfl) rfl)) (hp14 _ _ ?_)
        show GG _ _ _ _ _ _ _ _ [.int (Int32.ofInt 0)] _ _ _
        refine g_if_ne 20 31 (gd rfl) rfl rfl (fun c17 => ?_) (fun c17 => ?_)
        · skip
          exact zn_ne c17 (in_c 0 rfl) rfl
        · skip
          refine g_aload_n 21 (gd rfl) rfl rfl ?_
          refine g_bipush 61 23 (gd rfl) rfl rfl ?_
          refine g_callv (X := _) (As := [.int (Int32.ofInt 61)]) (r := []) (b := A 46) (q := 46) 26 (gd rfl) rfl rfl rfl rfl rfl (ww_o rfl) (Nat.le_of_ble_eq_true rfl) (mc := 0) (ms := 0) (Nat.zero_le _) (Nat.zero_le _) (P := fun v u => _) ?_ (fun e u h => h) (fun v u h => h)
          intro po23 xx23 hp23 hx23
          refine g_enter2 (k := 170) (N := 300) (by omega) rfl (Nat.le_of_ble_eq_true rfl) ?_
          refine g_aload_n 1 (gd rfl) rfl rfl ?_
          refine g_getI 4 (gd rfl) rfl rfl rfl (fun z23x1 e23x1 => ?_)
          have q23x1 : z3b = z23x1 := (e3a).trans e23x1.symm
          subst q23x1
          refine g_iconst 3 5 (gd rfl) rfl rfl ?_
          refine g_cmp_ne 8 20 (gd rfl) rfl rfl (fun c23x5 => ?_) (fun c23x5 => ?_)
          · skip
            exact n_ne c23x5 i14x5 (in_c 3 rfl) rfl
          · skip
            refine g_aload_n 9 (gd rfl) rfl rfl ?_
            refine g_getI 12 (gd rfl) rfl rfl rfl (fun z23x9 e23x9 => ?_)
            have q23x9 : z3e = z23x9 := (e3d).trans e23x9.symm
            subst q23x9
            refine g_iload_n 13 (gd rfl) rfl rfl ?_
            refine g_cmp_ne 16 20 (gd rfl) rfl rfl (fun c23x13 => ?_) (fun c23x13 => ?_)
            · skip
              refine g_iconst 0 21 (gd rfl) rfl rfl ?_
              refine g_ireturn (gd rfl) rfl (nb01 (in_w 0 1 (in_c 0 rfl) rfl)) (hp23 _ _ ?_)
              show GG _ _ _ _ _ _ _ _ [.int (Int32.ofInt 0)] _ _ _
              refine g_if_ne 29 31 (gd rfl) rfl rfl (fun c26 => ?_) (fun c26 => ?_)
              · skip
                exact zn_ne c26 (in_c 0 rfl) rfl
              · skip
                refine g_iconst 1 30 (gd rfl) rfl rfl ?_
                have n30 : ((Int32.ofInt 1)).toInt ≠ 0 → PCV s s3 1 := by first | (intro _; exact p3 c6) | (intro h; exact absurd rfl h)
                have n30a : (z3a).toInt ≤ (u_46_1).toInt := by have a0 := (inv_F hI 0 120 rfl e_102_4); unfold In at a0; have a1 := (inv_F hI 0 5 rfl e_46_3); unfold In at a1; have a2 := (inv_F hI 0 1000 rfl e_46_4); unfold In at a2; have a3 := r_46_1; unfold In at a3; have a4 := (inv_F hI 0 1000 rfl e_46_2); unfold In at a4; have a5 := h2; unfold In at a5; have a6 := i3d; unfold In at a6; have a7 := i3c; unfold In at a7; have a8 := i14x5; unfold In at a8; have a9 := i3a; unfold In at a9; omega
                have n30b : (s3.2.2.1 46 2).toInt ≤ (s3.2.2.1 46 1).toInt := by have b0 : z3a = s3.2.2.1 46 2 := e3; have b1 : u_46_1 = s3.2.2.1 46 1 := fr_F (e_46_1) hF3 rfl; rw [← b0, ← b1]; exact n30a
                have n30c : (z3b).toInt = 0 ∨ (z3c).toInt + 1 ≤ (z3a).toInt := by have a0 := (inv_F hI 0 120 rfl e_102_4); unfold In at a0; have a1 := (inv_F hI 0 5 rfl e_46_3); unfold In at a1; have a2 := (inv_F hI 0 1000 rfl e_46_4); unfold In at a2; have a3 := r_46_1; unfold In at a3; have a4 := (inv_F hI 0 1000 rfl e_46_2); unfold In at a4; have a5 := h2; unfold In at a5; have a6 := i3d; unfold In at a6; have a7 := i3c; unfold In at a7; have a8 := i14x5; unfold In at a8; have a9 := i3a; unfold In at a9; omega
                have n30d : (s3.2.2.1 46 3).toInt = 0 ∨ (s3.2.2.1 46 4).toInt + 1 ≤ (s3.2.2.1 46 2).toInt := by have b0 : z3b = s3.2.2.1 46 3 := e3a; have b1 : z3c = s3.2.2.1 46 4 := e3b; have b2 : z3a = s3.2.2.1 46 2 := e3; rw [← b0, ← b1, ← b2]; exact n30c
                have n30e : (z3c).toInt ≤ (z3a).toInt := by have a0 := (inv_F hI 0 120 rfl e_102_4); unfold In at a0; have a1 := (inv_F hI 0 5 rfl e_46_3); unfold In at a1; have a2 := (inv_F hI 0 1000 rfl e_46_4); unfold In at a2; have a3 := r_46_1; unfold In at a3; have a4 := (inv_F hI 0 1000 rfl e_46_2); unfold In at a4; have a5 := h2; unfold In at a5; have a6 := i3d; unfold In at a6; have a7 := i3c; unfold In at a7; have a8 := i14x5; unfold In at a8; have a9 := i3a; unfold In at a9; omega
                have n30f : (s3.2.2.1 46 4).toInt ≤ (s3.2.2.1 46 2).toInt := by have b0 : z3c = s3.2.2.1 46 4 := e3b; have b1 : z3a = s3.2.2.1 46 2 := e3; rw [← b0, ← b1]; exact n30e
                have n30g : (z3d).toInt ≤ (z3c).toInt := by have a0 := (inv_F hI 0 120 rfl e_102_4); unfold In at a0; have a1 := (inv_F hI 0 5 rfl e_46_3); unfold In at a1; have a2 := (inv_F hI 0 1000 rfl e_46_4); unfold In at a2; have a3 := r_46_1; unfold In at a3; have a4 := (inv_F hI 0 1000 rfl e_46_2); unfold In at a4; have a5 := h2; unfold In at a5; have a6 := i3d; unfold In at a6; have a7 := i3c; unfold In at a7; have a8 := i14x5; unfold In at a8; have a9 := i3a; unfold In at a9; omega
                have n30h : (s3.2.2.1 102 4).toInt ≤ (s3.2.2.1 46 4).toInt := by have b0 : z3d = s3.2.2.1 102 4 := e3c; have b1 : z3c = s3.2.2.1 46 4 := e3b; rw [← b0, ← b1]; exact n30g
                have n30i : (z3b).toInt = 2 → (z3e).toInt ≤ 999999 := by have a0 := (inv_F hI 0 120 rfl e_102_4); unfold In at a0; have a1 := (inv_F hI 0 5 rfl e_46_3); unfold In at a1; have a2 := (inv_F hI 0 1000 rfl e_46_4); unfold In at a2; have a3 := r_46_1; unfold In at a3; have a4 := (inv_F hI 0 1000 rfl e_46_2); unfold In at a4; have a5 := h2; unfold In at a5; have a6 := i3d; unfold In at a6; have a7 := i3c; unfold In at a7; have a8 := i14x5; unfold In at a8; have a9 := i3a; unfold In at a9; omega
                have n30j : (s3.2.2.1 46 3).toInt = 2 → (s3.2.2.1 46 5).toInt ≤ 999999 := by have b0 : z3b = s3.2.2.1 46 3 := e3a; have b1 : z3e = s3.2.2.1 46 5 := e3d; rw [← b0, ← b1]; exact n30i
                have n30k : (u_46_4).toInt - (u_102_4).toInt ≤ (z3c).toInt - (z3d).toInt := by have a0 := (inv_F hI 0 120 rfl e_102_4); unfold In at a0; have a1 := (inv_F hI 0 5 rfl e_46_3); unfold In at a1; have a2 := (inv_F hI 0 1000 rfl e_46_4); unfold In at a2; have a3 := r_46_1; unfold In at a3; have a4 := (inv_F hI 0 1000 rfl e_46_2); unfold In at a4; have a5 := h2; unfold In at a5; have a6 := i3d; unfold In at a6; have a7 := i3c; unfold In at a7; have a8 := i14x5; unfold In at a8; have a9 := i3a; unfold In at a9; omega
                have n30l : (s.2.2.1 46 4).toInt - (s.2.2.1 102 4).toInt ≤ (s3.2.2.1 46 4).toInt - (s3.2.2.1 102 4).toInt := by have b0 : z3c = s3.2.2.1 46 4 := e3b; have b1 : z3d = s3.2.2.1 102 4 := e3c; rw [← b0, ← b1, ← e_46_4, ← e_102_4]; exact n30k
                exact g_ireturn (gd rfl) rfl (nb01 (in_w 0 1 (in_c 1 rfl) rfl)) (hP _ _ ⟨s3, hI3, (fr_tr rfl fr_rf hF3), n30b, n30d, n30f, n30h, n30j, n30l, (Int32.ofInt 1), rfl, rfl, in_w 0 1 (in_c 1 rfl) rfl, n30⟩)
            · skip
              have i23x13 := r_eq1 61 61 c23x13 (i_rng z3e) (in_c 61 rfl) rfl
              refine g_iconst 1 17 (gd rfl) rfl rfl ?_
              refine g_goto 21 (gd rfl) rfl ?_
              refine g_ireturn (gd rfl) rfl (nb01 (in_w 0 1 (in_c 1 rfl) rfl)) (hp23 _ _ ?_)
              show GG _ _ _ _ _ _ _ _ [.int (Int32.ofInt 1)] _ _ _
              refine g_if_ne 29 31 (gd rfl) rfl rfl (fun c26 => ?_) (fun c26 => ?_)
              · skip
                refine g_aload_n 32 (gd rfl) rfl rfl ?_
                refine g_getI 35 (gd rfl) rfl rfl rfl (fun z32 e32 => ?_)
                have q32 : z3e = z32 := (e3d).trans e32.symm
                subst q32
                refine g_istore_n 36 (gd rfl) rfl (Nat.le_of_ble_eq_true rfl) ?_
                refine g_aload_n 37 (gd rfl) rfl rfl ?_
                refine g_bipush 6 39 (gd rfl) rfl rfl ?_
                refine g_iconst 0 40 (gd rfl) rfl rfl ?_
                have v40 : u_46_1 = s3.2.2.1 46 1 := fr_F (e_46_1) hF3 rfl
                have n40 : (z3a).toInt ≤ (u_46_1).toInt := by have a0 := (inv_F hI 0 120 rfl e_102_4); unfold In at a0; have a1 := (inv_F hI 0 5 rfl e_46_3); unfold In at a1; have a2 := (inv_F hI 0 1000 rfl e_46_4); unfold In at a2; have a3 := r_46_1; unfold In at a3; have a4 := (inv_F hI 0 1000 rfl e_46_2); unfold In at a4; have a5 := h2; unfold In at a5; have a6 := i23x13; unfold In at a6; have a7 := i3d; unfold In at a7; have a8 := i3c; unfold In at a8; have a9 := i14x5; unfold In at a9; have a10 := i3a; unfold In at a10; omega
                refine g_callv (X := _) (As := [.int (Int32.ofInt 6), .int (Int32.ofInt 0)]) (r := []) (b := A 46) (q := 46) 43 (gd rfl) rfl rfl rfl rfl rfl (ww_o rfl) (Nat.le_of_ble_eq_true rfl) (Nat.zero_le _) (Nat.zero_le _) (k_171_46 (by omega) hI3 (in_w 6 7 (in_c 6 rfl) rfl) (in_w 0 1 (in_c 0 rfl) rfl) e3 v40 n40) (fun e u h => h) (fun v u h => ?_)
                obtain ⟨s40, hI40, hF40, n40a, n40b, n40c, n40d, rfl, rfl, p40⟩ := h
                obtain ⟨z40a, e40⟩ : ∃ w, w = s40.2.2.1 46 2 := ⟨_, rfl⟩
                have i40a := inv_F hI40 0 1000 rfl e40
                obtain ⟨z40b, e40a⟩ : ∃ w, w = s40.2.2.1 46 3 := ⟨_, rfl⟩
                have i40b := inv_F hI40 0 5 rfl e40a
                obtain ⟨z40c, e40b⟩ : ∃ w, w = s40.2.2.1 46 4 := ⟨_, rfl⟩
                have i40c := inv_F hI40 0 1000 rfl e40b
                rw [← (show z40a = s40.2.2.1 46 2 from e40)] at n40a
                rw [← (show u_46_1 = s40.2.2.1 46 1 from fr_F (fr_F (e_46_1) hF3 rfl) hF40 rfl)] at n40a
                rw [← (show z40a = s40.2.2.1 46 2 from e40)] at n40b
                rw [← (show z40b = s40.2.2.1 46 3 from e40a)] at n40b
                rw [← (show z40c = s40.2.2.1 46 4 from e40b)] at n40b
                rw [← (show z40a = s40.2.2.1 46 2 from e40)] at n40c
                rw [← (show z40c = s40.2.2.1 46 4 from e40b)] at n40c
                rw [← (show z3a = s3.2.2.1 46 2 from e3)] at n40d
                rw [← (show z40c = s40.2.2.1 46 4 from e40b)] at n40d
                show GG _ _ _ _ _ _ _ _ [] _ _ _
                have hv40 := p40 (by decide); rw [← (show z40b = s40.2.2.1 46 3 from e40a)] at hv40
                refine g_aload_n 44 (gd rfl) rfl rfl ?_
                refine g_aload_n 45 (gd rfl) rfl rfl ?_
                refine g_iload_n 46 (gd rfl) rfl rfl ?_
                have v46 : u_46_1 = s40.2.2.1 46 1 := fr_F (fr_F (e_46_1) hF3 rfl) hF40 rfl
                have v46a : z3d = s40.2.2.1 102 4 := fr_F (e3c) hF40 rfl
                have n46 : (z40a).toInt ≤ (u_46_1).toInt := by have a0 := (inv_F hI 0 120 rfl e_102_4); unfold In at a0; have a1 := (inv_F hI 0 5 rfl e_46_3); unfold In at a1; have a2 := (inv_F hI 0 1000 rfl e_46_4); unfold In at a2; have a3 := r_46_1; unfold In at a3; have a4 := (inv_F hI 0 1000 rfl e_46_2); unfold In at a4; have a5 := h2; unfold In at a5; have a6 := i23x13; unfold In at a6; have a7 := i40c; unfold In at a7; have a8 := i40b; unfold In at a8; have a9 := i40a; unfold In at a9; have a10 := i3d; unfold In at a10; omega
                have n46a : (z40b).toInt = 0 ∨ (z40c).toInt + 1 ≤ (z40a).toInt := by have a0 := (inv_F hI 0 120 rfl e_102_4); unfold In at a0; have a1 := (inv_F hI 0 5 rfl e_46_3); unfold In at a1; have a2 := (inv_F hI 0 1000 rfl e_46_4); unfold In at a2; have a3 := r_46_1; unfold In at a3; have a4 := (inv_F hI 0 1000 rfl e_46_2); unfold In at a4; have a5 := h2; unfold In at a5; have a6 := i23x13; unfold In at a6; have a7 := i40c; unfold In at a7; have a8 := i40b; unfold In at a8; have a9 := i40a; unfold In at a9; have a10 := i3d; unfold In at a10; omega
                have n46b : (z40c).toInt ≤ (z40a).toInt := by have a0 := (inv_F hI 0 120 rfl e_102_4); unfold In at a0; have a1 := (inv_F hI 0 5 rfl e_46_3); unfold In at a1; have a2 := (inv_F hI 0 1000 rfl e_46_4); unfold In at a2; have a3 := r_46_1; unfold In at a3; have a4 := (inv_F hI 0 1000 rfl e_46_2); unfold In at a4; have a5 := h2; unfold In at a5; have a6 := i23x13; unfold In at a6; have a7 := i40c; unfold In at a7; have a8 := i40b; unfold In at a8; have a9 := i40a; unfold In at a9; have a10 := i3d; unfold In at a10; omega
                have n46c : (z3d).toInt ≤ (z40c).toInt := by have a0 := (inv_F hI 0 120 rfl e_102_4); unfold In at a0; have a1 := (inv_F hI 0 5 rfl e_46_3); unfold In at a1; have a2 := (inv_F hI 0 1000 rfl e_46_4); unfold In at a2; have a3 := r_46_1; unfold In at a3; have a4 := (inv_F hI 0 1000 rfl e_46_2); unfold In at a4; have a5 := h2; unfold In at a5; have a6 := i23x13; unfold In at a6; have a7 := i40c; unfold In at a7; have a8 := i40b; unfold In at a8; have a9 := i40a; unfold In at a9; have a10 := i3d; unfold In at a10; omega
                have n46d : (z40b).toInt = 2 → ((s40.2.2.1 46 5)).toInt ≤ 999999 := by have a0 := (inv_F hI 0 120 rfl e_102_4); unfold In at a0; have a1 := (inv_F hI 0 5 rfl e_46_3); unfold In at a1; have a2 := (inv_F hI 0 1000 rfl e_46_4); unfold In at a2; have a3 := r_46_1; unfold In at a3; have a4 := (inv_F hI 0 1000 rfl e_46_2); unfold In at a4; have a5 := h2; unfold In at a5; have a6 := i23x13; unfold In at a6; have a7 := i40c; unfold In at a7; have a8 := i40b; unfold In at a8; have a9 := i40a; unfold In at a9; have a10 := i3d; unfold In at a10; omega
                have n46e : 10 - (x2).toInt < ((kk : Nat) : Int) := by have a0 := (inv_F hI 0 120 rfl e_102_4); unfold In at a0; have a1 := (inv_F hI 0 5 rfl e_46_3); unfold In at a1; have a2 := (inv_F hI 0 1000 rfl e_46_4); unfold In at a2; have a3 := r_46_1; unfold In at a3; have a4 := (inv_F hI 0 1000 rfl e_46_2); unfold In at a4; have a5 := h2; unfold In at a5; have a6 := i23x13; unfold In at a6; have a7 := i40c; unfold In at a7; have a8 := i40b; unfold In at a8; have a9 := i40a; unfold In at a9; have a10 := i3d; unfold In at a10; omega
                refine g_callv (X := _) (As := [.ref (A 46), .int x2]) (r := []) (b := A 102) (q := 102) 49 (gd rfl) rfl rfl rfl rfl rfl (ww_o rfl) (Nat.le_of_ble_eq_true rfl) (Nat.zero_le _) (Nat.zero_le _) (ih (by omega) hI40 (in_w 0 10 h2 rfl) e40 v46 e40b e40a rfl v46a (in_w 0 120 r_46_1 rfl) n46 n46a n46b n46c n46d n46e) (fun e u h => h) (fun v u h => ?_)
                obtain ⟨s46, hI46, hF46, n46f, n46g, n46h, n46i, n46j, n46k, z46, rfl, rfl, i46, p46⟩ := h
                obtain ⟨z46a, e46⟩ : ∃ w, w = s46.2.2.1 46 2 := ⟨_, rfl⟩
                have i46a := inv_F hI46 0 1000 rfl e46
                obtain ⟨z46b, e46a⟩ : ∃ w, w = s46.2.2.1 46 3 := ⟨_, rfl⟩
                have i46b := inv_F hI46 0 5 rfl e46a
                obtain ⟨z46c, e46b⟩ : ∃ w, w = s46.2.2.1 46 4 := ⟨_, rfl⟩
                have i46c := inv_F hI46 0 1000 rfl e46b
                obtain ⟨z46d, e46c⟩ : ∃ w, w = s46.2.2.1 102 4 := ⟨_, rfl⟩
                have i46d := inv_F hI46 0 120 rfl e46c
                obtain ⟨z46e, e46d⟩ : ∃ w, w = s46.2.2.1 46 5 := ⟨_, rfl⟩
                rw [← (show z46a = s46.2.2.1 46 2 from e46)] at n46f
                rw [← (show u_46_1 = s46.2.2.1 46 1 from fr_F (fr_F (fr_F (e_46_1) hF3 rfl) hF40 rfl) hF46 rfl)] at n46f
                rw [← (show z46a = s46.2.2.1 46 2 from e46)] at n46g
                rw [← (show z46b = s46.2.2.1 46 3 from e46a)] at n46g
                rw [← (show z46c = s46.2.2.1 46 4 from e46b)] at n46g
                rw [← (show z46a = s46.2.2.1 46 2 from e46)] at n46h
                rw [← (show z46c = s46.2.2.1 46 4 from e46b)] at n46h
                rw [← (show z46c = s46.2.2.1 46 4 from e46b)] at n46i
                rw [← (show z46d = s46.2.2.1 102 4 from e46c)] at n46i
                rw [← (show z46b = s46.2.2.1 46 3 from e46a)] at n46j
                rw [← (show z46e = s46.2.2.1 46 5 from e46d)] at n46j
                rw [← (show z40c = s40.2.2.1 46 4 from e40b)] at n46k
                rw [← (show z3d = s40.2.2.1 102 4 from fr_F (e3c) hF40 rfl)] at n46k
                rw [← (show z46c = s46.2.2.1 46 4 from e46b)] at n46k
                rw [← (show z46d = s46.2.2.1 102 4 from e46c)] at n46k
                show GG _ _ _ _ _ _ _ _ [.int z46] _ _ _
                refine g_if_eq 52 67 (gd rfl) rfl rfl (fun c49 => ?_) (fun c49 => ?_)
                · skip
                  have i49 := z_eq 0 0 c49 i46 rfl
                  refine g_iconst 0 68 (gd rfl) rfl rfl ?_
                  have n68 : ((Int32.ofInt 0)).toInt ≠ 0 → PCV s s46 1 := by first | (intro _; exact p3 c6) | (intro h; exact absurd rfl h)
                  have n68a : (z46a).toInt ≤ (u_46_1).toInt := by have a0 := (inv_F hI 0 120 rfl e_102_4); unfold In at a0; have a1 := (inv_F hI 0 5 rfl e_46_3); unfold In at a1; have a2 := (inv_F hI 0 1000 rfl e_46_4); unfold In at a2; have a3 := r_46_1; unfold In at a3; have a4 := (inv_F hI 0 1000 rfl e_46_2); unfold In at a4; have a5 := h2; unfold In at a5; have a6 := i23x13; unfold In at a6; have a7 := i46d; unfold In at a7; have a8 := i46c; unfold In at a8; have a9 := i46b; unfold In at a9; have a10 := i46a; unfold In at a10; omega
                  have n68b : (s46.2.2.1 46 2).toInt ≤ (s46.2.2.1 46 1).toInt := by have b0 : z46a = s46.2.2.1 46 2 := e46; have b1 : u_46_1 = s46.2.2.1 46 1 := fr_F (fr_F (fr_F (e_46_1) hF3 rfl) hF40 rfl) hF46 rfl; rw [← b0, ← b1]; exact n68a
                  have n68c : (z46b).toInt = 0 ∨ (z46c).toInt + 1 ≤ (z46a).toInt := by have a0 := (inv_F hI 0 120 rfl e_102_4); unfold In at a0; have a1 := (inv_F hI 0 5 rfl e_46_3); unfold In at a1; have a2 := (inv_F hI 0 1000 rfl e_46_4); unfold In at a2; have a3 := r_46_1; unfold In at a3; have a4 := (inv_F hI 0 1000 rfl e_46_2); unfold In at a4; have a5 := h2; unfold In at a5; have a6 := i23x13; unfold In at a6; have a7 := i46d; unfold In at a7; have a8 := i46c; unfold In at a8; have a9 := i46b; unfold In at a9; have a10 := i46a; unfold In at a10; omega
                  have n68d : (s46.2.2.1 46 3).toInt = 0 ∨ (s46.2.2.1 46 4).toInt + 1 ≤ (s46.2.2.1 46 2).toInt := by have b0 : z46b = s46.2.2.1 46 3 := e46a; have b1 : z46c = s46.2.2.1 46 4 := e46b; have b2 : z46a = s46.2.2.1 46 2 := e46; rw [← b0, ← b1, ← b2]; exact n68c
                  have n68e : (z46c).toInt ≤ (z46a).toInt := by have a0 := (inv_F hI 0 120 rfl e_102_4); unfold In at a0; have a1 := (inv_F hI 0 5 rfl e_46_3); unfold In at a1; have a2 := (inv_F hI 0 1000 rfl e_46_4); unfold In at a2; have a3 := r_46_1; unfold In at a3; have a4 := (inv_F hI 0 1000 rfl e_46_2); unfold In at a4; have a5 := h2; unfold In at a5; have a6 := i23x13; unfold In at a6; have a7 := i46d; unfold In at a7; have a8 := i46c; unfold In at a8; have a9 := i46b; unfold In at a9; have a10 := i46a; unfold In at a10; omega
                  have n68f : (s46.2.2.1 46 4).toInt ≤ (s46.2.2.1 46 2).toInt := by have b0 : z46c = s46.2.2.1 46 4 := e46b; have b1 : z46a = s46.2.2.1 46 2 := e46; rw [← b0, ← b1]; exact n68e
                  have n68g : (z46d).toInt ≤ (z46c).toInt := by have a0 := (inv_F hI 0 120 rfl e_102_4); unfold In at a0; have a1 := (inv_F hI 0 5 rfl e_46_3); unfold In at a1; have a2 := (inv_F hI 0 1000 rfl e_46_4); unfold In at a2; have a3 := r_46_1; unfold In at a3; have a4 := (inv_F hI 0 1000 rfl e_46_2); unfold In at a4; have a5 := h2; unfold In at a5; have a6 := i23x13; unfold In at a6; have a7 := i46d; unfold In at a7; have a8 := i46c; unfold In at a8; have a9 := i46b; unfold In at a9; have a10 := i46a; unfold In at a10; omega
                  have n68h : (s46.2.2.1 102 4).toInt ≤ (s46.2.2.1 46 4).toInt := by have b0 : z46d = s46.2.2.1 102 4 := e46c; have b1 : z46c = s46.2.2.1 46 4 := e46b; rw [← b0, ← b1]; exact n68g
                  have n68i : (z46b).toInt = 2 → (z46e).toInt ≤ 999999 := by have a0 := (inv_F hI 0 120 rfl e_102_4); unfold In at a0; have a1 := (inv_F hI 0 5 rfl e_46_3); unfold In at a1; have a2 := (inv_F hI 0 1000 rfl e_46_4); unfold In at a2; have a3 := r_46_1; unfold In at a3; have a4 := (inv_F hI 0 1000 rfl e_46_2); unfold In at a4; have a5 := h2; unfold In at a5; have a6 := i23x13; unfold In at a6; have a7 := i46d; unfold In at a7; have a8 := i46c; unfold In at a8; have a9 := i46b; unfold In at a9; have a10 := i46a; unfold In at a10; omega
                  have n68j : (s46.2.2.1 46 3).toInt = 2 → (s46.2.2.1 46 5).toInt ≤ 999999 := by have b0 : z46b = s46.2.2.1 46 3 := e46a; have b1 : z46e = s46.2.2.1 46 5 := e46d; rw [← b0, ← b1]; exact n68i
                  have n68k : (u_46_4).toInt - (u_102_4).toInt ≤ (z46c).toInt - (z46d).toInt := by have a0 := (inv_F hI 0 120 rfl e_102_4); unfold In at a0; have a1 := (inv_F hI 0 5 rfl e_46_3); unfold In at a1; have a2 := (inv_F hI 0 1000 rfl e_46_4); unfold In at a2; have a3 := r_46_1; unfold In at a3; have a4 := (inv_F hI 0 1000 rfl e_46_2); unfold In at a4; have a5 := h2; unfold In at a5; have a6 := i23x13; unfold In at a6; have a7 := i46d; unfold In at a7; have a8 := i46c; unfold In at a8; have a9 := i46b; unfold In at a9; have a10 := i46a; unfold In at a10; omega
                  have n68l : (s.2.2.1 46 4).toInt - (s.2.2.1 102 4).toInt ≤ (s46.2.2.1 46 4).toInt - (s46.2.2.1 102 4).toInt := by have b0 : z46c = s46.2.2.1 46 4 := e46b; have b1 : z46d = s46.2.2.1 102 4 := e46c; rw [← b0, ← b1, ← e_46_4, ← e_102_4]; exact n68k
                  exact g_ireturn (gd rfl) rfl (nb01 (in_w 0 1 (in_c 0 rfl) rfl)) (hP _ _ ⟨s46, hI46, (fr_tr rfl (fr_tr rfl (fr_tr rfl fr_rf hF3) hF40) hF46), n68b, n68d, n68f, n68h, n68j, n68l, (Int32.ofInt 0), rfl, rfl, in_w 0 1 (in_c 0 rfl) rfl, n68⟩)
                · skip
                  have i49 := z_ne 1 1 c49 i46 rfl
                  refine g_aload_n 53 (gd rfl) rfl rfl ?_
                  refine g_ldc 1000100 55 (gd rfl) rfl rfl ?_
                  refine g_iload_n 56 (gd rfl) rfl rfl ?_
                  refine g_iadd 57 (gd rfl) rfl (fun z56 e56 => ?_)
                  have i56 := in_add 1000161 1000161 e56 (in_c 1000100 rfl) i23x13 rfl rfl
                  have hD : (s46.2.2.1 102 4).toInt < 120 := (by rw [← (show z46d = s46.2.2.1 102 4 from e46c)]; have a0 := (inv_F hI 0 120 rfl e_102_4); unfold In at a0; have a1 := (inv_F hI 0 5 rfl e_46_3); unfold In at a1; have a2 := (inv_F hI 0 1000 rfl e_46_4); unfold In at a2; have a3 := r_46_1; unfold In at a3; have a4 := (inv_F hI 0 1000 rfl e_46_2); unfold In at a4; have a5 := h2; unfold In at a5; have a6 := i23x13; unfold In at a6; have a7 := i46d; unfold In at a7; have a8 := i46c; unfold In at a8; have a9 := i46b; unfold In at a9; have a10 := i46a; unfold In at a10; have a11 := i56; unfold In at a11; have a12 := t_add e56 (in_c 1000100 rfl) i23x13 rfl; have a13 := (in_c 1000100 rfl); unfold In at a13; omega)
                  have hDe : _ = s46.2.2.1 102 4 := (show z46d = s46.2.2.1 102 4 from e46c)
                  refine g_callv (X := _) (As := [.int z56]) (r := []) (b := A 102) (q := 102) 60 (gd rfl) rfl rfl rfl rfl rfl (ww_o rfl) (Nat.le_of_ble_eq_true rfl) (Nat.zero_le _) (Nat.zero_le _) (k_57_102 (by omega) hI46 e46c) (fun e u h => h) (fun v u h => ?_)
                  obtain ⟨s57, hI57, hF57, n57, n57a, z57, rfl, rfl, i57, p57⟩ := h
                  obtain ⟨z57a, e57⟩ : ∃ w, w = s57.2.2.1 102 4 := ⟨_, rfl⟩
                  have i57a := inv_F hI57 0 120 rfl e57
                  rw [← (show z46d = s46.2.2.1 102 4 from e46c)] at n57
                  rw [← (show z57a = s57.2.2.1 102 4 from e57)] at n57
                  rw [← (show z46d = s46.2.2.1 102 4 from e46c)] at n57a
                  rw [← (show z57a = s57.2.2.1 102 4 from e57)] at n57a
                  show GG _ _ _ _ _ _ _ _ [.int z57] _ _ _
                  refine g_if_eq 63 67 (gd rfl) rfl rfl (fun c60 => ?_) (fun c60 => ?_)
                  · skip
                    exact zn_eq c60 i57 rfl
                  · skip
                    refine g_iconst 1 64 (gd rfl) rfl rfl ?_
                    refine g_goto 68 (gd rfl) rfl ?_
                    have n68 : ((Int32.ofInt 1)).toInt ≠ 0 → PCV s s57 1 := by intro _; exact pv_st (j := 2) (k := 1) (pv_tr (j := 1) (k := 1) (pv_tr (j := 1) (k := 0) (p3 c6) (pv_sm (hF40.1 104 rfl) (hF40.2.2.1 102 4 rfl))) (p46 c49)) (inv_F hI46 0 120 rfl rfl).1 (p57 hD) (by rw [← (show z57a = s57.2.2.1 102 4 from e57), ← hDe]; have a0 := (inv_F hI 0 120 rfl e_102_4); unfold In at a0; have a1 := (inv_F hI 0 5 rfl e_46_3); unfold In at a1; have a2 := (inv_F hI 0 1000 rfl e_46_4); unfold In at a2; have a3 := r_46_1; unfold In at a3; have a4 := (inv_F hI 0 1000 rfl e_46_2); unfold In at a4; have a5 := h2; unfold In at a5; have a6 := i23x13; unfold In at a6; have a7 := i57a; unfold In at a7; have a8 := i46c; unfold In at a8; have a9 := i46b; unfold In at a9; have a10 := i46a; unfold In at a10; have a11 := i56; unfold In at a11; have a12 := t_add e56 (in_c 1000100 rfl) i23x13 rfl; have a13 := (in_c 1000100 rfl); unfold In at a13; omega) (fun e => hc_b (by have a0 := (inv_F hI 0 120 rfl e_102_4); unfold In at a0; have a1 := (inv_F hI 0 5 rfl e_46_3); unfold In at a1; have a2 := (inv_F hI 0 1000 rfl e_46_4); unfold In at a2; have a3 := r_46_1; unfold In at a3; have a4 := (inv_F hI 0 1000 rfl e_46_2); unfold In at a4; have a5 := h2; unfold In at a5; have a6 := i23x13; unfold In at a6; have a7 := i57a; unfold In at a7; have a8 := i46c; unfold In at a8; have a9 := i46b; unfold In at a9; have a10 := i46a; unfold In at a10; have a11 := i56; unfold In at a11; have a12 := t_add e56 (in_c 1000100 rfl) i23x13 rfl; have a13 := (in_c 1000100 rfl); unfold In at a13; omega) (by have a0 := (inv_F hI 0 120 rfl e_102_4); unfold In at a0; have a1 := (inv_F hI 0 5 rfl e_46_3); unfold In at a1; have a2 := (inv_F hI 0 1000 rfl e_46_4); unfold In at a2; have a3 := r_46_1; unfold In at a3; have a4 := (inv_F hI 0 1000 rfl e_46_2); unfold In at a4; have a5 := h2; unfold In at a5; have a6 := i23x13; unfold In at a6; have a7 := i57a; unfold In at a7; have a8 := i46c; unfold In at a8; have a9 := i46b; unfold In at a9; have a10 := i46a; unfold In at a10; have a11 := i56; unfold In at a11; have a12 := t_add e56 (in_c 1000100 rfl) i23x13 rfl; have a13 := (in_c 1000100 rfl); unfold In at a13; omega) e)
                    have n68a : (z46a).toInt ≤ (u_46_1).toInt := by have a0 := (inv_F hI 0 120 rfl e_102_4); unfold In at a0; have a1 := (inv_F hI 0 5 rfl e_46_3); unfold In at a1; have a2 := (inv_F hI 0 1000 rfl e_46_4); unfold In at a2; have a3 := r_46_1; unfold In at a3; have a4 := (inv_F hI 0 1000 rfl e_46_2); unfold In at a4; have a5 := h2; unfold In at a5; have a6 := i23x13; unfold In at a6; have a7 := i57a; unfold In at a7; have a8 := i46c; unfold In at a8; have a9 := i46b; unfold In at a9; have a10 := i46a; unfold In at a10; have a11 := i56; unfold In at a11; have a12 := t_add e56 (in_c 1000100 rfl) i23x13 rfl; have a13 := (in_c 1000100 rfl); unfold In at a13; omega
                    have n68b : (s57.2.2.1 46 2).toInt ≤ (s57.2.2.1 46 1).toInt := by have b0 : z46a = s57.2.2.1 46 2 := fr_F (e46) hF57 rfl; have b1 : u_46_1 = s57.2.2.1 46 1 := fr_F (fr_F (fr_F (fr_F (e_46_1) hF3 rfl) hF40 rfl) hF46 rfl) hF57 rfl; rw [← b0, ← b1]; exact n68a
                    have n68c : (z46b).toInt = 0 ∨ (z46c).toInt + 1 ≤ (z46a).toInt := by have a0 := (inv_F hI 0 120 rfl e_102_4); unfold In at a0; have a1 := (inv_F hI 0 5 rfl e_46_3); unfold In at a1; have a2 := (inv_F hI 0 1000 rfl e_46_4); unfold In at a2; have a3 := r_46_1; unfold In at a3; have a4 := (inv_F hI 0 1000 rfl e_46_2); unfold In at a4; have a5 := h2; unfold In at a5; have a6 := i23x13; unfold In at a6; have a7 := i57a; unfold In at a7; have a8 := i46c; unfold In at a8; have a9 := i46b; unfold In at a9; have a10 := i46a; unfold In at a10; have a11 := i56; unfold In at a11; have a12 := t_add e56 (in_c 1000100 rfl) i23x13 rfl; have a13 := (in_c 1000100 rfl); unfold In at a13; omega
                    have n68d : (s57.2.2.1 46 3).toInt = 0 ∨ (s57.2.2.1 46 4).toInt + 1 ≤ (s57.2.2.1 46 2).toInt := by have b0 : z46b = s57.2.2.1 46 3 := fr_F (e46a) hF57 rfl; have b1 : z46c = s57.2.2.1 46 4 := fr_F (e46b) hF57 rfl; have b2 : z46a = s57.2.2.1 46 2 := fr_F (e46) hF57 rfl; rw [← b0, ← b1, ← b2]; exact n68c
                    have n68e : (z46c).toInt ≤ (z46a).toInt := by have a0 := (inv_F hI 0 120 rfl e_102_4); unfold In at a0; have a1 := (inv_F hI 0 5 rfl e_46_3); unfold In at a1; have a2 := (inv_F hI 0 1000 rfl e_46_4); unfold In at a2; have a3 := r_46_1; unfold In at a3; have a4 := (inv_F hI 0 1000 rfl e_46_2); unfold In at a4; have a5 := h2; unfold In at a5; have a6 := i23x13; unfold In at a6; have a7 := i57a; unfold In at a7; have a8 := i46c; unfold In at a8; have a9 := i46b; unfold In at a9; have a10 := i46a; unfold In at a10; have a11 := i56; unfold In at a11; have a12 := t_add e56 (in_c 1000100 rfl) i23x13 rfl; have a13 := (in_c 1000100 rfl); unfold In at a13; omega
                    have n68f : (s57.2.2.1 46 4).toInt ≤ (s57.2.2.1 46 2).toInt := by have b0 : z46c = s57.2.2.1 46 4 := fr_F (e46b) hF57 rfl; have b1 : z46a = s57.2.2.1 46 2 := fr_F (e46) hF57 rfl; rw [← b0, ← b1]; exact n68e
                    have n68g : (z57a).toInt ≤ (z46c).toInt := by have a0 := (inv_F hI 0 120 rfl e_102_4); unfold In at a0; have a1 := (inv_F hI 0 5 rfl e_46_3); unfold In at a1; have a2 := (inv_F hI 0 1000 rfl e_46_4); unfold In at a2; have a3 := r_46_1; unfold In at a3; have a4 := (inv_F hI 0 1000 rfl e_46_2); unfold In at a4; have a5 := h2; unfold In at a5; have a6 := i23x13; unfold In at a6; have a7 := i57a; unfold In at a7; have a8 := i46c; unfold In at a8; have a9 := i46b; unfold In at a9; have a10 := i46a; unfold In at a10; have a11 := i56; unfold In at a11; have a12 := t_add e56 (in_c 1000100 rfl) i23x13 rfl; have a13 := (in_c 1000100 rfl); unfold In at a13; omega
                    have n68h : (s57.2.2.1 102 4).toInt ≤ (s57.2.2.1 46 4).toInt := by have b0 : z57a = s57.2.2.1 102 4 := e57; have b1 : z46c = s57.2.2.1 46 4 := fr_F (e46b) hF57 rfl; rw [← b0, ← b1]; exact n68g
                    have n68i : (z46b).toInt = 2 → (z46e).toInt ≤ 999999 := by have a0 := (inv_F hI 0 120 rfl e_102_4); unfold In at a0; have a1 := (inv_F hI 0 5 rfl e_46_3); unfold In at a1; have a2 := (inv_F hI 0 1000 rfl e_46_4); unfold In at a2; have a3 := r_46_1; unfold In at a3; have a4 := (inv_F hI 0 1000 rfl e_46_2); unfold In at a4; have a5 := h2; unfold In at a5; have a6 := i23x13; unfold In at a6; have a7 := i57a; unfold In at a7; have a8 := i46c; unfold In at a8; have a9 := i46b; unfold In at a9; have a10 := i46a; unfold In at a10; have a11 := i56; unfold In at a11; have a12 := t_add e56 (in_c 1000100 rfl) i23x13 rfl; have a13 := (in_c 1000100 rfl); unfold In at a13; omega
                    have n68j : (s57.2.2.1 46 3).toInt = 2 → (s57.2.2.1 46 5).toInt ≤ 999999 := by have b0 : z46b = s57.2.2.1 46 3 := fr_F (e46a) hF57 rfl; have b1 : z46e = s57.2.2.1 46 5 := fr_F (e46d) hF57 rfl; rw [← b0, ← b1]; exact n68i
                    have n68k : (u_46_4).toInt - (u_102_4).toInt ≤ (z46c).toInt - (z57a).toInt := by have a0 := (inv_F hI 0 120 rfl e_102_4); unfold In at a0; have a1 := (inv_F hI 0 5 rfl e_46_3); unfold In at a1; have a2 := (inv_F hI 0 1000 rfl e_46_4); unfold In at a2; have a3 := r_46_1; unfold In at a3; have a4 := (inv_F hI 0 1000 rfl e_46_2); unfold In at a4; have a5 := h2; unfold In at a5; have a6 := i23x13; unfold In at a6; have a7 := i57a; unfold In at a7; have a8 := i46c; unfold In at a8; have a9 := i46b; unfold In at a9; have a10 := i46a; unfold In at a10; have a11 := i56; unfold In at a11; have a12 := t_add e56 (in_c 1000100 rfl) i23x13 rfl; have a13 := (in_c 1000100 rfl); unfold In at a13; omega
                    have n68l : (s.2.2.1 46 4).toInt - (s.2.2.1 102 4).toInt ≤ (s57.2.2.1 46 4).toInt - (s57.2.2.1 102 4).toInt := by have b0 : z46c = s57.2.2.1 46 4 := fr_F (e46b) hF57 rfl; have b1 : z57a = s57.2.2.1 102 4 := e57; rw [← b0, ← b1, ← e_46_4, ← e_102_4]; exact n68k
                    exact g_ireturn (gd rfl) rfl (nb01 (in_w 0 1 (in_c 1 rfl) rfl)) (hP _ _ ⟨s57, hI57, (fr_tr rfl (fr_tr rfl (fr_tr rfl (fr_tr rfl fr_rf hF3) hF40) hF46) hF57), n68b, n68d, n68f, n68h, n68j, n68l, (Int32.ofInt 1), rfl, rfl, in_w 0 1 (in_c 1 rfl) rfl, n68⟩)
              · skip
                exact zn_eq c26 (in_c 1 rfl) rfl
      · skip
        have i14x13 := r_eq1 60 60 c14x13 (i_rng z3e) (in_c 60 rfl) rfl
        refine g_iconst 1 17 (gd rfl) rfl rfl ?_
        refine g_goto 21 (gd rfl) rfl ?_
        refine g_ireturn (gd rfl) rfl (nb01 (in_w 0 1 (in_c 1 rfl) rfl)) (hp14 _ _ ?_)
        show GG _ _ _ _ _ _ _ _ [.int (Int32.ofInt 1)] _ _ _
        refine g_if_ne 20 31 (gd rfl) rfl rfl (fun c17 => ?_) (fun c17 => ?_)
        · skip
          refine g_aload_n 32 (gd rfl) rfl rfl ?_
          refine g_getI 35 (gd rfl) rfl rfl rfl (fun z32 e32 => ?_)
          have q32 : z3e = z32 := (e3d).trans e32.symm
          subst q32
          refine g_istore_n 36 (gd rfl) rfl (Nat.le_of_ble_eq_true rfl) ?_
          refine g_aload_n 37 (gd rfl) rfl rfl ?_
          refine g_bipush 6 39 (gd rfl) rfl rfl ?_
          refine g_iconst 0 40 (gd rfl) rfl rfl ?_
          have v40 : u_46_1 = s3.2.2.1 46 1 := fr_F (e_46_1) hF3 rfl
          have n40 : (z3a).toInt ≤ (u_46_1).toInt := by have a0 := (inv_F hI 0 120 rfl e_102_4); unfold In at a0; have a1 := (inv_F hI 0 5 rfl e_46_3); unfold In at a1; have a2 := (inv_F hI 0 1000 rfl e_46_4); unfold In at a2; have a3 := r_46_1; unfold In at a3; have a4 := (inv_F hI 0 1000 rfl e_46_2); unfold In at a4; have a5 := h2; unfold In at a5; have a6 := i14x13; unfold In at a6; have a7 := i3d; unfold In at a7; have a8 := i3c; unfold In at a8; have a9 := i14x5; unfold In at a9; have a10 := i3a; unfold In at a10; omega
          refine g_callv (X := _) (As := [.int (Int32.ofInt 6), .int (Int32.ofInt 0)]) (r := []) (b := A 46) (q := 46) 43 (gd rfl) rfl rfl rfl rfl rfl (ww_o rfl) (Nat.le_of_ble_eq_true rfl) (Nat.zero_le _) (Nat.zero_le _) (k_171_46 (by omega) hI3 (in_w 6 7 (in_c 6 rfl) rfl) (in_w 0 1 (in_c 0 rfl) rfl) e3 v40 n40) (fun e u h => h) (fun v u h => ?_)
          obtain ⟨s40, hI40, hF40, n40a, n40b, n40c, n40d, rfl, rfl, p40⟩ := h
          obtain ⟨z40a, e40⟩ : ∃ w, w = s40.2.2.1 46 2 := ⟨_, rfl⟩
          have i40a := inv_F hI40 0 1000 rfl e40
          obtain ⟨z40b, e40a⟩ : ∃ w, w = s40.2.2.1 46 3 := ⟨_, rfl⟩
          have i40b := inv_F hI40 0 5 rfl e40a
          obtain ⟨z40c, e40b⟩ : ∃ w, w = s40.2.2.1 46 4 := ⟨_, rfl⟩
          have i40c := inv_F hI40 0 1000 rfl e40b
          rw [← (show z40a = s40.2.2.1 46 2 from e40)] at n40a
          rw [← (show u_46_1 = s40.2.2.1 46 1 from fr_F (fr_F (e_46_1) hF3 rfl) hF40 rfl)] at n40a
          rw [← (show z40a = s40.2.2.1 46 2 from e40)] at n40b
          rw [← (show z40b = s40.2.2.1 46 3 from e40a)] at n40b
          rw [← (show z40c = s40.2.2.1 46 4 from e40b)] at n40b
          rw [← (show z40a = s40.2.2.1 46 2 from e40)] at n40c
          rw [← (show z40c = s40.2.2.1 46 4 from e40b)] at n40c
          rw [← (show z3a = s3.2.2.1 46 2 from e3)] at n40d
          rw [← (show z40c = s40.2.2.1 46 4 from e40b)] at n40d
          show GG _ _ _ _ _ _ _ _ [] _ _ _
          have hv40 := p40 (by decide); rw [← (show z40b = s40.2.2.1 46 3 from e40a)] at hv40
          refine g_aload_n 44 (gd rfl) rfl rfl ?_
          refine g_aload_n 45 (gd rfl) rfl rfl ?_
          refine g_iload_n 46 (gd rfl) rfl rfl ?_
          have v46 : u_46_1 = s40.2.2.1 46 1 := fr_F (fr_F (e_46_1) hF3 rfl) hF40 rfl
          have v46a : z3d = s40.2.2.1 102 4 := fr_F (e3c) hF40 rfl
          have n46 : (z40a).toInt ≤ (u_46_1).toInt := by have a0 := (inv_F hI 0 120 rfl e_102_4); unfold In at a0; have a1 := (inv_F hI 0 5 rfl e_46_3); unfold In at a1; have a2 := (inv_F hI 0 1000 rfl e_46_4); unfold In at a2; have a3 := r_46_1; unfold In at a3; have a4 := (inv_F hI 0 1000 rfl e_46_2); unfold In at a4; have a5 := h2; unfold In at a5; have a6 := i14x13; unfold In at a6; have a7 := i40c; unfold In at a7; have a8 := i40b; unfold In at a8; have a9 := i40a; unfold In at a9; have a10 := i3d; unfold In at a10; omega
          have n46a : (z40b).toInt = 0 ∨ (z40c).toInt + 1 ≤ (z40a).toInt := by have a0 := (inv_F hI 0 120 rfl e_102_4); unfold In at a0; have a1 := (inv_F hI 0 5 rfl e_46_3); unfold In at a1; have a2 := (inv_F hI 0 1000 rfl e_46_4); unfold In at a2; have a3 := r_46_1; unfold In at a3; have a4 := (inv_F hI 0 1000 rfl e_46_2); unfold In at a4; have a5 := h2; unfold In at a5; have a6 := i14x13; unfold In at a6; have a7 := i40c; unfold In at a7; have a8 := i40b; unfold In at a8; have a9 := i40a; unfold In at a9; have a10 := i3d; unfold In at a10; omega
          have n46b : (z40c).toInt ≤ (z40a).toInt := by have a0 := (inv_F hI 0 120 rfl e_102_4); unfold In at a0; have a1 := (inv_F hI 0 5 rfl e_46_3); unfold In at a1; have a2 := (inv_F hI 0 1000 rfl e_46_4); unfold In at a2; have a3 := r_46_1; unfold In at a3; have a4 := (inv_F hI 0 1000 rfl e_46_2); unfold In at a4; have a5 := h2; unfold In at a5; have a6 := i14x13; unfold In at a6; have a7 := i40c; unfold In at a7; have a8 := i40b; unfold In at a8; have a9 := i40a; unfold In at a9; have a10 := i3d; unfold In at a10; omega
          have n46c : (z3d).toInt ≤ (z40c).toInt := by have a0 := (inv_F hI 0 120 rfl e_102_4); unfold In at a0; have a1 := (inv_F hI 0 5 rfl e_46_3); unfold In at a1; have a2 := (inv_F hI 0 1000 rfl e_46_4); unfold In at a2; have a3 := r_46_1; unfold In at a3; have a4 := (inv_F hI 0 1000 rfl e_46_2); unfold In at a4; have a5 := h2; unfold In at a5; have a6 := i14x13; unfold In at a6; have a7 := i40c; unfold In at a7; have a8 := i40b; unfold In at a8; have a9 := i40a; unfold In at a9; have a10 := i3d; unfold In at a10; omega
          have n46d : (z40b).toInt = 2 → ((s40.2.2.1 46 5)).toInt ≤ 999999 := by have a0 := (inv_F hI 0 120 rfl e_102_4); unfold In at a0; have a1 := (inv_F hI 0 5 rfl e_46_3); unfold In at a1; have a2 := (inv_F hI 0 1000 rfl e_46_4); unfold In at a2; have a3 := r_46_1; unfold In at a3; have a4 := (inv_F hI 0 1000 rfl e_46_2); unfold In at a4; have a5 := h2; unfold In at a5; have a6 := i14x13; unfold In at a6; have a7 := i40c; unfold In at a7; have a8 := i40b; unfold In at a8; have a9 := i40a; unfold In at a9; have a10 := i3d; unfold In at a10; omega
          have n46e : 10 - (x2).toInt < ((kk : Nat) : Int) := by have a0 := (inv_F hI 0 120 rfl e_102_4); unfold In at a0; have a1 := (inv_F hI 0 5 rfl e_46_3); unfold In at a1; have a2 := (inv_F hI 0 1000 rfl e_46_4); unfold In at a2; have a3 := r_46_1; unfold In at a3; have a4 := (inv_F hI 0 1000 rfl e_46_2); unfold In at a4; have a5 := h2; unfold In at a5; have a6 := i14x13; unfold In at a6; have a7 := i40c; unfold In at a7; have a8 := i40b; unfold In at a8; have a9 := i40a; unfold In at a9; have a10 := i3d; unfold In at a10; omega
          refine g_callv (X := _) (As := [.ref (A 46), .int x2]) (r := []) (b := A 102) (q := 102) 49 (gd rfl) rfl rfl rfl rfl rfl (ww_o rfl) (Nat.le_of_ble_eq_true rfl) (Nat.zero_le _) (Nat.zero_le _) (ih (by omega) hI40 (in_w 0 10 h2 rfl) e40 v46 e40b e40a rfl v46a (in_w 0 120 r_46_1 rfl) n46 n46a n46b n46c n46d n46e) (fun e u h => h) (fun v u h => ?_)
          obtain ⟨s46, hI46, hF46, n46f, n46g, n46h, n46i, n46j, n46k, z46, rfl, rfl, i46, p46⟩ := h
          obtain ⟨z46a, e46⟩ : ∃ w, w = s46.2.2.1 46 2 := ⟨_, rfl⟩
          have i46a := inv_F hI46 0 1000 rfl e46
          obtain ⟨z46b, e46a⟩ : ∃ w, w = s46.2.2.1 46 3 := ⟨_, rfl⟩
          have i46b := inv_F hI46 0 5 rfl e46a
          obtain ⟨z46c, e46b⟩ : ∃ w, w = s46.2.2.1 46 4 := ⟨_, rfl⟩
          have i46c := inv_F hI46 0 1000 rfl e46b
          obtain ⟨z46d, e46c⟩ : ∃ w, w = s46.2.2.1 102 4 := ⟨_, rfl⟩
          have i46d := inv_F hI46 0 120 rfl e46c
          obtain ⟨z46e, e46d⟩ : ∃ w, w = s46.2.2.1 46 5 := ⟨_, rfl⟩
          rw [← (show z46a = s46.2.2.1 46 2 from e46)] at n46f
          rw [← (show u_46_1 = s46.2.2.1 46 1 from fr_F (fr_F (fr_F (e_46_1) hF3 rfl) hF40 rfl) hF46 rfl)] at n46f
          rw [← (show z46a = s46.2.2.1 46 2 from e46)] at n46g
          rw [← (show z46b = s46.2.2.1 46 3 from e46a)] at n46g
          rw [← (show z46c = s46.2.2.1 46 4 from e46b)] at n46g
          rw [← (show z46a = s46.2.2.1 46 2 from e46)] at n46h
          rw [← (show z46c = s46.2.2.1 46 4 from e46b)] at n46h
          rw [← (show z46c = s46.2.2.1 46 4 from e46b)] at n46i
          rw [← (show z46d = s46.2.2.1 102 4 from e46c)] at n46i
          rw [← (show z46b = s46.2.2.1 46 3 from e46a)] at n46j
          rw [← (show z46e = s46.2.2.1 46 5 from e46d)] at n46j
          rw [← (show z40c = s40.2.2.1 46 4 from e40b)] at n46k
          rw [← (show z3d = s40.2.2.1 102 4 from fr_F (e3c) hF40 rfl)] at n46k
          rw [← (show z46c = s46.2.2.1 46 4 from e46b)] at n46k
          rw [← (show z46d = s46.2.2.1 102 4 from e46c)] at n46k
          show GG _ _ _ _ _ _ _ _ [.int z46] _ _ _
          refine g_if_eq 52 67 (gd rfl) rfl rfl (fun c49 => ?_) (fun c49 => ?_)
          · skip
            have i49 := z_eq 0 0 c49 i46 rfl
            refine g_iconst 0 68 (gd rfl) rfl rfl ?_
            have n68 : ((Int32.ofInt 0)).toInt ≠ 0 → PCV s s46 1 := by first | (intro _; exact p3 c6) | (intro h; exact absurd rfl h)
            have n68a : (z46a).toInt ≤ (u_46_1).toInt := by have a0 := (inv_F hI 0 120 rfl e_102_4); unfold In at a0; have a1 := (inv_F hI 0 5 rfl e_46_3); unfold In at a1; have a2 := (inv_F hI 0 1000 rfl e_46_4); unfold In at a2; have a3 := r_46_1; unfold In at a3; have a4 := (inv_F hI 0 1000 rfl e_46_2); unfold In at a4; have a5 := h2; unfold In at a5; have a6 := i14x13; unfold In at a6; have a7 := i46d; unfold In at a7; have a8 := i46c; unfold In at a8; have a9 := i46b; unfold In at a9; have a10 := i46a; unfold In at a10; omega
            have n68b : (s46.2.2.1 46 2).toInt ≤ (s46.2.2.1 46 1).toInt := by have b0 : z46a = s46.2.2.1 46 2 := e46; have b1 : u_46_1 = s46.2.2.1 46 1 := fr_F (fr_F (fr_F (e_46_1) hF3 rfl) hF40 rfl) hF46 rfl; rw [← b0, ← b1]; exact n68a
            have n68c : (z46b).toInt = 0 ∨ (z46c).toInt + 1 ≤ (z46a).toInt := by have a0 := (inv_F hI 0 120 rfl e_102_4); unfold In at a0; have a1 := (inv_F hI 0 5 rfl e_46_3); unfold In at a1; have a2 := (inv_F hI 0 1000 rfl e_46_4); unfold In at a2; have a3 := r_46_1; unfold In at a3; have a4 := (inv_F hI 0 1000 rfl e_46_2); unfold In at a4; have a5 := h2; unfold In at a5; have a6 := i14x13; unfold In at a6; have a7 := i46d; unfold In at a7; have a8 := i46c; unfold In at a8; have a9 := i46b; unfold In at a9; have a10 := i46a; unfold In at a10; omega
            have n68d : (s46.2.2.1 46 3).toInt = 0 ∨ (s46.2.2.1 46 4).toInt + 1 ≤ (s46.2.2.1 46 2).toInt := by have b0 : z46b = s46.2.2.1 46 3 := e46a; have b1 : z46c = s46.2.2.1 46 4 := e46b; have b2 : z46a = s46.2.2.1 46 2 := e46; rw [← b0, ← b1, ← b2]; exact n68c
            have n68e : (z46c).toInt ≤ (z46a).toInt := by have a0 := (inv_F hI 0 120 rfl e_102_4); unfold In at a0; have a1 := (inv_F hI 0 5 rfl e_46_3); unfold In at a1; have a2 := (inv_F hI 0 1000 rfl e_46_4); unfold In at a2; have a3 := r_46_1; unfold In at a3; have a4 := (inv_F hI 0 1000 rfl e_46_2); unfold In at a4; have a5 := h2; unfold In at a5; have a6 := i14x13; unfold In at a6; have a7 := i46d; unfold In at a7; have a8 := i46c; unfold In at a8; have a9 := i46b; unfold In at a9; have a10 := i46a; unfold In at a10; omega
            have n68f : (s46.2.2.1 46 4).toInt ≤ (s46.2.2.1 46 2).toInt := by have b0 : z46c = s46.2.2.1 46 4 := e46b; have b1 : z46a = s46.2.2.1 46 2 := e46; rw [← b0, ← b1]; exact n68e
            have n68g : (z46d).toInt ≤ (z46c).toInt := by have a0 := (inv_F hI 0 120 rfl e_102_4); unfold In at a0; have a1 := (inv_F hI 0 5 rfl e_46_3); unfold In at a1; have a2 := (inv_F hI 0 1000 rfl e_46_4); unfold In at a2; have a3 := r_46_1; unfold In at a3; have a4 := (inv_F hI 0 1000 rfl e_46_2); unfold In at a4; have a5 := h2; unfold In at a5; have a6 := i14x13; unfold In at a6; have a7 := i46d; unfold In at a7; have a8 := i46c; unfold In at a8; have a9 := i46b; unfold In at a9; have a10 := i46a; unfold In at a10; omega
            have n68h : (s46.2.2.1 102 4).toInt ≤ (s46.2.2.1 46 4).toInt := by have b0 : z46d = s46.2.2.1 102 4 := e46c; have b1 : z46c = s46.2.2.1 46 4 := e46b; rw [← b0, ← b1]; exact n68g
            have n68i : (z46b).toInt = 2 → (z46e).toInt ≤ 999999 := by have a0 := (inv_F hI 0 120 rfl e_102_4); unfold In at a0; have a1 := (inv_F hI 0 5 rfl e_46_3); unfold In at a1; have a2 := (inv_F hI 0 1000 rfl e_46_4); unfold In at a2; have a3 := r_46_1; unfold In at a3; have a4 := (inv_F hI 0 1000 rfl e_46_2); unfold In at a4; have a5 := h2; unfold In at a5; have a6 := i14x13; unfold In at a6; have a7 := i46d; unfold In at a7; have a8 := i46c; unfold In at a8; have a9 := i46b; unfold In at a9; have a10 := i46a; unfold In at a10; omega
            have n68j : (s46.2.2.1 46 3).toInt = 2 → (s46.2.2.1 46 5).toInt ≤ 999999 := by have b0 : z46b = s46.2.2.1 46 3 := e46a; have b1 : z46e = s46.2.2.1 46 5 := e46d; rw [← b0, ← b1]; exact n68i
            have n68k : (u_46_4).toInt - (u_102_4).toInt ≤ (z46c).toInt - (z46d).toInt := by have a0 := (inv_F hI 0 120 rfl e_102_4); unfold In at a0; have a1 := (inv_F hI 0 5 rfl e_46_3); unfold In at a1; have a2 := (inv_F hI 0 1000 rfl e_46_4); unfold In at a2; have a3 := r_46_1; unfold In at a3; have a4 := (inv_F hI 0 1000 rfl e_46_2); unfold In at a4; have a5 := h2; unfold In at a5; have a6 := i14x13; unfold In at a6; have a7 := i46d; unfold In at a7; have a8 := i46c; unfold In at a8; have a9 := i46b; unfold In at a9; have a10 := i46a; unfold In at a10; omega
            have n68l : (s.2.2.1 46 4).toInt - (s.2.2.1 102 4).toInt ≤ (s46.2.2.1 46 4).toInt - (s46.2.2.1 102 4).toInt := by have b0 : z46c = s46.2.2.1 46 4 := e46b; have b1 : z46d = s46.2.2.1 102 4 := e46c; rw [← b0, ← b1, ← e_46_4, ← e_102_4]; exact n68k
            exact g_ireturn (gd rfl) rfl (nb01 (in_w 0 1 (in_c 0 rfl) rfl)) (hP _ _ ⟨s46, hI46, (fr_tr rfl (fr_tr rfl (fr_tr rfl fr_rf hF3) hF40) hF46), n68b, n68d, n68f, n68h, n68j, n68l, (Int32.ofInt 0), rfl, rfl, in_w 0 1 (in_c 0 rfl) rfl, n68⟩)
          · skip
            have i49 := z_ne 1 1 c49 i46 rfl
            refine g_aload_n 53 (gd rfl) rfl rfl ?_
            refine g_ldc 1000100 55 (gd rfl) rfl rfl ?_
            refine g_iload_n 56 (gd rfl) rfl rfl ?_
            refine g_iadd 57 (gd rfl) rfl (fun z56 e56 => ?_)
            have i56 := in_add 1000160 1000160 e56 (in_c 1000100 rfl) i14x13 rfl rfl
            have hD : (s46.2.2.1 102 4).toInt < 120 := (by rw [← (show z46d = s46.2.2.1 102 4 from e46c)]; have a0 := (inv_F hI 0 120 rfl e_102_4); unfold In at a0; have a1 := (inv_F hI 0 5 rfl e_46_3); unfold In at a1; have a2 := (inv_F hI 0 1000 rfl e_46_4); unfold In at a2; have a3 := r_46_1; unfold In at a3; have a4 := (inv_F hI 0 1000 rfl e_46_2); unfold In at a4; have a5 := h2; unfold In at a5; have a6 := i14x13; unfold In at a6; have a7 := i46d; unfold In at a7; have a8 := i46c; unfold In at a8; have a9 := i46b; unfold In at a9; have a10 := i46a; unfold In at a10; have a11 := i56; unfold In at a11; have a12 := t_add e56 (in_c 1000100 rfl) i14x13 rfl; have a13 := (in_c 1000100 rfl); unfold In at a13; omega)
            have hDe : _ = s46.2.2.1 102 4 := (show z46d = s46.2.2.1 102 4 from e46c)
            refine g_callv (X := _) (As := [.int z56]) (r := []) (b := A 102) (q := 102) 60 (gd rfl) rfl rfl rfl rfl rfl (ww_o rfl) (Nat.le_of_ble_eq_true rfl) (Nat.zero_le _) (Nat.zero_le _) (k_57_102 (by omega) hI46 e46c) (fun e u h => h) (fun v u h => ?_)
            obtain ⟨s57, hI57, hF57, n57, n57a, z57, rfl, rfl, i57, p57⟩ := h
            obtain ⟨z57a, e57⟩ : ∃ w, w = s57.2.2.1 102 4 := ⟨_, rfl⟩
            have i57a := inv_F hI57 0 120 rfl e57
            rw [← (show z46d = s46.2.2.1 102 4 from e46c)] at n57
            rw [← (show z57a = s57.2.2.1 102 4 from e57)] at n57
            rw [← (show z46d = s46.2.2.1 102 4 from e46c)] at n57a
            rw [← (show z57a = s57.2.2.1 102 4 from e57)] at n57a
            show GG _ _ _ _ _ _ _ _ [.int z57] _ _ _
            refine g_if_eq 63 67 (gd rfl) rfl rfl (fun c60 => ?_) (fun c60 => ?_)
            · skip
              exact zn_eq c60 i57 rfl
            · skip
              refine g_iconst 1 64 (gd rfl) rfl rfl ?_
              refine g_goto 68 (gd rfl) rfl ?_
              have n68 : ((Int32.ofInt 1)).toInt ≠ 0 → PCV s s57 1 := by intro _; exact pv_st (j := 2) (k := 1) (pv_tr (j := 1) (k := 1) (pv_tr (j := 1) (k := 0) (p3 c6) (pv_sm (hF40.1 104 rfl) (hF40.2.2.1 102 4 rfl))) (p46 c49)) (inv_F hI46 0 120 rfl rfl).1 (p57 hD) (by rw [← (show z57a = s57.2.2.1 102 4 from e57), ← hDe]; have a0 := (inv_F hI 0 120 rfl e_102_4); unfold In at a0; have a1 := (inv_F hI 0 5 rfl e_46_3); unfold In at a1; have a2 := (inv_F hI 0 1000 rfl e_46_4); unfold In at a2; have a3 := r_46_1; unfold In at a3; have a4 := (inv_F hI 0 1000 rfl e_46_2); unfold In at a4; have a5 := h2; unfold In at a5; have a6 := i14x13; unfold In at a6; have a7 := i57a; unfold In at a7; have a8 := i46c; unfold In at a8; have a9 := i46b; unfold In at a9; have a10 := i46a; unfold In at a10; have a11 := i56; unfold In at a11; have a12 := t_add e56 (in_c 1000100 rfl) i14x13 rfl; have a13 := (in_c 1000100 rfl); unfold In at a13; omega) (fun e => hc_b (by have a0 := (inv_F hI 0 120 rfl e_102_4); unfold In at a0; have a1 := (inv_F hI 0 5 rfl e_46_3); unfold In at a1; have a2 := (inv_F hI 0 1000 rfl e_46_4); unfold In at a2; have a3 := r_46_1; unfold In at a3; have a4 := (inv_F hI 0 1000 rfl e_46_2); unfold In at a4; have a5 := h2; unfold In at a5; have a6 := i14x13; unfold In at a6; have a7 := i57a; unfold In at a7; have a8 := i46c; unfold In at a8; have a9 := i46b; unfold In at a9; have a10 := i46a; unfold In at a10; have a11 := i56; unfold In at a11; have a12 := t_add e56 (in_c 1000100 rfl) i14x13 rfl; have a13 := (in_c 1000100 rfl); unfold In at a13; omega) (by have a0 := (inv_F hI 0 120 rfl e_102_4); unfold In at a0; have a1 := (inv_F hI 0 5 rfl e_46_3); unfold In at a1; have a2 := (inv_F hI 0 1000 rfl e_46_4); unfold In at a2; have a3 := r_46_1; unfold In at a3; have a4 := (inv_F hI 0 1000 rfl e_46_2); unfold In at a4; have a5 := h2; unfold In at a5; have a6 := i14x13; unfold In at a6; have a7 := i57a; unfold In at a7; have a8 := i46c; unfold In at a8; have a9 := i46b; unfold In at a9; have a10 := i46a; unfold In at a10; have a11 := i56; unfold In at a11; have a12 := t_add e56 (in_c 1000100 rfl) i14x13 rfl; have a13 := (in_c 1000100 rfl); unfold In at a13; omega) e)
              have n68a : (z46a).toInt ≤ (u_46_1).toInt := by have a0 := (inv_F hI 0 120 rfl e_102_4); unfold In at a0; have a1 := (inv_F hI 0 5 rfl e_46_3); unfold In at a1; have a2 := (inv_F hI 0 1000 rfl e_46_4); unfold In at a2; have a3 := r_46_1; unfold In at a3; have a4 := (inv_F hI 0 1000 rfl e_46_2); unfold In at a4; have a5 := h2; unfold In at a5; have a6 := i14x13; unfold In at a6; have a7 := i57a; unfold In at a7; have a8 := i46c; unfold In at a8; have a9 := i46b; unfold In at a9; have a10 := i46a; unfold In at a10; have a11 := i56; unfold In at a11; have a12 := t_add e56 (in_c 1000100 rfl) i14x13 rfl; have a13 := (in_c 1000100 rfl); unfold In at a13; omega
              have n68b : (s57.2.2.1 46 2).toInt ≤ (s57.2.2.1 46 1).toInt := by have b0 : z46a = s57.2.2.1 46 2 := fr_F (e46) hF57 rfl; have b1 : u_46_1 = s57.2.2.1 46 1 := fr_F (fr_F (fr_F (fr_F (e_46_1) hF3 rfl) hF40 rfl) hF46 rfl) hF57 rfl; rw [← b0, ← b1]; exact n68a
              have n68c : (z46b).toInt = 0 ∨ (z46c).toInt + 1 ≤ (z46a).toInt := by have a0 := (inv_F hI 0 120 rfl e_102_4); unfold In at a0; have a1 := (inv_F hI 0 5 rfl e_46_3); unfold In at a1; have a2 := (inv_F hI 0 1000 rfl e_46_4); unfold In at a2; have a3 := r_46_1; unfold In at a3; have a4 := (inv_F hI 0 1000 rfl e_46_2); unfold In at a4; have a5 := h2; unfold In at a5; have a6 := i14x13; unfold In at a6; have a7 := i57a; unfold In at a7; have a8 := i46c; unfold In at a8; have a9 := i46b; unfold In at a9; have a10 := i46a; unfold In at a10; have a11 := i56; unfold In at a11; have a12 := t_add e56 (in_c 1000100 rfl) i14x13 rfl; have a13 := (in_c 1000100 rfl); unfold In at a13; omega
              have n68d : (s57.2.2.1 46 3).toInt = 0 ∨ (s57.2.2.1 46 4).toInt + 1 ≤ (s57.2.2.1 46 2).toInt := by have b0 : z46b = s57.2.2.1 46 3 := fr_F (e46a) hF57 rfl; have b1 : z46c = s57.2.2.1 46 4 := fr_F (e46b) hF57 rfl; have b2 : z46a = s57.2.2.1 46 2 := fr_F (e46) hF57 rfl; rw [← b0, ← b1, ← b2]; exact n68c
              have n68e : (z46c).toInt ≤ (z46a).toInt := by have a0 := (inv_F hI 0 120 rfl e_102_4); unfold In at a0; have a1 := (inv_F hI 0 5 rfl e_46_3); unfold In at a1; have a2 := (inv_F hI 0 1000 rfl e_46_4); unfold In at a2; have a3 := r_46_1; unfold In at a3; have a4 := (inv_F hI 0 1000 rfl e_46_2); unfold In at a4; have a5 := h2; unfold In at a5; have a6 := i14x13; unfold In at a6; have a7 := i57a; unfold In at a7; have a8 := i46c; unfold In at a8; have a9 := i46b; unfold In at a9; have a10 := i46a; unfold In at a10; have a11 := i56; unfold In at a11; have a12 := t_add e56 (in_c 1000100 rfl) i14x13 rfl; have a13 := (in_c 1000100 rfl); unfold In at a13; omega
              have n68f : (s57.2.2.1 46 4).toInt ≤ (s57.2.2.1 46 2).toInt := by have b0 : z46c = s57.2.2.1 46 4 := fr_F (e46b) hF57 rfl; have b1 : z46a = s57.2.2.1 46 2 := fr_F (e46) hF57 rfl; rw [← b0, ← b1]; exact n68e
              have n68g : (z57a).toInt ≤ (z46c).toInt := by have a0 := (inv_F hI 0 120 rfl e_102_4); unfold In at a0; have a1 := (inv_F hI 0 5 rfl e_46_3); unfold In at a1; have a2 := (inv_F hI 0 1000 rfl e_46_4); unfold In at a2; have a3 := r_46_1; unfold In at a3; have a4 := (inv_F hI 0 1000 rfl e_46_2); unfold In at a4; have a5 := h2; unfold In at a5; have a6 := i14x13; unfold In at a6; have a7 := i57a; unfold In at a7; have a8 := i46c; unfold In at a8; have a9 := i46b; unfold In at a9; have a10 := i46a; unfold In at a10; have a11 := i56; unfold In at a11; have a12 := t_add e56 (in_c 1000100 rfl) i14x13 rfl; have a13 := (in_c 1000100 rfl); unfold In at a13; omega
              have n68h : (s57.2.2.1 102 4).toInt ≤ (s57.2.2.1 46 4).toInt := by have b0 : z57a = s57.2.2.1 102 4 := e57; have b1 : z46c = s57.2.2.1 46 4 := fr_F (e46b) hF57 rfl; rw [← b0, ← b1]; exact n68g
              have n68i : (z46b).toInt = 2 → (z46e).toInt ≤ 999999 := by have a0 := (inv_F hI 0 120 rfl e_102_4); unfold In at a0; have a1 := (inv_F hI 0 5 rfl e_46_3); unfold In at a1; have a2 := (inv_F hI 0 1000 rfl e_46_4); unfold In at a2; have a3 := r_46_1; unfold In at a3; have a4 := (inv_F hI 0 1000 rfl e_46_2); unfold In at a4; have a5 := h2; unfold In at a5; have a6 := i14x13; unfold In at a6; have a7 := i57a; unfold In at a7; have a8 := i46c; unfold In at a8; have a9 := i46b; unfold In at a9; have a10 := i46a; unfold In at a10; have a11 := i56; unfold In at a11; have a12 := t_add e56 (in_c 1000100 rfl) i14x13 rfl; have a13 := (in_c 1000100 rfl); unfold In at a13; omega
              have n68j : (s57.2.2.1 46 3).toInt = 2 → (s57.2.2.1 46 5).toInt ≤ 999999 := by have b0 : z46b = s57.2.2.1 46 3 := fr_F (e46a) hF57 rfl; have b1 : z46e = s57.2.2.1 46 5 := fr_F (e46d) hF57 rfl; rw [← b0, ← b1]; exact n68i
              have n68k : (u_46_4).toInt - (u_102_4).toInt ≤ (z46c).toInt - (z57a).toInt := by have a0 := (inv_F hI 0 120 rfl e_102_4); unfold In at a0; have a1 := (inv_F hI 0 5 rfl e_46_3); unfold In at a1; have a2 := (inv_F hI 0 1000 rfl e_46_4); unfold In at a2; have a3 := r_46_1; unfold In at a3; have a4 := (inv_F hI 0 1000 rfl e_46_2); unfold In at a4; have a5 := h2; unfold In at a5; have a6 := i14x13; unfold In at a6; have a7 := i57a; unfold In at a7; have a8 := i46c; unfold In at a8; have a9 := i46b; unfold In at a9; have a10 := i46a; unfold In at a10; have a11 := i56; unfold In at a11; have a12 := t_add e56 (in_c 1000100 rfl) i14x13 rfl; have a13 := (in_c 1000100 rfl); unfold In at a13; omega
              have n68l : (s.2.2.1 46 4).toInt - (s.2.2.1 102 4).toInt ≤ (s57.2.2.1 46 4).toInt - (s57.2.2.1 102 4).toInt := by have b0 : z46c = s57.2.2.1 46 4 := fr_F (e46b) hF57 rfl; have b1 : z57a = s57.2.2.1 102 4 := e57; rw [← b0, ← b1, ← e_46_4, ← e_102_4]; exact n68k
              exact g_ireturn (gd rfl) rfl (nb01 (in_w 0 1 (in_c 1 rfl) rfl)) (hP _ _ ⟨s57, hI57, (fr_tr rfl (fr_tr rfl (fr_tr rfl (fr_tr rfl fr_rf hF3) hF40) hF46) hF57), n68b, n68d, n68f, n68h, n68j, n68l, (Int32.ofInt 1), rfl, rfl, in_w 0 1 (in_c 1 rfl) rfl, n68⟩)
        · skip
          exact zn_eq c17 (in_c 1 rfl) rfl
  · skip
    have i6 := z_eq 0 0 c6 i3 rfl
    refine g_iconst 0 10 (gd rfl) rfl rfl ?_
    have n10 : ((Int32.ofInt 0)).toInt ≠ 0 → PCV s s3 1 := by first | (intro _; exact p3 c6) | (intro h; exact absurd rfl h)
    have n10a : (z3a).toInt ≤ (u_46_1).toInt := by have a0 := (inv_F hI 0 120 rfl e_102_4); unfold In at a0; have a1 := (inv_F hI 0 5 rfl e_46_3); unfold In at a1; have a2 := (inv_F hI 0 1000 rfl e_46_4); unfold In at a2; have a3 := r_46_1; unfold In at a3; have a4 := (inv_F hI 0 1000 rfl e_46_2); unfold In at a4; have a5 := h2; unfold In at a5; have a6 := i3d; unfold In at a6; have a7 := i3c; unfold In at a7; have a8 := i3b; unfold In at a8; have a9 := i3a; unfold In at a9; omega
    have n10b : (s3.2.2.1 46 2).toInt ≤ (s3.2.2.1 46 1).toInt := by have b0 : z3a = s3.2.2.1 46 2 := e3; have b1 : u_46_1 = s3.2.2.1 46 1 := fr_F (e_46_1) hF3 rfl; rw [← b0, ← b1]; exact n10a
    have n10c : (z3b).toInt = 0 ∨ (z3c).toInt + 1 ≤ (z3a).toInt := by have a0 := (inv_F hI 0 120 rfl e_102_4); unfold In at a0; have a1 := (inv_F hI 0 5 rfl e_46_3); unfold In at a1; have a2 := (inv_F hI 0 1000 rfl e_46_4); unfold In at a2; have a3 := r_46_1; unfold In at a3; have a4 := (inv_F hI 0 1000 rfl e_46_2); unfold In at a4; have a5 := h2; unfold In at a5; have a6 := i3d; unfold In at a6; have a7 := i3c; unfold In at a7; have a8 := i3b; unfold In at a8; have a9 := i3a; unfold In at a9; omega
    have n10d : (s3.2.2.1 46 3).toInt = 0 ∨ (s3.2.2.1 46 4).toInt + 1 ≤ (s3.2.2.1 46 2).toInt := by have b0 : z3b = s3.2.2.1 46 3 := e3a; have b1 : z3c = s3.2.2.1 46 4 := e3b; have b2 : z3a = s3.2.2.1 46 2 := e3; rw [← b0, ← b1, ← b2]; exact n10c
    have n10e : (z3c).toInt ≤ (z3a).toInt := by have a0 := (inv_F hI 0 120 rfl e_102_4); unfold In at a0; have a1 := (inv_F hI 0 5 rfl e_46_3); unfold In at a1; have a2 := (inv_F hI 0 1000 rfl e_46_4); unfold In at a2; have a3 := r_46_1; unfold In at a3; have a4 := (inv_F hI 0 1000 rfl e_46_2); unfold In at a4; have a5 := h2; unfold In at a5; have a6 := i3d; unfold In at a6; have a7 := i3c; unfold In at a7; have a8 := i3b; unfold In at a8; have a9 := i3a; unfold In at a9; omega
    have n10f : (s3.2.2.1 46 4).toInt ≤ (s3.2.2.1 46 2).toInt := by have b0 : z3c = s3.2.2.1 46 4 := e3b; have b1 : z3a = s3.2.2.1 46 2 := e3; rw [← b0, ← b1]; exact n10e
    have n10g : (z3d).toInt ≤ (z3c).toInt := by have a0 := (inv_F hI 0 120 rfl e_102_4); unfold In at a0; have a1 := (inv_F hI 0 5 rfl e_46_3); unfold In at a1; have a2 := (inv_F hI 0 1000 rfl e_46_4); unfold In at a2; have a3 := r_46_1; unfold In at a3; have a4 := (inv_F hI 0 1000 rfl e_46_2); unfold In at a4; have a5 := h2; unfold In at a5; have a6 := i3d; unfold In at a6; have a7 := i3c; unfold In at a7; have a8 := i3b; unfold In at a8; have a9 := i3a; unfold In at a9; omega
    have n10h : (s3.2.2.1 102 4).toInt ≤ (s3.2.2.1 46 4).toInt := by have b0 : z3d = s3.2.2.1 102 4 := e3c; have b1 : z3c = s3.2.2.1 46 4 := e3b; rw [← b0, ← b1]; exact n10g
    have n10i : (z3b).toInt = 2 → (z3e).toInt ≤ 999999 := by have a0 := (inv_F hI 0 120 rfl e_102_4); unfold In at a0; have a1 := (inv_F hI 0 5 rfl e_46_3); unfold In at a1; have a2 := (inv_F hI 0 1000 rfl e_46_4); unfold In at a2; have a3 := r_46_1; unfold In at a3; have a4 := (inv_F hI 0 1000 rfl e_46_2); unfold In at a4; have a5 := h2; unfold In at a5; have a6 := i3d; unfold In at a6; have a7 := i3c; unfold In at a7; have a8 := i3b; unfold In at a8; have a9 := i3a; unfold In at a9; omega
    have n10j : (s3.2.2.1 46 3).toInt = 2 → (s3.2.2.1 46 5).toInt ≤ 999999 := by have b0 : z3b = s3.2.2.1 46 3 := e3a; have b1 : z3e = s3.2.2.1 46 5 := e3d; rw [← b0, ← b1]; exact n10i
    have n10k : (u_46_4).toInt - (u_102_4).toInt ≤ (z3c).toInt - (z3d).toInt := by have a0 := (inv_F hI 0 120 rfl e_102_4); unfold In at a0; have a1 := (inv_F hI 0 5 rfl e_46_3); unfold In at a1; have a2 := (inv_F hI 0 1000 rfl e_46_4); unfold In at a2; have a3 := r_46_1; unfold In at a3; have a4 := (inv_F hI 0 1000 rfl e_46_2); unfold In at a4; have a5 := h2; unfold In at a5; have a6 := i3d; unfold In at a6; have a7 := i3c; unfold In at a7; have a8 := i3b; unfold In at a8; have a9 := i3a; unfold In at a9; omega
    have n10l : (s.2.2.1 46 4).toInt - (s.2.2.1 102 4).toInt ≤ (s3.2.2.1 46 4).toInt - (s3.2.2.1 102 4).toInt := by have b0 : z3c = s3.2.2.1 46 4 := e3b; have b1 : z3d = s3.2.2.1 102 4 := e3c; rw [← b0, ← b1, ← e_46_4, ← e_102_4]; exact n10k
    exact g_ireturn (gd rfl) rfl (nb01 (in_w 0 1 (in_c 0 rfl) rfl)) (hP _ _ ⟨s3, hI3, (fr_tr rfl fr_rf hF3), n10b, n10d, n10f, n10h, n10j, n10l, (Int32.ofInt 0), rfl, rfl, in_w 0 1 (in_c 0 rfl) rfl, n10⟩)
theorem k_61_102_46_r {Z : AmZ} {A : Nat → Nat} {ex : va_W} (kk : Nat) : ∀ {s : GS} {d : Nat} {X : AmX} {x2 : Int32} {u_46_2 : Int32} {u_46_1 : Int32} {u_46_4 : Int32} {u_46_3 : Int32} {u_46_5 : Int32} {u_102_4 : Int32}, 60 + kk * 20 ≤ d → Inv s → In x2 0 10 → u_46_2 = s.2.2.1 46 2 → u_46_1 = s.2.2.1 46 1 → u_46_4 = s.2.2.1 46 4 → u_46_3 = s.2.2.1 46 3 → u_46_5 = s.2.2.1 46 5 → u_102_4 = s.2.2.1 102 4 → In u_46_1 0 120 → (u_46_2).toInt ≤ (u_46_1).toInt → (u_46_3).toInt = 0 ∨ (u_46_4).toInt + 1 ≤ (u_46_2).toInt → (u_46_4).toInt ≤ (u_46_2).toInt → (u_102_4).toInt ≤ (u_46_4).toInt → (u_46_3).toInt = 2 → (u_46_5).toInt ≤ 999999 → 10 - (x2).toInt < ((kk : Nat) : Int) → GC Z d 61 [.ref (A 102), .ref (A 46), .int x2] (WW Z A s ++ ex) 0 0 (fun v u => ∃ t : GS, Inv t ∧ Fr fm_61_102_46 s t ∧ ((t.2.2.1 46 2).toInt ≤ (t.2.2.1 46 1).toInt) ∧ ((t.2.2.1 46 3).toInt = 0 ∨ (t.2.2.1 46 4).toInt + 1 ≤ (t.2.2.1 46 2).toInt) ∧ ((t.2.2.1 46 4).toInt ≤ (t.2.2.1 46 2).toInt) ∧ ((t.2.2.1 102 4).toInt ≤ (t.2.2.1 46 4).toInt) ∧ ((t.2.2.1 46 3).toInt = 2 → (t.2.2.1 46 5).toInt ≤ 999999) ∧ ((s.2.2.1 46 4).toInt - (s.2.2.1 102 4).toInt ≤ (t.2.2.1 46 4).toInt - (t.2.2.1 102 4).toInt) ∧ ∃ z : Int32, v = some (.int z) ∧ u = WW Z A t ++ ex ∧ In z 0 1 ∧ ((z).toInt ≠ 0 → PCV s t 1)) X := by
  induction kk with
  | zero => intro s d X x2 u_46_2 u_46_1 u_46_4 u_46_3 u_46_5 u_102_4 hd hI h2 e_46_2 e_46_1 e_46_4 e_46_3 e_46_5 e_102_4 r_46_1 p_0 p_1 p_2 p_3 p_4 hm; exact m_no hm h2 rfl
  | succ kk ih =>
    have ihl : ∀ {s : GS} {d : Nat} {X : AmX} {x2 : Int32} {u_46_2 : Int32} {u_46_1 : Int32} {u_46_4 : Int32} {u_46_3 : Int32} {u_46_5 : Int32} {u_102_4 : Int32}, 75 + kk * 20 ≤ d → Inv s → In x2 0 10 → u_46_2 = s.2.2.1 46 2 → u_46_1 = s.2.2.1 46 1 → u_46_4 = s.2.2.1 46 4 → u_46_3 = s.2.2.1 46 3 → u_46_5 = s.2.2.1 46 5 → u_102_4 = s.2.2.1 102 4 → In u_46_1 0 120 → (u_46_2).toInt ≤ (u_46_1).toInt → (u_46_3).toInt = 0 ∨ (u_46_4).toInt + 1 ≤ (u_46_2).toInt → (u_46_4).toInt ≤ (u_46_2).toInt → (u_102_4).toInt ≤ (u_46_4).toInt → (u_46_3).toInt = 2 → (u_46_5).toInt ≤ 999999 → 10 - (x2).toInt < ((kk : Nat) : Int) → GC Z d 58 [.ref (A 102), .ref (A 46), .int x2] (WW Z A s ++ ex) 0 0 (fun v u => ∃ t : GS, Inv t ∧ Fr fm_58_102_46 s t ∧ ((t.2.2.1 46 2).toInt ≤ (t.2.2.1 46 1).toInt) ∧ ((t.2.2.1 46 3).toInt = 0 ∨ (t.2.2.1 46 4).toInt + 1 ≤ (t.2.2.1 46 2).toInt) ∧ ((t.2.2.1 46 4).toInt ≤ (t.2.2.1 46 2).toInt) ∧ ((t.2.2.1 102 4).toInt ≤ (t.2.2.1 46 4).toInt) ∧ ((t.2.2.1 46 3).toInt = 2 → (t.2.2.1 46 5).toInt ≤ 999999) ∧ ((s.2.2.1 46 4).toInt - (s.2.2.1 102 4).toInt ≤ (t.2.2.1 46 4).toInt - (t.2.2.1 102 4).toInt) ∧ ∃ z : Int32, v = some (.int z) ∧ u = WW Z A t ++ ex ∧ In z 0 1 ∧ ((z).toInt ≠ 0 → PCV s t 1)) X := (k_58_102_46_r kk (k_59_102_46_r kk (k_60_102_46_r kk ih)))
    intro s d X x2 u_46_2 u_46_1 u_46_4 u_46_3 u_46_5 u_102_4 hd hI h2 e_46_2 e_46_1 e_46_4 e_46_3 e_46_5 e_102_4 r_46_1 p_0 p_1 p_2 p_3 p_4 hm
    intro post xp hP hX
    refine g_enter2 (k := 61) (N := 900) (by omega) rfl (Nat.le_of_ble_eq_true rfl) ?_
    refine g_aload_n 1 (gd rfl) rfl rfl ?_
    refine g_getI 4 (gd rfl) rfl rfl rfl (fun z1 e1 => ?_)
    have q1 : u_46_3 = z1 := (e_46_3).trans e1.symm
    subst q1
    refine g_iconst 2 5 (gd rfl) rfl rfl ?_
    refine g_cmp_eq 8 16 (gd rfl) rfl rfl (fun c5 => ?_) (fun c5 => ?_)
    · skip
      have i5 := r_eq1 2 2 c5 (inv_F hI 0 5 rfl e_46_3) (in_c 2 rfl) rfl
      refine g_aload_n 17 (gd rfl) rfl rfl ?_
      refine g_aload_n 18 (gd rfl) rfl rfl ?_
      have n18 : (u_46_2).toInt ≤ (u_46_1).toInt := by have a0 := (inv_F hI 0 120 rfl e_102_4); unfold In at a0; have a1 := i5; unfold In at a1; have a2 := (inv_F hI 0 1000 rfl e_46_4); unfold In at a2; have a3 := r_46_1; unfold In at a3; have a4 := (inv_F hI 0 1000 rfl e_46_2); unfold In at a4; have a5 := h2; unfold In at a5; omega
      have n18a : (u_46_3).toInt = 0 ∨ (u_46_4).toInt + 1 ≤ (u_46_2).toInt := by have a0 := (inv_F hI 0 120 rfl e_102_4); unfold In at a0; have a1 := i5; unfold In at a1; have a2 := (inv_F hI 0 1000 rfl e_46_4); unfold In at a2; have a3 := r_46_1; unfold In at a3; have a4 := (inv_F hI 0 1000 rfl e_46_2); unfold In at a4; have a5 := h2; unfold In at a5; omega
      have n18b : (u_46_4).toInt ≤ (u_46_2).toInt := by have a0 := (inv_F hI 0 120 rfl e_102_4); unfold In at a0; have a1 := i5; unfold In at a1; have a2 := (inv_F hI 0 1000 rfl e_46_4); unfold In at a2; have a3 := r_46_1; unfold In at a3; have a4 := (inv_F hI 0 1000 rfl e_46_2); unfold In at a4; have a5 := h2; unfold In at a5; omega
      have n18c : (u_102_4).toInt ≤ (u_46_4).toInt := by have a0 := (inv_F hI 0 120 rfl e_102_4); unfold In at a0; have a1 := i5; unfold In at a1; have a2 := (inv_F hI 0 1000 rfl e_46_4); unfold In at a2; have a3 := r_46_1; unfold In at a3; have a4 := (inv_F hI 0 1000 rfl e_46_2); unfold In at a4; have a5 := h2; unfold In at a5; omega
      have n18d : (u_46_3).toInt = 2 → (u_46_5).toInt ≤ 999999 := by have a0 := (inv_F hI 0 120 rfl e_102_4); unfold In at a0; have a1 := i5; unfold In at a1; have a2 := (inv_F hI 0 1000 rfl e_46_4); unfold In at a2; have a3 := r_46_1; unfold In at a3; have a4 := (inv_F hI 0 1000 rfl e_46_2); unfold In at a4; have a5 := h2; unfold In at a5; omega
      have n18e : (u_46_3).toInt = 1 ∨ (u_46_3).toInt = 2 := by have a0 := (inv_F hI 0 120 rfl e_102_4); unfold In at a0; have a1 := i5; unfold In at a1; have a2 := (inv_F hI 0 1000 rfl e_46_4); unfold In at a2; have a3 := r_46_1; unfold In at a3; have a4 := (inv_F hI 0 1000 rfl e_46_2); unfold In at a4; have a5 := h2; unfold In at a5; omega
      refine g_callv (X := _) (As := [.ref (A 46)]) (r := []) (b := A 102) (q := 102) 21 (gd rfl) rfl rfl rfl rfl rfl (ww_o rfl) (Nat.le_of_ble_eq_true rfl) (Nat.zero_le _) (Nat.zero_le _) (k_62_102_46 (by omega) hI e_46_2 e_46_1 e_46_4 e_46_3 e_46_5 e_102_4 (in_w 0 120 r_46_1 rfl) n18 n18a n18b n18c n18d n18e) (fun e u h => h) (fun v u h => ?_)
      obtain ⟨s18, hI18, hF18, n18f, n18g, n18h, n18i, n18j, n18k, z18, rfl, rfl, i18, p18⟩ := h
      obtain ⟨z18a, e18⟩ : ∃ w, w = s18.2.2.1 46 2 := ⟨_, rfl⟩
      have i18a := inv_F hI18 0 1000 rfl e18
      obtain ⟨z18b, e18a⟩ : ∃ w, w = s18.2.2.1 46 3 := ⟨_, rfl⟩
      have i18b := inv_F hI18 0 5 rfl e18a
      obtain ⟨z18c, e18b⟩ : ∃ w, w = s18.2.2.1 46 4 := ⟨_, rfl⟩
      have i18c := inv_F hI18 0 1000 rfl e18b
      obtain ⟨z18d, e18c⟩ : ∃ w, w = s18.2.2.1 102 4 := ⟨_, rfl⟩
      have i18d := inv_F hI18 0 120 rfl e18c
      obtain ⟨z18e, e18d⟩ : ∃ w, w = s18.2.2.1 46 5 := ⟨_, rfl⟩
      rw [← (show z18a = s18.2.2.1 46 2 from e18)] at n18f
      rw [← (show u_46_1 = s18.2.2.1 46 1 from fr_F (e_46_1) hF18 rfl)] at n18f
      rw [← (show z18a = s18.2.2.1 46 2 from e18)] at n18g
      rw [← (show z18b = s18.2.2.1 46 3 from e18a)] at n18g
      rw [← (show z18c = s18.2.2.1 46 4 from e18b)] at n18g
      rw [← (show z18a = s18.2.2.1 46 2 from e18)] at n18h
      rw [← (show z18c = s18.2.2.1 46 4 from e18b)] at n18h
      rw [← (show z18c = s18.2.2.1 46 4 from e18b)] at n18i
      rw [← (show z18d = s18.2.2.1 102 4 from e18c)] at n18i
      rw [← (show z18b = s18.2.2.1 46 3 from e18a)] at n18j
      rw [← (show z18e = s18.2.2.1 46 5 from e18d)] at n18j
      rw [← (show u_46_4 = s.2.2.1 46 4 from e_46_4)] at n18k
      rw [← (show u_102_4 = s.2.2.1 102 4 from e_102_4)] at n18k
      rw [← (show z18c = s18.2.2.1 46 4 from e18b)] at n18k
      rw [← (show z18d = s18.2.2.1 102 4 from e18c)] at n18k
      show GG _ _ _ _ _ _ _ _ [.int z18] _ _ _
      have n21 : (z18).toInt ≠ 0 → PCV s s18 1 := by exact p18
      have n21a : (z18a).toInt ≤ (u_46_1).toInt := by have a0 := (inv_F hI 0 120 rfl e_102_4); unfold In at a0; have a1 := i5; unfold In at a1; have a2 := (inv_F hI 0 1000 rfl e_46_4); unfold In at a2; have a3 := r_46_1; unfold In at a3; have a4 := (inv_F hI 0 1000 rfl e_46_2); unfold In at a4; have a5 := h2; unfold In at a5; have a6 := i18d; unfold In at a6; have a7 := i18c; unfold In at a7; have a8 := i18b; unfold In at a8; have a9 := i18a; unfold In at a9; omega
      have n21b : (s18.2.2.1 46 2).toInt ≤ (s18.2.2.1 46 1).toInt := by have b0 : z18a = s18.2.2.1 46 2 := e18; have b1 : u_46_1 = s18.2.2.1 46 1 := fr_F (e_46_1) hF18 rfl; rw [← b0, ← b1]; exact n21a
      have n21c : (z18b).toInt = 0 ∨ (z18c).toInt + 1 ≤ (z18a).toInt := by have a0 := (inv_F hI 0 120 rfl e_102_4); unfold In at a0; have a1 := i5; unfold In at a1; have a2 := (inv_F hI 0 1000 rfl e_46_4); unfold In at a2; have a3 := r_46_1; unfold In at a3; have a4 := (inv_F hI 0 1000 rfl e_46_2); unfold In at a4; have a5 := h2; unfold In at a5; have a6 := i18d; unfold In at a6; have a7 := i18c; unfold In at a7; have a8 := i18b; unfold In at a8; have a9 := i18a; unfold In at a9; omega
      have n21d : (s18.2.2.1 46 3).toInt = 0 ∨ (s18.2.2.1 46 4).toInt + 1 ≤ (s18.2.2.1 46 2).toInt := by have b0 : z18b = s18.2.2.1 46 3 := e18a; have b1 : z18c = s18.2.2.1 46 4 := e18b; have b2 : z18a = s18.2.2.1 46 2 := e18; rw [← b0, ← b1, ← b2]; exact n21c
      have n21e : (z18c).toInt ≤ (z18a).toInt := by have a0 := (inv_F hI 0 120 rfl e_102_4); unfold In at a0; have a1 := i5; unfold In at a1; have a2 := (inv_F hI 0 1000 rfl e_46_4); unfold In at a2; have a3 := r_46_1; unfold In at a3; have a4 := (inv_F hI 0 1000 rfl e_46_2); unfold In at a4; have a5 := h2; unfold In at a5; have a6 := i18d; unfold In at a6; have a7 := i18c; unfold In at a7; have a8 := i18b; unfold In at a8; have a9 := i18a; unfold In at a9; omega
      have n21f : (s18.2.2.1 46 4).toInt ≤ (s18.2.2.1 46 2).toInt := by have b0 : z18c = s18.2.2.1 46 4 := e18b; have b1 : z18a = s18.2.2.1 46 2 := e18; rw [← b0, ← b1]; exact n21e
      have n21g : (z18d).toInt ≤ (z18c).toInt := by have a0 := (inv_F hI 0 120 rfl e_102_4); unfold In at a0; have a1 := i5; unfold In at a1; have a2 := (inv_F hI 0 1000 rfl e_46_4); unfold In at a2; have a3 := r_46_1; unfold In at a3; have a4 := (inv_F hI 0 1000 rfl e_46_2); unfold In at a4; have a5 := h2; unfold In at a5; have a6 := i18d; unfold In at a6; have a7 := i18c; unfold In at a7; have a8 := i18b; unfold In at a8; have a9 := i18a; unfold In at a9; omega
      have n21h : (s18.2.2.1 102 4).toInt ≤ (s18.2.2.1 46 4).toInt := by have b0 : z18d = s18.2.2.1 102 4 := e18c; have b1 : z18c = s18.2.2.1 46 4 := e18b; rw [← b0, ← b1]; exact n21g
      have n21i : (z18b).toInt = 2 → (z18e).toInt ≤ 999999 := by have a0 := (inv_F hI 0 120 rfl e_102_4); unfold In at a0; have a1 := i5; unfold In at a1; have a2 := (inv_F hI 0 1000 rfl e_46_4); unfold In at a2; have a3 := r_46_1; unfold In at a3; have a4 := (inv_F hI 0 1000 rfl e_46_2); unfold In at a4; have a5 := h2; unfold In at a5; have a6 := i18d; unfold In at a6; have a7 := i18c; unfold In at a7; have a8 := i18b; unfold In at a8; have a9 := i18a; unfold In at a9; omega
      have n21j : (s18.2.2.1 46 3).toInt = 2 → (s18.2.2.1 46 5).toInt ≤ 999999 := by have b0 : z18b = s18.2.2.1 46 3 := e18a; have b1 : z18e = s18.2.2.1 46 5 := e18d; rw [← b0, ← b1]; exact n21i
      have n21k : (u_46_4).toInt - (u_102_4).toInt ≤ (z18c).toInt - (z18d).toInt := by have a0 := (inv_F hI 0 120 rfl e_102_4); unfold In at a0; have a1 := i5; unfold In at a1; have a2 := (inv_F hI 0 1000 rfl e_46_4); unfold In at a2; have a3 := r_46_1; unfold In at a3; have a4 := (inv_F hI 0 1000 rfl e_46_2); unfold In at a4; have a5 := h2; unfold In at a5; have a6 := i18d; unfold In at a6; have a7 := i18c; unfold In at a7; have a8 := i18b; unfold In at a8; have a9 := i18a; unfold In at a9; omega
      have n21l : (s.2.2.1 46 4).toInt - (s.2.2.1 102 4).toInt ≤ (s18.2.2.1 46 4).toInt - (s18.2.2.1 102 4).toInt := by have b0 : z18c = s18.2.2.1 46 4 := e18b; have b1 : z18d = s18.2.2.1 102 4 := e18c; rw [← b0, ← b1, ← e_46_4, ← e_102_4]; exact n21k
      exact g_ireturn (gd rfl) rfl (nb01 (in_w 0 1 i18 rfl)) (hP _ _ ⟨s18, hI18, (fr_tr rfl fr_rf hF18), n21b, n21d, n21f, n21h, n21j, n21l, z18, rfl, rfl, in_w 0 1 i18 rfl, n21⟩)
    · skip
      refine g_aload_n 9 (gd rfl) rfl rfl ?_
      refine g_getI 12 (gd rfl) rfl rfl rfl (fun z9 e9 => ?_)
      have q9 : u_46_3 = z9 := (e_46_3).trans e9.symm
      subst q9
      refine g_iconst 1 13 (gd rfl) rfl rfl ?_
      refine g_cmp_ne 16 22 (gd rfl) rfl rfl (fun c13 => ?_) (fun c13 => ?_)
      · skip
        refine g_aload_n 23 (gd rfl) rfl rfl ?_
        refine g_bipush 45 25 (gd rfl) rfl rfl ?_
        refine g_callv (X := _) (As := [.int (Int32.ofInt 45)]) (r := []) (b := A 46) (q := 46) 28 (gd rfl) rfl rfl rfl rfl rfl (ww_o rfl) (Nat.le_of_ble_eq_true rfl) (mc := 0) (ms := 0) (Nat.zero_le _) (Nat.zero_le _) (P := fun v u => _) ?_ (fun e u h => h) (fun v u h => h)
        intro po25 xx25 hp25 hx25
        refine g_enter2 (k := 170) (N := 300) (by omega) rfl (Nat.le_of_ble_eq_true rfl) ?_
        refine g_aload_n 1 (gd rfl) rfl rfl ?_
        refine g_getI 4 (gd rfl) rfl rfl rfl (fun z25x1 e25x1 => ?_)
        have q25x1 : u_46_3 = z25x1 := (e_46_3).trans e25x1.symm
        subst q25x1
        refine g_iconst 3 5 (gd rfl) rfl rfl ?_
        refine g_cmp_ne 8 20 (gd rfl) rfl rfl (fun c25x5 => ?_) (fun c25x5 => ?_)
        · skip
          refine g_iconst 0 21 (gd rfl) rfl rfl ?_
          refine g_ireturn (gd rfl) rfl (nb01 (in_w 0 1 (in_c 0 rfl) rfl)) (hp25 _ _ ?_)
          show GG _ _ _ _ _ _ _ _ [.int (Int32.ofInt 0)] _ _ _
          refine g_istore_n 29 (gd rfl) rfl (Nat.le_of_ble_eq_true rfl) ?_
          refine g_iload_n 30 (gd rfl) rfl rfl ?_
          refine g_if_ne 33 49 (gd rfl) rfl rfl (fun c30 => ?_) (fun c30 => ?_)
          · skip
            exact zn_ne c30 (in_c 0 rfl) rfl
          · skip
            refine g_aload_n 34 (gd rfl) rfl rfl ?_
            refine g_bipush 40 36 (gd rfl) rfl rfl ?_
            refine g_callv (X := _) (As := [.int (Int32.ofInt 40)]) (r := []) (b := A 46) (q := 46) 39 (gd rfl) rfl rfl rfl rfl rfl (ww_o rfl) (Nat.le_of_ble_eq_true rfl) (mc := 0) (ms := 0) (Nat.zero_le _) (Nat.zero_le _) (P := fun v u => _) ?_ (fun e u h => h) (fun v u h => h)
            intro po36 xx36 hp36 hx36
            refine g_enter2 (k := 170) (N := 300) (by omega) rfl (Nat.le_of_ble_eq_true rfl) ?_
            refine g_aload_n 1 (gd rfl) rfl rfl ?_
            refine g_getI 4 (gd rfl) rfl rfl rfl (fun z36x1 e36x1 => ?_)
            have q36x1 : u_46_3 = z36x1 := (e_46_3).trans e36x1.symm
            subst q36x1
            refine g_iconst 3 5 (gd rfl) rfl rfl ?_
            refine g_cmp_ne 8 20 (gd rfl) rfl rfl (fun c36x5 => ?_) (fun c36x5 => ?_)
            · skip
              refine g_iconst 0 21 (gd rfl) rfl rfl ?_
              refine g_ireturn (gd rfl) rfl (nb01 (in_w 0 1 (in_c 0 rfl) rfl)) (hp36 _ _ ?_)
              show GG _ _ _ _ _ _ _ _ [.int (Int32.ofInt 0)] _ _ _
              refine g_if_ne 42 49 (gd rfl) rfl rfl (fun c39 => ?_) (fun c39 => ?_)
              · skip
                exact zn_ne c39 (in_c 0 rfl) rfl
              · skip
                refine g_aload_n 43 (gd rfl) rfl rfl ?_
                refine g_iconst 2 44 (gd rfl) rfl rfl ?_
                refine g_iconst 4 45 (gd rfl) rfl rfl ?_
                refine g_callv (X := _) (As := [.int (Int32.ofInt 2), .int (Int32.ofInt 4)]) (r := []) (b := A 46) (q := 46) 48 (gd rfl) rfl rfl rfl rfl rfl (ww_o rfl) (Nat.le_of_ble_eq_true rfl) (Nat.zero_le _) (Nat.zero_le _) (k_169_46 (by omega) hI (in_w 2 2 (in_c 2 rfl) rfl) (in_w 4 4 (in_c 4 rfl) rfl)) (fun e u h => h) (fun v u h => ?_)
                obtain ⟨s45, hI45, hF45, z45, rfl, rfl, i45⟩ := h
                show GG _ _ _ _ _ _ _ _ [.int z45] _ _ _
                have n48 : (z45).toInt ≠ 0 → PCV s s45 1 := by intro h; unfold In at i45; omega
                have n48a : (u_46_2).toInt ≤ (u_46_1).toInt := by have a0 := (inv_F hI 0 120 rfl e_102_4); unfold In at a0; have a1 := (inv_F hI 0 5 rfl e_46_3); unfold In at a1; have a2 := (inv_F hI 0 1000 rfl e_46_4); unfold In at a2; have a3 := r_46_1; unfold In at a3; have a4 := (inv_F hI 0 1000 rfl e_46_2); unfold In at a4; have a5 := h2; unfold In at a5; have a6 := (in_c 0 rfl); unfold In at a6; omega
                have n48b : (s45.2.2.1 46 2).toInt ≤ (s45.2.2.1 46 1).toInt := by have b0 : u_46_2 = s45.2.2.1 46 2 := fr_F (e_46_2) hF45 rfl; have b1 : u_46_1 = s45.2.2.1 46 1 := fr_F (e_46_1) hF45 rfl; rw [← b0, ← b1]; exact n48a
                have n48c : (u_46_3).toInt = 0 ∨ (u_46_4).toInt + 1 ≤ (u_46_2).toInt := by have a0 := (inv_F hI 0 120 rfl e_102_4); unfold In at a0; have a1 := (inv_F hI 0 5 rfl e_46_3); unfold In at a1; have a2 := (inv_F hI 0 1000 rfl e_46_4); unfold In at a2; have a3 := r_46_1; unfold In at a3; have a4 := (inv_F hI 0 1000 rfl e_46_2); unfold In at a4; have a5 := h2; unfold In at a5; have a6 := (in_c 0 rfl); unfold In at a6; omega
                have n48d : (s45.2.2.1 46 3).toInt = 0 ∨ (s45.2.2.1 46 4).toInt + 1 ≤ (s45.2.2.1 46 2).toInt := by have b0 : u_46_3 = s45.2.2.1 46 3 := fr_F (e_46_3) hF45 rfl; have b1 : u_46_4 = s45.2.2.1 46 4 := fr_F (e_46_4) hF45 rfl; have b2 : u_46_2 = s45.2.2.1 46 2 := fr_F (e_46_2) hF45 rfl; rw [← b0, ← b1, ← b2]; exact n48c
                have n48e : (u_46_4).toInt ≤ (u_46_2).toInt := by have a0 := (inv_F hI 0 120 rfl e_102_4); unfold In at a0; have a1 := (inv_F hI 0 5 rfl e_46_3); unfold In at a1; have a2 := (inv_F hI 0 1000 rfl e_46_4); unfold In at a2; have a3 := r_46_1; unfold In at a3; have a4 := (inv_F hI 0 1000 rfl e_46_2); unfold In at a4; have a5 := h2; unfold In at a5; have a6 := (in_c 0 rfl); unfold In at a6; omega
                have n48f : (s45.2.2.1 46 4).toInt ≤ (s45.2.2.1 46 2).toInt := by have b0 : u_46_4 = s45.2.2.1 46 4 := fr_F (e_46_4) hF45 rfl; have b1 : u_46_2 = s45.2.2.1 46 2 := fr_F (e_46_2) hF45 rfl; rw [← b0, ← b1]; exact n48e
                have n48g : (u_102_4).toInt ≤ (u_46_4).toInt := by have a0 := (inv_F hI 0 120 rfl e_102_4); unfold In at a0; have a1 := (inv_F hI 0 5 rfl e_46_3); unfold In at a1; have a2 := (inv_F hI 0 1000 rfl e_46_4); unfold In at a2; have a3 := r_46_1; unfold In at a3; have a4 := (inv_F hI 0 1000 rfl e_46_2); unfold In at a4; have a5 := h2; unfold In at a5; have a6 := (in_c 0 rfl); unfold In at a6; omega
                have n48h : (s45.2.2.1 102 4).toInt ≤ (s45.2.2.1 46 4).toInt := by have b0 : u_102_4 = s45.2.2.1 102 4 := fr_F (e_102_4) hF45 rfl; have b1 : u_46_4 = s45.2.2.1 46 4 := fr_F (e_46_4) hF45 rfl; rw [← b0, ← b1]; exact n48g
                have n48i : (u_46_3).toInt = 2 → (u_46_5).toInt ≤ 999999 := by have a0 := (inv_F hI 0 120 rfl e_102_4); unfold In at a0; have a1 := (inv_F hI 0 5 rfl e_46_3); unfold In at a1; have a2 := (inv_F hI 0 1000 rfl e_46_4); unfold In at a2; have a3 := r_46_1; unfold In at a3; have a4 := (inv_F hI 0 1000 rfl e_46_2); unfold In at a4; have a5 := h2; unfold In at a5; have a6 := (in_c 0 rfl); unfold In at a6; omega
                have n48j : (s45.2.2.1 46 3).toInt = 2 → (s45.2.2.1 46 5).toInt ≤ 999999 := by have b0 : u_46_3 = s45.2.2.1 46 3 := fr_F (e_46_3) hF45 rfl; have b1 : u_46_5 = s45.2.2.1 46 5 := fr_F (e_46_5) hF45 rfl; rw [← b0, ← b1]; exact n48i
                have n48k : (u_46_4).toInt - (u_102_4).toInt ≤ (u_46_4).toInt - (u_102_4).toInt := by have a0 := (inv_F hI 0 120 rfl e_102_4); unfold In at a0; have a1 := (inv_F hI 0 5 rfl e_46_3); unfold In at a1; have a2 := (inv_F hI 0 1000 rfl e_46_4); unfold In at a2; have a3 := r_46_1; unfold In at a3; have a4 := (inv_F hI 0 1000 rfl e_46_2); unfold In at a4; have a5 := h2; unfold In at a5; have a6 := (in_c 0 rfl); unfold In at a6; omega
                have n48l : (s.2.2.1 46 4).toInt - (s.2.2.1 102 4).toInt ≤ (s45.2.2.1 46 4).toInt - (s45.2.2.1 102 4).toInt := by have b0 : u_46_4 = s45.2.2.1 46 4 := fr_F (e_46_4) hF45 rfl; have b1 : u_102_4 = s45.2.2.1 102 4 := fr_F (e_102_4) hF45 rfl; rw [← b0, ← b1, ← e_46_4, ← e_102_4]; exact n48k
                exact g_ireturn (gd rfl) rfl (nb01 (in_w 0 1 i45 rfl)) (hP _ _ ⟨s45, hI45, (fr_tr rfl fr_rf hF45), n48b, n48d, n48f, n48h, n48j, n48l, z45, rfl, rfl, in_w 0 1 i45 rfl, n48⟩)
            · skip
              exact absurd c36x5 c25x5
        · skip
          have i25x5 := r_eq1 3 3 c25x5 (inv_F hI 0 5 rfl e_46_3) (in_c 3 rfl) rfl
          refine g_aload_n 9 (gd rfl) rfl rfl ?_
          refine g_getI 12 (gd rfl) rfl rfl rfl (fun z25x9 e25x9 => ?_)
          have q25x9 : u_46_5 = z25x9 := (e_46_5).trans e25x9.symm
          subst q25x9
          refine g_iload_n 13 (gd rfl) rfl rfl ?_
          refine g_cmp_ne 16 20 (gd rfl) rfl rfl (fun c25x13 => ?_) (fun c25x13 => ?_)
          · skip
            refine g_iconst 0 21 (gd rfl) rfl rfl ?_
            refine g_ireturn (gd rfl) rfl (nb01 (in_w 0 1 (in_c 0 rfl) rfl)) (hp25 _ _ ?_)
            show GG _ _ _ _ _ _ _ _ [.int (Int32.ofInt 0)] _ _ _
            refine g_istore_n 29 (gd rfl) rfl (Nat.le_of_ble_eq_true rfl) ?_
            refine g_iload_n 30 (gd rfl) rfl rfl ?_
            refine g_if_ne 33 49 (gd rfl) rfl rfl (fun c30 => ?_) (fun c30 => ?_)
            · skip
              exact zn_ne c30 (in_c 0 rfl) rfl
            · skip
              refine g_aload_n 34 (gd rfl) rfl rfl ?_
              refine g_bipush 40 36 (gd rfl) rfl rfl ?_
              refine g_callv (X := _) (As := [.int (Int32.ofInt 40)]) (r := []) (b := A 46) (q := 46) 39 (gd rfl) rfl rfl rfl rfl rfl (ww_o rfl) (Nat.le_of_ble_eq_true rfl) (mc := 0) (ms := 0) (Nat.zero_le _) (Nat.zero_le _) (P := fun v u => _) ?_ (fun e u h => h) (fun v u h => h)
              intro po36 xx36 hp36 hx36
              refine g_enter2 (k := 170) (N := 300) (by omega) rfl (Nat.le_of_ble_eq_true rfl) ?_
              refine g_aload_n 1 (gd rfl) rfl rfl ?_
              refine g_getI 4 (gd rfl) rfl rfl rfl (fun z36x1 e36x1 => ?_)
              have q36x1 : u_46_3 = z36x1 := (e_46_3).trans e36x1.symm
              subst q36x1
              refine g_iconst 3 5 (gd rfl) rfl rfl ?_
              refine g_cmp_ne 8 20 (gd rfl) rfl rfl (fun c36x5 => ?_) (fun c36x5 => ?_)
              · skip
                exact n_ne c36x5 i25x5 (in_c 3 rfl) rfl
              · skip
                refine g_aload_n 9 (gd rfl) rfl rfl ?_
                refine g_getI 12 (gd rfl) rfl rfl rfl (fun z36x9 e36x9 => ?_)
                have q36x9 : u_46_5 = z36x9 := (e_46_5).trans e36x9.symm
                subst q36x9
                refine g_iload_n 13 (gd rfl) rfl rfl ?_
                refine g_cmp_ne 16 20 (gd rfl) rfl rfl (fun c36x13 => ?_) (fun c36x13 => ?_)
                · skip
                  refine g_iconst 0 21 (gd rfl) rfl rfl ?_
                  refine g_ireturn (gd rfl) rfl (nb01 (in_w 0 1 (in_c 0 rfl) rfl)) (hp36 _ _ ?_)
                  show GG _ _ _ _ _ _ _ _ [.int (Int32.ofInt 0)] _ _ _
                  refine g_if_ne 42 49 (gd rfl) rfl rfl (fun c39 => ?_) (fun c39 => ?_)
                  · skip
                    exact zn_ne c39 (in_c 0 rfl) rfl
                  · skip
                    refine g_aload_n 43 (gd rfl) rfl rfl ?_
                    refine g_iconst 2 44 (gd rfl) rfl rfl ?_
                    refine g_iconst 4 45 (gd rfl) rfl rfl ?_
                    refine g_callv (X := _) (As := [.int (Int32.ofInt 2), .int (Int32.ofInt 4)]) (r := []) (b := A 46) (q := 46) 48 (gd rfl) rfl rfl rfl rfl rfl (ww_o rfl) (Nat.le_of_ble_eq_true rfl) (Nat.zero_le _) (Nat.zero_le _) (k_169_46 (by omega) hI (in_w 2 2 (in_c 2 rfl) rfl) (in_w 4 4 (in_c 4 rfl) rfl)) (fun e u h => h) (fun v u h => ?_)
                    obtain ⟨s45, hI45, hF45, z45, rfl, rfl, i45⟩ := h
                    show GG _ _ _ _ _ _ _ _ [.int z45] _ _ _
                    have n48 : (z45).toInt ≠ 0 → PCV s s45 1 := by intro h; unfold In at i45; omega
                    have n48a : (u_46_2).toInt ≤ (u_46_1).toInt := by have a0 := (inv_F hI 0 120 rfl e_102_4); unfold In at a0; have a1 := i25x5; unfold In at a1; have a2 := (inv_F hI 0 1000 rfl e_46_4); unfold In at a2; have a3 := r_46_1; unfold In at a3; have a4 := (inv_F hI 0 1000 rfl e_46_2); unfold In at a4; have a5 := h2; unfold In at a5; have a6 := (in_c 0 rfl); unfold In at a6; omega
                    have n48b : (s45.2.2.1 46 2).toInt ≤ (s45.2.2.1 46 1).toInt := by have b0 : u_46_2 = s45.2.2.1 46 2 := fr_F (e_46_2) hF45 rfl; have b1 : u_46_1 = s45.2.2.1 46 1 := fr_F (e_46_1) hF45 rfl; rw [← b0, ← b1]; exact n48a
                    have n48c : (u_46_3).toInt = 0 ∨ (u_46_4).toInt + 1 ≤ (u_46_2).toInt := by have a0 := (inv_F hI 0 120 rfl e_102_4); unfold In at a0; have a1 := i25x5; unfold In at a1; have a2 := (inv_F hI 0 1000 rfl e_46_4); unfold In at a2; have a3 := r_46_1; unfold In at a3; have a4 := (inv_F hI 0 1000 rfl e_46_2); unfold In at a4; have a5 := h2; unfold In at a5; have a6 := (in_c 0 rfl); unfold In at a6; omega
                    have n48d : (s45.2.2.1 46 3).toInt = 0 ∨ (s45.2.2.1 46 4).toInt + 1 ≤ (s45.2.2.1 46 2).toInt := by have b0 : u_46_3 = s45.2.2.1 46 3 := fr_F (e_46_3) hF45 rfl; have b1 : u_46_4 = s45.2.2.1 46 4 := fr_F (e_46_4) hF45 rfl; have b2 : u_46_2 = s45.2.2.1 46 2 := fr_F (e_46_2) hF45 rfl; rw [← b0, ← b1, ← b2]; exact n48c
                    have n48e : (u_46_4).toInt ≤ (u_46_2).toInt := by have a0 := (inv_F hI 0 120 rfl e_102_4); unfold In at a0; have a1 := i25x5; unfold In at a1; have a2 := (inv_F hI 0 1000 rfl e_46_4); unfold In at a2; have a3 := r_46_1; unfold In at a3; have a4 := (inv_F hI 0 1000 rfl e_46_2); unfold In at a4; have a5 := h2; unfold In at a5; have a6 := (in_c 0 rfl); unfold In at a6; omega
                    have n48f : (s45.2.2.1 46 4).toInt ≤ (s45.2.2.1 46 2).toInt := by have b0 : u_46_4 = s45.2.2.1 46 4 := fr_F (e_46_4) hF45 rfl; have b1 : u_46_2 = s45.2.2.1 46 2 := fr_F (e_46_2) hF45 rfl; rw [← b0, ← b1]; exact n48e
                    have n48g : (u_102_4).toInt ≤ (u_46_4).toInt := by have a0 := (inv_F hI 0 120 rfl e_102_4); unfold In at a0; have a1 := i25x5; unfold In at a1; have a2 := (inv_F hI 0 1000 rfl e_46_4); unfold In at a2; have a3 := r_46_1; unfold In at a3; have a4 := (inv_F hI 0 1000 rfl e_46_2); unfold In at a4; have a5 := h2; unfold In at a5; have a6 := (in_c 0 rfl); unfold In at a6; omega
                    have n48h : (s45.2.2.1 102 4).toInt ≤ (s45.2.2.1 46 4).toInt := by have b0 : u_102_4 = s45.2.2.1 102 4 := fr_F (e_102_4) hF45 rfl; have b1 : u_46_4 = s45.2.2.1 46 4 := fr_F (e_46_4) hF45 rfl; rw [← b0, ← b1]; exact n48g
                    have n48i : (u_46_3).toInt = 2 → (u_46_5).toInt ≤ 999999 := by have a0 := (inv_F hI 0 120 rfl e_102_4); unfold In at a0; have a1 := i25x5; unfold In at a1; have a2 := (inv_F hI 0 1000 rfl e_46_4); unfold In at a2; have a3 := r_46_1; unfold In at a3; have a4 := (inv_F hI 0 1000 rfl e_46_2); unfold In at a4; have a5 := h2; unfold In at a5; have a6 := (in_c 0 rfl); unfold In at a6; omega
                    have n48j : (s45.2.2.1 46 3).toInt = 2 → (s45.2.2.1 46 5).toInt ≤ 999999 := by have b0 : u_46_3 = s45.2.2.1 46 3 := fr_F (e_46_3) hF45 rfl; have b1 : u_46_5 = s45.2.2.1 46 5 := fr_F (e_46_5) hF45 rfl; rw [← b0, ← b1]; exact n48i
                    have n48k : (u_46_4).toInt - (u_102_4).toInt ≤ (u_46_4).toInt - (u_102_4).toInt := by have a0 := (inv_F hI 0 120 rfl e_102_4); unfold In at a0; have a1 := i25x5; unfold In at a1; have a2 := (inv_F hI 0 1000 rfl e_46_4); unfold In at a2; have a3 := r_46_1; unfold In at a3; have a4 := (inv_F hI 0 1000 rfl e_46_2); unfold In at a4; have a5 := h2; unfold In at a5; have a6 := (in_c 0 rfl); unfold In at a6; omega
                    have n48l : (s.2.2.1 46 4).toInt - (s.2.2.1 102 4).toInt ≤ (s45.2.2.1 46 4).toInt - (s45.2.2.1 102 4).toInt := by have b0 : u_46_4 = s45.2.2.1 46 4 := fr_F (e_46_4) hF45 rfl; have b1 : u_102_4 = s45.2.2.1 102 4 := fr_F (e_102_4) hF45 rfl; rw [← b0, ← b1, ← e_46_4, ← e_102_4]; exact n48k
                    exact g_ireturn (gd rfl) rfl (nb01 (in_w 0 1 i45 rfl)) (hP _ _ ⟨s45, hI45, (fr_tr rfl fr_rf hF45), n48b, n48d, n48f, n48h, n48j, n48l, z45, rfl, rfl, in_w 0 1 i45 rfl, n48⟩)
                · skip
                  have i36x13 := r_eq1 40 40 c36x13 (inv_F hI (-2147483648) 2147483647 rfl e_46_5) (in_c 40 rfl) rfl
                  refine g_iconst 1 17 (gd rfl) rfl rfl ?_
                  refine g_goto 21 (gd rfl) rfl ?_
                  refine g_ireturn (gd rfl) rfl (nb01 (in_w 0 1 (in_c 1 rfl) rfl)) (hp36 _ _ ?_)
                  show GG _ _ _ _ _ _ _ _ [.int (Int32.ofInt 1)] _ _ _
                  refine g_if_ne 42 49 (gd rfl) rfl rfl (fun c39 => ?_) (fun c39 => ?_)
                  · skip
                    refine g_iload_n 50 (gd rfl) rfl rfl ?_
                    refine g_bipush 10 52 (gd rfl) rfl rfl ?_
                    refine g_cmp_lt 55 65 (gd rfl) rfl rfl (fun c52 => ?_) (fun c52 => ?_)
                    · skip
                      have i52 := r_lt1 0 9 c52 h2 (in_c 10 rfl) rfl
                      refine g_aload_n 66 (gd rfl) rfl rfl ?_
                      refine g_bipush 6 68 (gd rfl) rfl rfl ?_
                      refine g_iconst 0 69 (gd rfl) rfl rfl ?_
                      have n69 : (u_46_2).toInt ≤ (u_46_1).toInt := by have a0 := (inv_F hI 0 120 rfl e_102_4); unfold In at a0; have a1 := i36x13; unfold In at a1; have a2 := i25x5; unfold In at a2; have a3 := (inv_F hI 0 1000 rfl e_46_4); unfold In at a3; have a4 := r_46_1; unfold In at a4; have a5 := (inv_F hI 0 1000 rfl e_46_2); unfold In at a5; have a6 := i52; unfold In at a6; have a7 := (in_c 0 rfl); unfold In at a7; omega
                      refine g_callv (X := _) (As := [.int (Int32.ofInt 6), .int (Int32.ofInt 0)]) (r := []) (b := A 46) (q := 46) 72 (gd rfl) rfl rfl rfl rfl rfl (ww_o rfl) (Nat.le_of_ble_eq_true rfl) (Nat.zero_le _) (Nat.zero_le _) (k_171_46 (by omega) hI (in_w 6 7 (in_c 6 rfl) rfl) (in_w 0 1 (in_c 0 rfl) rfl) e_46_2 e_46_1 n69) (fun e u h => h) (fun v u h => ?_)
                      obtain ⟨s69, hI69, hF69, n69a, n69b, n69c, n69d, rfl, rfl, p69⟩ := h
                      obtain ⟨z69a, e69⟩ : ∃ w, w = s69.2.2.1 46 2 := ⟨_, rfl⟩
                      have i69a := inv_F hI69 0 1000 rfl e69
                      obtain ⟨z69b, e69a⟩ : ∃ w, w = s69.2.2.1 46 3 := ⟨_, rfl⟩
                      have i69b := inv_F hI69 0 5 rfl e69a
                      obtain ⟨z69c, e69b⟩ : ∃ w, w = s69.2.2.1 46 4 := ⟨_, rfl⟩
                      have i69c := inv_F hI69 0 1000 rfl e69b
                      rw [← (show z69a = s69.2.2.1 46 2 from e69)] at n69a
                      rw [← (show u_46_1 = s69.2.2.1 46 1 from fr_F (e_46_1) hF69 rfl)] at n69a
                      rw [← (show z69a = s69.2.2.1 46 2 from e69)] at n69b
                      rw [← (show z69b = s69.2.2.1 46 3 from e69a)] at n69b
                      rw [← (show z69c = s69.2.2.1 46 4 from e69b)] at n69b
                      rw [← (show z69a = s69.2.2.1 46 2 from e69)] at n69c
                      rw [← (show z69c = s69.2.2.1 46 4 from e69b)] at n69c
                      rw [← (show u_46_2 = s.2.2.1 46 2 from e_46_2)] at n69d
                      rw [← (show z69c = s69.2.2.1 46 4 from e69b)] at n69d
                      show GG _ _ _ _ _ _ _ _ [] _ _ _
                      have hv69 := p69 (by decide); rw [← (show z69b = s69.2.2.1 46 3 from e69a)] at hv69
                      refine g_iload_n 73 (gd rfl) rfl rfl ?_
                      refine g_if_eq 76 102 (gd rfl) rfl rfl (fun c73 => ?_) (fun c73 => ?_)
                      · skip
                        refine g_aload_n 103 (gd rfl) rfl rfl ?_
                        refine g_aload_n 104 (gd rfl) rfl rfl ?_
                        refine g_iload_n 105 (gd rfl) rfl rfl ?_
                        refine g_iconst 1 106 (gd rfl) rfl rfl ?_
                        refine g_iadd 107 (gd rfl) rfl (fun z106 e106 => ?_)
                        have i106 := in_add 1 10 e106 i52 (in_c 1 rfl) rfl rfl
                        have v107 : u_46_1 = s69.2.2.1 46 1 := fr_F (e_46_1) hF69 rfl
                        have v107a : u_102_4 = s69.2.2.1 102 4 := fr_F (e_102_4) hF69 rfl
                        have n107 : (z69a).toInt ≤ (u_46_1).toInt := by have a0 := (inv_F hI 0 120 rfl e_102_4); unfold In at a0; have a1 := i36x13; unfold In at a1; have a2 := i25x5; unfold In at a2; have a3 := (inv_F hI 0 1000 rfl e_46_4); unfold In at a3; have a4 := r_46_1; unfold In at a4; have a5 := (inv_F hI 0 1000 rfl e_46_2); unfold In at a5; have a6 := i52; unfold In at a6; have a7 := (in_c 0 rfl); unfold In at a7; have a8 := i69c; unfold In at a8; have a9 := i69b; unfold In at a9; have a10 := i69a; unfold In at a10; have a11 := i106; unfold In at a11; have a12 := t_add e106 i52 (in_c 1 rfl) rfl; have a13 := (in_c 1 rfl); unfold In at a13; omega
                        have n107a : (z69b).toInt = 0 ∨ (z69c).toInt + 1 ≤ (z69a).toInt := by have a0 := (inv_F hI 0 120 rfl e_102_4); unfold In at a0; have a1 := i36x13; unfold In at a1; have a2 := i25x5; unfold In at a2; have a3 := (inv_F hI 0 1000 rfl e_46_4); unfold In at a3; have a4 := r_46_1; unfold In at a4; have a5 := (inv_F hI 0 1000 rfl e_46_2); unfold In at a5; have a6 := i52; unfold In at a6; have a7 := (in_c 0 rfl); unfold In at a7; have a8 := i69c; unfold In at a8; have a9 := i69b; unfold In at a9; have a10 := i69a; unfold In at a10; have a11 := i106; unfold In at a11; have a12 := t_add e106 i52 (in_c 1 rfl) rfl; have a13 := (in_c 1 rfl); unfold In at a13; omega
                        have n107b : (z69c).toInt ≤ (z69a).toInt := by have a0 := (inv_F hI 0 120 rfl e_102_4); unfold In at a0; have a1 := i36x13; unfold In at a1; have a2 := i25x5; unfold In at a2; have a3 := (inv_F hI 0 1000 rfl e_46_4); unfold In at a3; have a4 := r_46_1; unfold In at a4; have a5 := (inv_F hI 0 1000 rfl e_46_2); unfold In at a5; have a6 := i52; unfold In at a6; have a7 := (in_c 0 rfl); unfold In at a7; have a8 := i69c; unfold In at a8; have a9 := i69b; unfold In at a9; have a10 := i69a; unfold In at a10; have a11 := i106; unfold In at a11; have a12 := t_add e106 i52 (in_c 1 rfl) rfl; have a13 := (in_c 1 rfl); unfold In at a13; omega
                        have n107c : (u_102_4).toInt ≤ (z69c).toInt := by have a0 := (inv_F hI 0 120 rfl e_102_4); unfold In at a0; have a1 := i36x13; unfold In at a1; have a2 := i25x5; unfold In at a2; have a3 := (inv_F hI 0 1000 rfl e_46_4); unfold In at a3; have a4 := r_46_1; unfold In at a4; have a5 := (inv_F hI 0 1000 rfl e_46_2); unfold In at a5; have a6 := i52; unfold In at a6; have a7 := (in_c 0 rfl); unfold In at a7; have a8 := i69c; unfold In at a8; have a9 := i69b; unfold In at a9; have a10 := i69a; unfold In at a10; have a11 := i106; unfold In at a11; have a12 := t_add e106 i52 (in_c 1 rfl) rfl; have a13 := (in_c 1 rfl); unfold In at a13; omega
                        have n107d : (z69b).toInt = 2 → ((s69.2.2.1 46 5)).toInt ≤ 999999 := by have a0 := (inv_F hI 0 120 rfl e_102_4); unfold In at a0; have a1 := i36x13; unfold In at a1; have a2 := i25x5; unfold In at a2; have a3 := (inv_F hI 0 1000 rfl e_46_4); unfold In at a3; have a4 := r_46_1; unfold In at a4; have a5 := (inv_F hI 0 1000 rfl e_46_2); unfold In at a5; have a6 := i52; unfold In at a6; have a7 := (in_c 0 rfl); unfold In at a7; have a8 := i69c; unfold In at a8; have a9 := i69b; unfold In at a9; have a10 := i69a; unfold In at a10; have a11 := i106; unfold In at a11; have a12 := t_add e106 i52 (in_c 1 rfl) rfl; have a13 := (in_c 1 rfl); unfold In at a13; omega
                        have n107e : 10 - (z106).toInt < ((kk : Nat) : Int) := by have a0 := (inv_F hI 0 120 rfl e_102_4); unfold In at a0; have a1 := i36x13; unfold In at a1; have a2 := i25x5; unfold In at a2; have a3 := (inv_F hI 0 1000 rfl e_46_4); unfold In at a3; have a4 := r_46_1; unfold In at a4; have a5 := (inv_F hI 0 1000 rfl e_46_2); unfold In at a5; have a6 := i52; unfold In at a6; have a7 := (in_c 0 rfl); unfold In at a7; have a8 := i69c; unfold In at a8; have a9 := i69b; unfold In at a9; have a10 := i69a; unfold In at a10; have a11 := i106; unfold In at a11; have a12 := t_add e106 i52 (in_c 1 rfl) rfl; have a13 := (in_c 1 rfl); unfold In at a13; omega
                        refine g_callv (X := _) (As := [.ref (A 46), .int z106]) (r := []) (b := A 102) (q := 102) 110 (gd rfl) rfl rfl rfl rfl rfl (ww_o rfl) (Nat.le_of_ble_eq_true rfl) (Nat.zero_le _) (Nat.zero_le _) (ihl (by omega) hI69 (in_w 0 10 i106 rfl) e69 v107 e69b e69a rfl v107a (in_w 0 120 r_46_1 rfl) n107 n107a n107b n107c n107d n107e) (fun e u h => h) (fun v u h => ?_)
                        obtain ⟨s107, hI107, hF107, n107f, n107g, n107h, n107i, n107j, n107k, z107, rfl, rfl, i107, p107⟩ := h
                        obtain ⟨z107a, e107⟩ : ∃ w, w = s107.2.2.1 46 2 := ⟨_, rfl⟩
                        have i107a := inv_F hI107 0 1000 rfl e107
                        obtain ⟨z107b, e107a⟩ : ∃ w, w = s107.2.2.1 46 3 := ⟨_, rfl⟩
                        have i107b := inv_F hI107 0 5 rfl e107a
                        obtain ⟨z107c, e107b⟩ : ∃ w, w = s107.2.2.1 46 4 := ⟨_, rfl⟩
                        have i107c := inv_F hI107 0 1000 rfl e107b
                        obtain ⟨z107d, e107c⟩ : ∃ w, w = s107.2.2.1 102 4 := ⟨_, rfl⟩
                        have i107d := inv_F hI107 0 120 rfl e107c
                        obtain ⟨z107e, e107d⟩ : ∃ w, w = s107.2.2.1 46 5 := ⟨_, rfl⟩
                        rw [← (show z107a = s107.2.2.1 46 2 from e107)] at n107f
                        rw [← (show u_46_1 = s107.2.2.1 46 1 from fr_F (fr_F (e_46_1) hF69 rfl) hF107 rfl)] at n107f
                        rw [← (show z107a = s107.2.2.1 46 2 from e107)] at n107g
                        rw [← (show z107b = s107.2.2.1 46 3 from e107a)] at n107g
                        rw [← (show z107c = s107.2.2.1 46 4 from e107b)] at n107g
                        rw [← (show z107a = s107.2.2.1 46 2 from e107)] at n107h
                        rw [← (show z107c = s107.2.2.1 46 4 from e107b)] at n107h
                        rw [← (show z107c = s107.2.2.1 46 4 from e107b)] at n107i
                        rw [← (show z107d = s107.2.2.1 102 4 from e107c)] at n107i
                        rw [← (show z107b = s107.2.2.1 46 3 from e107a)] at n107j
                        rw [← (show z107e = s107.2.2.1 46 5 from e107d)] at n107j
                        rw [← (show z69c = s69.2.2.1 46 4 from e69b)] at n107k
                        rw [← (show u_102_4 = s69.2.2.1 102 4 from fr_F (e_102_4) hF69 rfl)] at n107k
                        rw [← (show z107c = s107.2.2.1 46 4 from e107b)] at n107k
                        rw [← (show z107d = s107.2.2.1 102 4 from e107c)] at n107k
                        show GG _ _ _ _ _ _ _ _ [.int z107] _ _ _
                        refine g_if_ne 113 115 (gd rfl) rfl rfl (fun c110 => ?_) (fun c110 => ?_)
                        · skip
                          have i110 := z_ne 1 1 c110 i107 rfl
                          refine g_aload_n 116 (gd rfl) rfl rfl ?_
                          refine g_bipush 41 118 (gd rfl) rfl rfl ?_
                          refine g_callv (X := _) (As := [.int (Int32.ofInt 41)]) (r := []) (b := A 46) (q := 46) 121 (gd rfl) rfl rfl rfl rfl rfl (ww_o rfl) (Nat.le_of_ble_eq_true rfl) (mc := 0) (ms := 0) (Nat.zero_le _) (Nat.zero_le _) (P := fun v u => _) ?_ (fun e u h => h) (fun v u h => h)
                          intro po118 xx118 hp118 hx118
                          refine g_enter2 (k := 170) (N := 300) (by omega) rfl (Nat.le_of_ble_eq_true rfl) ?_
                          refine g_aload_n 1 (gd rfl) rfl rfl ?_
                          refine g_getI 4 (gd rfl) rfl rfl rfl (fun z118x1 e118x1 => ?_)
                          have q118x1 : z107b = z118x1 := (e107a).trans e118x1.symm
                          subst q118x1
                          refine g_iconst 3 5 (gd rfl) rfl rfl ?_
                          refine g_cmp_ne 8 20 (gd rfl) rfl rfl (fun c118x5 => ?_) (fun c118x5 => ?_)
                          · skip
                            refine g_iconst 0 21 (gd rfl) rfl rfl ?_
                            refine g_ireturn (gd rfl) rfl (nb01 (in_w 0 1 (in_c 0 rfl) rfl)) (hp118 _ _ ?_)
                            show GG _ _ _ _ _ _ _ _ [.int (Int32.ofInt 0)] _ _ _
                            refine g_if_ne 124 131 (gd rfl) rfl rfl (fun c121 => ?_) (fun c121 => ?_)
                            · skip
                              exact zn_ne c121 (in_c 0 rfl) rfl
                            · skip
                              refine g_aload_n 125 (gd rfl) rfl rfl ?_
                              refine g_iconst 2 126 (gd rfl) rfl rfl ?_
                              refine g_iconst 4 127 (gd rfl) rfl rfl ?_
                              refine g_callv (X := _) (As := [.int (Int32.ofInt 2), .int (Int32.ofInt 4)]) (r := []) (b := A 46) (q := 46) 130 (gd rfl) rfl rfl rfl rfl rfl (ww_o rfl) (Nat.le_of_ble_eq_true rfl) (Nat.zero_le _) (Nat.zero_le _) (k_169_46 (by omega) hI107 (in_w 2 2 (in_c 2 rfl) rfl) (in_w 4 4 (in_c 4 rfl) rfl)) (fun e u h => h) (fun v u h => ?_)
                              obtain ⟨s127, hI127, hF127, z127, rfl, rfl, i127⟩ := h
                              show GG _ _ _ _ _ _ _ _ [.int z127] _ _ _
                              have n130 : (z127).toInt ≠ 0 → PCV s s127 1 := by intro h; unfold In at i127; omega
                              have n130a : (z107a).toInt ≤ (u_46_1).toInt := by have a0 := (inv_F hI 0 120 rfl e_102_4); unfold In at a0; have a1 := i36x13; unfold In at a1; have a2 := i25x5; unfold In at a2; have a3 := (inv_F hI 0 1000 rfl e_46_4); unfold In at a3; have a4 := r_46_1; unfold In at a4; have a5 := (inv_F hI 0 1000 rfl e_46_2); unfold In at a5; have a6 := i52; unfold In at a6; have a7 := (in_c 0 rfl); unfold In at a7; have a8 := i107d; unfold In at a8; have a9 := i107c; unfold In at a9; have a10 := i107b; unfold In at a10; have a11 := i107a; unfold In at a11; have a12 := i106; unfold In at a12; have a13 := t_add e106 i52 (in_c 1 rfl) rfl; have a14 := (in_c 1 rfl); unfold In at a14; omega
                              have n130b : (s127.2.2.1 46 2).toInt ≤ (s127.2.2.1 46 1).toInt := by have b0 : z107a = s127.2.2.1 46 2 := fr_F (e107) hF127 rfl; have b1 : u_46_1 = s127.2.2.1 46 1 := fr_F (fr_F (fr_F (e_46_1) hF69 rfl) hF107 rfl) hF127 rfl; rw [← b0, ← b1]; exact n130a
                              have n130c : (z107b).toInt = 0 ∨ (z107c).toInt + 1 ≤ (z107a).toInt := by have a0 := (inv_F hI 0 120 rfl e_102_4); unfold In at a0; have a1 := i36x13; unfold In at a1; have a2 := i25x5; unfold In at a2; have a3 := (inv_F hI 0 1000 rfl e_46_4); unfold In at a3; have a4 := r_46_1; unfold In at a4; have a5 := (inv_F hI 0 1000 rfl e_46_2); unfold In at a5; have a6 := i52; unfold In at a6; have a7 := (in_c 0 rfl); unfold In at a7; have a8 := i107d; unfold In at a8; have a9 := i107c; unfold In at a9; have a10 := i107b; unfold In at a10; have a11 := i107a; unfold In at a11; have a12 := i106; unfold In at a12; have a13 := t_add e106 i52 (in_c 1 rfl) rfl; have a14 := (in_c 1 rfl); unfold In at a14; omega
                              have n130d : (s127.2.2.1 46 3).toInt = 0 ∨ (s127.2.2.1 46 4).toInt + 1 ≤ (s127.2.2.1 46 2).toInt := by have b0 : z107b = s127.2.2.1 46 3 := fr_F (e107a) hF127 rfl; have b1 : z107c = s127.2.2.1 46 4 := fr_F (e107b) hF127 rfl; have b2 : z107a = s127.2.2.1 46 2 := fr_F (e107) hF127 rfl; rw [← b0, ← b1, ← b2]; exact n130c
                              have n130e : (z107c).toInt ≤ (z107a).toInt := by have a0 := (inv_F hI 0 120 rfl e_102_4); unfold In at a0; have a1 := i36x13; unfold In at a1; have a2 := i25x5; unfold In at a2; have a3 := (inv_F hI 0 1000 rfl e_46_4); unfold In at a3; have a4 := r_46_1; unfold In at a4; have a5 := (inv_F hI 0 1000 rfl e_46_2); unfold In at a5; have a6 := i52; unfold In at a6; have a7 := (in_c 0 rfl); unfold In at a7; have a8 := i107d; unfold In at a8; have a9 := i107c; unfold In at a9; have a10 := i107b; unfold In at a10; have a11 := i107a; unfold In at a11; have a12 := i106; unfold In at a12; have a13 := t_add e106 i52 (in_c 1 rfl) rfl; have a14 := (in_c 1 rfl); unfold In at a14; omega
                              have n130f : (s127.2.2.1 46 4).toInt ≤ (s127.2.2.1 46 2).toInt := by have b0 : z107c = s127.2.2.1 46 4 := fr_F (e107b) hF127 rfl; have b1 : z107a = s127.2.2.1 46 2 := fr_F (e107) hF127 rfl; rw [← b0, ← b1]; exact n130e
                              have n130g : (z107d).toInt ≤ (z107c).toInt := by have a0 := (inv_F hI 0 120 rfl e_102_4); unfold In at a0; have a1 := i36x13; unfold In at a1; have a2 := i25x5; unfold In at a2; have a3 := (inv_F hI 0 1000 rfl e_46_4); unfold In at a3; have a4 := r_46_1; unfold In at a4; have a5 := (inv_F hI 0 1000 rfl e_46_2); unfold In at a5; have a6 := i52; unfold In at a6; have a7 := (in_c 0 rfl); unfold In at a7; have a8 := i107d; unfold In at a8; have a9 := i107c; unfold In at a9; have a10 := i107b; unfold In at a10; have a11 := i107a; unfold In at a11; have a12 := i106; unfold In at a12; have a13 := t_add e106 i52 (in_c 1 rfl) rfl; have a14 := (in_c 1 rfl); unfold In at a14; omega
                              have n130h : (s127.2.2.1 102 4).toInt ≤ (s127.2.2.1 46 4).toInt := by have b0 : z107d = s127.2.2.1 102 4 := fr_F (e107c) hF127 rfl; have b1 : z107c = s127.2.2.1 46 4 := fr_F (e107b) hF127 rfl; rw [← b0, ← b1]; exact n130g
                              have n130i : (z107b).toInt = 2 → (z107e).toInt ≤ 999999 := by have a0 := (inv_F hI 0 120 rfl e_102_4); unfold In at a0; have a1 := i36x13; unfold In at a1; have a2 := i25x5; unfold In at a2; have a3 := (inv_F hI 0 1000 rfl e_46_4); unfold In at a3; have a4 := r_46_1; unfold In at a4; have a5 := (inv_F hI 0 1000 rfl e_46_2); unfold In at a5; have a6 := i52; unfold In at a6; have a7 := (in_c 0 rfl); unfold In at a7; have a8 := i107d; unfold In at a8; have a9 := i107c; unfold In at a9; have a10 := i107b; unfold In at a10; have a11 := i107a; unfold In at a11; have a12 := i106; unfold In at a12; have a13 := t_add e106 i52 (in_c 1 rfl) rfl; have a14 := (in_c 1 rfl); unfold In at a14; omega
                              have n130j : (s127.2.2.1 46 3).toInt = 2 → (s127.2.2.1 46 5).toInt ≤ 999999 := by have b0 : z107b = s127.2.2.1 46 3 := fr_F (e107a) hF127 rfl; have b1 : z107e = s127.2.2.1 46 5 := fr_F (e107d) hF127 rfl; rw [← b0, ← b1]; exact n130i
                              have n130k : (u_46_4).toInt - (u_102_4).toInt ≤ (z107c).toInt - (z107d).toInt := by have a0 := (inv_F hI 0 120 rfl e_102_4); unfold In at a0; have a1 := i36x13; unfold In at a1; have a2 := i25x5; unfold In at a2; have a3 := (inv_F hI 0 1000 rfl e_46_4); unfold In at a3; have a4 := r_46_1; unfold In at a4; have a5 := (inv_F hI 0 1000 rfl e_46_2); unfold In at a5; have a6 := i52; unfold In at a6; have a7 := (in_c 0 rfl); unfold In at a7; have a8 := i107d; unfold In at a8; have a9 := i107c; unfold In at a9; have a10 := i107b; unfold In at a10; have a11 := i107a; unfold In at a11; have a12 := i106; unfold In at a12; have a13 := t_add e106 i52 (in_c 1 rfl) rfl; have a14 := (in_c 1 rfl); unfold In at a14; omega
                              have n130l : (s.2.2.1 46 4).toInt - (s.2.2.1 102 4).toInt ≤ (s127.2.2.1 46 4).toInt - (s127.2.2.1 102 4).toInt := by have b0 : z107c = s127.2.2.1 46 4 := fr_F (e107b) hF127 rfl; have b1 : z107d = s127.2.2.1 102 4 := fr_F (e107c) hF127 rfl; rw [← b0, ← b1, ← e_46_4, ← e_102_4]; exact n130k
                              exact g_ireturn (gd rfl) rfl (nb01 (in_w 0 1 i127 rfl)) (hP _ _ ⟨s127, hI127, (fr_tr rfl (fr_tr rfl (fr_tr rfl fr_rf hF69) hF107) hF127), n130b, n130d, n130f, n130h, n130j, n130l, z127, rfl, rfl, in_w 0 1 i127 rfl, n130⟩)
                          · skip
                            have i118x5 := r_eq1 3 3 c118x5 i107b (in_c 3 rfl) rfl
                            refine g_aload_n 9 (gd rfl) rfl rfl ?_
                            refine g_getI 12 (gd rfl) rfl rfl rfl (fun z118x9 e118x9 => ?_)
                            have q118x9 : z107e = z118x9 := (e107d).trans e118x9.symm
                            subst q118x9
                            refine g_iload_n 13 (gd rfl) rfl rfl ?_
                            refine g_cmp_ne 16 20 (gd rfl) rfl rfl (fun c118x13 => ?_) (fun c118x13 => ?_)
                            · skip
                              refine g_iconst 0 21 (gd rfl) rfl rfl ?_
                              refine g_ireturn (gd rfl) rfl (nb01 (in_w 0 1 (in_c 0 rfl) rfl)) (hp118 _ _ ?_)
                              show GG _ _ _ _ _ _ _ _ [.int (Int32.ofInt 0)] _ _ _
                              refine g_if_ne 124 131 (gd rfl) rfl rfl (fun c121 => ?_) (fun c121 => ?_)
                              · skip
                                exact zn_ne c121 (in_c 0 rfl) rfl
                              · skip
                                refine g_aload_n 125 (gd rfl) rfl rfl ?_
                                refine g_iconst 2 126 (gd rfl) rfl rfl ?_
                                refine g_iconst 4 127 (gd rfl) rfl rfl ?_
                                refine g_callv (X := _) (As := [.int (Int32.ofInt 2), .int (Int32.ofInt 4)]) (r := []) (b := A 46) (q := 46) 130 (gd rfl) rfl rfl rfl rfl rfl (ww_o rfl) (Nat.le_of_ble_eq_true rfl) (Nat.zero_le _) (Nat.zero_le _) (k_169_46 (by omega) hI107 (in_w 2 2 (in_c 2 rfl) rfl) (in_w 4 4 (in_c 4 rfl) rfl)) (fun e u h => h) (fun v u h => ?_)
                                obtain ⟨s127, hI127, hF127, z127, rfl, rfl, i127⟩ := h
                                show GG _ _ _ _ _ _ _ _ [.int z127] _ _ _
                                have n130 : (z127).toInt ≠ 0 → PCV s s127 1 := by intro h; unfold In at i127; omega
                                have n130a : (z107a).toInt ≤ (u_46_1).toInt := by have a0 := (inv_F hI 0 120 rfl e_102_4); unfold In at a0; have a1 := i36x13; unfold In at a1; have a2 := i25x5; unfold In at a2; have a3 := (inv_F hI 0 1000 rfl e_46_4); unfold In at a3; have a4 := r_46_1; unfold In at a4; have a5 := (inv_F hI 0 1000 rfl e_46_2); unfold In at a5; have a6 := i52; unfold In at a6; have a7 := (in_c 0 rfl); unfold In at a7; have a8 := i107d; unfold In at a8; have a9 := i107c; unfold In at a9; have a10 := i118x5; unfold In at a10; have a11 := i107a; unfold In at a11; have a12 := i106; unfold In at a12; have a13 := t_add e106 i52 (in_c 1 rfl) rfl; have a14 := (in_c 1 rfl); unfold In at a14; omega
                                have n130b : (s127.2.2.1 46 2).toInt ≤ (s127.2.2.1 46 1).toInt := by have b0 : z107a = s127.2.2.1 46 2 := fr_F (e107) hF127 rfl; have b1 : u_46_1 = s127.2.2.1 46 1 := fr_F (fr_F (fr_F (e_46_1) hF69 rfl) hF107 rfl) hF127 rfl; rw [← b0, ← b1]; exact n130a
                                have n130c : (z107b).toInt = 0 ∨ (z107c).toInt + 1 ≤ (z107a).toInt := by have a0 := (inv_F hI 0 120 rfl e_102_4); unfold In at a0; have a1 := i36x13; unfold In at a1; have a2 := i25x5; unfold In at a2; have a3 := (inv_F hI 0 1000 rfl e_46_4); unfold In at a3; have a4 := r_46_1; unfold In at a4; have a5 := (inv_F hI 0 1000 rfl e_46_2); unfold In at a5; have a6 := i52; unfold In at a6; have a7 := (in_c 0 rfl); unfold In at a7; have a8 := i107d; unfold In at a8; have a9 := i107c; unfold In at a9; have a10 := i118x5; unfold In at a10; have a11 := i107a; unfold In at a11; have a12 := i106; unfold In at a12; have a13 := t_add e106 i52 (in_c 1 rfl) rfl; have a14 := (in_c 1 rfl); unfold In at a14; omega
                                have n130d : (s127.2.2.1 46 3).toInt = 0 ∨ (s127.2.2.1 46 4).toInt + 1 ≤ (s127.2.2.1 46 2).toInt := by have b0 : z107b = s127.2.2.1 46 3 := fr_F (e107a) hF127 rfl; have b1 : z107c = s127.2.2.1 46 4 := fr_F (e107b) hF127 rfl; have b2 : z107a = s127.2.2.1 46 2 := fr_F (e107) hF127 rfl; rw [← b0, ← b1, ← b2]; exact n130c
                                have n130e : (z107c).toInt ≤ (z107a).toInt := by have a0 := (inv_F hI 0 120 rfl e_102_4); unfold In at a0; have a1 := i36x13; unfold In at a1; have a2 := i25x5; unfold In at a2; have a3 := (inv_F hI 0 1000 rfl e_46_4); unfold In at a3; have a4 := r_46_1; unfold In at a4; have a5 := (inv_F hI 0 1000 rfl e_46_2); unfold In at a5; have a6 := i52; unfold In at a6; have a7 := (in_c 0 rfl); unfold In at a7; have a8 := i107d; unfold In at a8; have a9 := i107c; unfold In at a9; have a10 := i118x5; unfold In at a10; have a11 := i107a; unfold In at a11; have a12 := i106; unfold In at a12; have a13 := t_add e106 i52 (in_c 1 rfl) rfl; have a14 := (in_c 1 rfl); unfold In at a14; omega
                                have n130f : (s127.2.2.1 46 4).toInt ≤ (s127.2.2.1 46 2).toInt := by have b0 : z107c = s127.2.2.1 46 4 := fr_F (e107b) hF127 rfl; have b1 : z107a = s127.2.2.1 46 2 := fr_F (e107) hF127 rfl; rw [← b0, ← b1]; exact n130e
                                have n130g : (z107d).toInt ≤ (z107c).toInt := by have a0 := (inv_F hI 0 120 rfl e_102_4); unfold In at a0; have a1 := i36x13; unfold In at a1; have a2 := i25x5; unfold In at a2; have a3 := (inv_F hI 0 1000 rfl e_46_4); unfold In at a3; have a4 := r_46_1; unfold In at a4; have a5 := (inv_F hI 0 1000 rfl e_46_2); unfold In at a5; have a6 := i52; unfold In at a6; have a7 := (in_c 0 rfl); unfold In at a7; have a8 := i107d; unfold In at a8; have a9 := i107c; unfold In at a9; have a10 := i118x5; unfold In at a10; have a11 := i107a; unfold In at a11; have a12 := i106; unfold In at a12; have a13 := t_add e106 i52 (in_c 1 rfl) rfl; have a14 := (in_c 1 rfl); unfold In at a14; omega
                                have n130h : (s127.2.2.1 102 4).toInt ≤ (s127.2.2.1 46 4).toInt := by have b0 : z107d = s127.2.2.1 102 4 := fr_F (e107c) hF127 rfl; have b1 : z107c = s127.2.2.1 46 4 := fr_F (e107b) hF127 rfl; rw [← b0, ← b1]; exact n130g
                                have n130i : (z107b).toInt = 2 → (z107e).toInt ≤ 999999 := by have a0 := (inv_F hI 0 120 rfl e_102_4); unfold In at a0; have a1 := i36x13; unfold In at a1; have a2 := i25x5; unfold In at a2; have a3 := (inv_F hI 0 1000 rfl e_46_4); unfold In at a3; have a4 := r_46_1; unfold In at a4; have a5 := (inv_F hI 0 1000 rfl e_46_2); unfold In at a5; have a6 := i52; unfold In at a6; have a7 := (in_c 0 rfl); unfold In at a7; have a8 := i107d; unfold In at a8; have a9 := i107c; unfold In at a9; have a10 := i118x5; unfold In at a10; have a11 := i107a; unfold In at a11; have a12 := i106; unfold In at a12; have a13 := t_add e106 i52 (in_c 1 rfl) rfl; have a14 := (in_c 1 rfl); unfold In at a14; omega
                                have n130j : (s127.2.2.1 46 3).toInt = 2 → (s127.2.2.1 46 5).toInt ≤ 999999 := by have b0 : z107b = s127.2.2.1 46 3 := fr_F (e107a) hF127 rfl; have b1 : z107e = s127.2.2.1 46 5 := fr_F (e107d) hF127 rfl; rw [← b0, ← b1]; exact n130i
                                have n130k : (u_46_4).toInt - (u_102_4).toInt ≤ (z107c).toInt - (z107d).toInt := by have a0 := (inv_F hI 0 120 rfl e_102_4); unfold In at a0; have a1 := i36x13; unfold In at a1; have a2 := i25x5; unfold In at a2; have a3 := (inv_F hI 0 1000 rfl e_46_4); unfold In at a3; have a4 := r_46_1; unfold In at a4; have a5 := (inv_F hI 0 1000 rfl e_46_2); unfold In at a5; have a6 := i52; unfold In at a6; have a7 := (in_c 0 rfl); unfold In at a7; have a8 := i107d; unfold In at a8; have a9 := i107c; unfold In at a9; have a10 := i118x5; unfold In at a10; have a11 := i107a; unfold In at a11; have a12 := i106; unfold In at a12; have a13 := t_add e106 i52 (in_c 1 rfl) rfl; have a14 := (in_c 1 rfl); unfold In at a14; omega
                                have n130l : (s.2.2.1 46 4).toInt - (s.2.2.1 102 4).toInt ≤ (s127.2.2.1 46 4).toInt - (s127.2.2.1 102 4).toInt := by have b0 : z107c = s127.2.2.1 46 4 := fr_F (e107b) hF127 rfl; have b1 : z107d = s127.2.2.1 102 4 := fr_F (e107c) hF127 rfl; rw [← b0, ← b1, ← e_46_4, ← e_102_4]; exact n130k
                                exact g_ireturn (gd rfl) rfl (nb01 (in_w 0 1 i127 rfl)) (hP _ _ ⟨s127, hI127, (fr_tr rfl (fr_tr rfl (fr_tr rfl fr_rf hF69) hF107) hF127), n130b, n130d, n130f, n130h, n130j, n130l, z127, rfl, rfl, in_w 0 1 i127 rfl, n130⟩)
                            · skip
                              have i118x13 := r_eq1 41 41 c118x13 (i_rng z107e) (in_c 41 rfl) rfl
                              refine g_iconst 1 17 (gd rfl) rfl rfl ?_
                              refine g_goto 21 (gd rfl) rfl ?_
                              refine g_ireturn (gd rfl) rfl (nb01 (in_w 0 1 (in_c 1 rfl) rfl)) (hp118 _ _ ?_)
                              show GG _ _ _ _ _ _ _ _ [.int (Int32.ofInt 1)] _ _ _
                              refine g_if_ne 124 131 (gd rfl) rfl rfl (fun c121 => ?_) (fun c121 => ?_)
                              · skip
                                refine g_aload_n 132 (gd rfl) rfl rfl ?_
                                refine g_bipush 6 134 (gd rfl) rfl rfl ?_
                                refine g_iconst 0 135 (gd rfl) rfl rfl ?_
                                have v135 : u_46_1 = s107.2.2.1 46 1 := fr_F (fr_F (e_46_1) hF69 rfl) hF107 rfl
                                have n135 : (z107a).toInt ≤ (u_46_1).toInt := by have a0 := (inv_F hI 0 120 rfl e_102_4); unfold In at a0; have a1 := i36x13; unfold In at a1; have a2 := i25x5; unfold In at a2; have a3 := (inv_F hI 0 1000 rfl e_46_4); unfold In at a3; have a4 := r_46_1; unfold In at a4; have a5 := (inv_F hI 0 1000 rfl e_46_2); unfold In at a5; have a6 := i52; unfold In at a6; have a7 := (in_c 0 rfl); unfold In at a7; have a8 := i118x13; unfold In at a8; have a9 := i107d; unfold In at a9; have a10 := i107c; unfold In at a10; have a11 := i118x5; unfold In at a11; have a12 := i107a; unfold In at a12; have a13 := i106; unfold In at a13; have a14 := t_add e106 i52 (in_c 1 rfl) rfl; have a15 := (in_c 1 rfl); unfold In at a15; omega
                                refine g_callv (X := _) (As := [.int (Int32.ofInt 6), .int (Int32.ofInt 0)]) (r := []) (b := A 46) (q := 46) 138 (gd rfl) rfl rfl rfl rfl rfl (ww_o rfl) (Nat.le_of_ble_eq_true rfl) (Nat.zero_le _) (Nat.zero_le _) (k_171_46 (by omega) hI107 (in_w 6 7 (in_c 6 rfl) rfl) (in_w 0 1 (in_c 0 rfl) rfl) e107 v135 n135) (fun e u h => h) (fun v u h => ?_)
                                obtain ⟨s135, hI135, hF135, n135a, n135b, n135c, n135d, rfl, rfl, p135⟩ := h
                                obtain ⟨z135a, e135⟩ : ∃ w, w = s135.2.2.1 46 2 := ⟨_, rfl⟩
                                have i135a := inv_F hI135 0 1000 rfl e135
                                obtain ⟨z135b, e135a⟩ : ∃ w, w = s135.2.2.1 46 3 := ⟨_, rfl⟩
                                have i135b := inv_F hI135 0 5 rfl e135a
                                obtain ⟨z135c, e135b⟩ : ∃ w, w = s135.2.2.1 46 4 := ⟨_, rfl⟩
                                have i135c := inv_F hI135 0 1000 rfl e135b
                                rw [← (show z135a = s135.2.2.1 46 2 from e135)] at n135a
                                rw [← (show u_46_1 = s135.2.2.1 46 1 from fr_F (fr_F (fr_F (e_46_1) hF69 rfl) hF107 rfl) hF135 rfl)] at n135a
                                rw [← (show z135a = s135.2.2.1 46 2 from e135)] at n135b
                                rw [← (show z135b = s135.2.2.1 46 3 from e135a)] at n135b
                                rw [← (show z135c = s135.2.2.1 46 4 from e135b)] at n135b
                                rw [← (show z135a = s135.2.2.1 46 2 from e135)] at n135c
                                rw [← (show z135c = s135.2.2.1 46 4 from e135b)] at n135c
                                rw [← (show z107a = s107.2.2.1 46 2 from e107)] at n135d
                                rw [← (show z135c = s135.2.2.1 46 4 from e135b)] at n135d
                                show GG _ _ _ _ _ _ _ _ [] _ _ _
                                have hv135 := p135 (by decide); rw [← (show z135b = s135.2.2.1 46 3 from e135a)] at hv135
                                refine g_iconst 1 139 (gd rfl) rfl rfl ?_
                                have n139 : ((Int32.ofInt 1)).toInt ≠ 0 → PCV s s135 1 := by intro _; exact pv_tr (j := 1) (k := 0) (pv_tr (j := 0) (k := 1) (pv_sm (hF69.1 104 rfl) (hF69.2.2.1 102 4 rfl)) (p107 c110)) (pv_sm (hF135.1 104 rfl) (hF135.2.2.1 102 4 rfl))
                                have n139a : (z135a).toInt ≤ (u_46_1).toInt := by have a0 := (inv_F hI 0 120 rfl e_102_4); unfold In at a0; have a1 := i36x13; unfold In at a1; have a2 := i25x5; unfold In at a2; have a3 := (inv_F hI 0 1000 rfl e_46_4); unfold In at a3; have a4 := r_46_1; unfold In at a4; have a5 := (inv_F hI 0 1000 rfl e_46_2); unfold In at a5; have a6 := i52; unfold In at a6; have a7 := (in_c 0 rfl); unfold In at a7; have a8 := i135c; unfold In at a8; have a9 := i135b; unfold In at a9; have a10 := i135a; unfold In at a10; have a11 := i107d; unfold In at a11; have a12 := i106; unfold In at a12; have a13 := t_add e106 i52 (in_c 1 rfl) rfl; have a14 := (in_c 1 rfl); unfold In at a14; omega
                                have n139b : (s135.2.2.1 46 2).toInt ≤ (s135.2.2.1 46 1).toInt := by have b0 : z135a = s135.2.2.1 46 2 := e135; have b1 : u_46_1 = s135.2.2.1 46 1 := fr_F (fr_F (fr_F (e_46_1) hF69 rfl) hF107 rfl) hF135 rfl; rw [← b0, ← b1]; exact n139a
                                have n139c : (z135b).toInt = 0 ∨ (z135c).toInt + 1 ≤ (z135a).toInt := by have a0 := (inv_F hI 0 120 rfl e_102_4); unfold In at a0; have a1 := i36x13; unfold In at a1; have a2 := i25x5; unfold In at a2; have a3 := (inv_F hI 0 1000 rfl e_46_4); unfold In at a3; have a4 := r_46_1; unfold In at a4; have a5 := (inv_F hI 0 1000 rfl e_46_2); unfold In at a5; have a6 := i52; unfold In at a6; have a7 := (in_c 0 rfl); unfold In at a7; have a8 := i135c; unfold In at a8; have a9 := i135b; unfold In at a9; have a10 := i135a; unfold In at a10; have a11 := i107d; unfold In at a11; have a12 := i106; unfold In at a12; have a13 := t_add e106 i52 (in_c 1 rfl) rfl; have a14 := (in_c 1 rfl); unfold In at a14; omega
                                have n139d : (s135.2.2.1 46 3).toInt = 0 ∨ (s135.2.2.1 46 4).toInt + 1 ≤ (s135.2.2.1 46 2).toInt := by have b0 : z135b = s135.2.2.1 46 3 := e135a; have b1 : z135c = s135.2.2.1 46 4 := e135b; have b2 : z135a = s135.2.2.1 46 2 := e135; rw [← b0, ← b1, ← b2]; exact n139c
                                have n139e : (z135c).toInt ≤ (z135a).toInt := by have a0 := (inv_F hI 0 120 rfl e_102_4); unfold In at a0; have a1 := i36x13; unfold In at a1; have a2 := i25x5; unfold In at a2; have a3 := (inv_F hI 0 1000 rfl e_46_4); unfold In at a3; have a4 := r_46_1; unfold In at a4; have a5 := (inv_F hI 0 1000 rfl e_46_2); unfold In at a5; have a6 := i52; unfold In at a6; have a7 := (in_c 0 rfl); unfold In at a7; have a8 := i135c; unfold In at a8; have a9 := i135b; unfold In at a9; have a10 := i135a; unfold In at a10; have a11 := i107d; unfold In at a11; have a12 := i106; unfold In at a12; have a13 := t_add e106 i52 (in_c 1 rfl) rfl; have a14 := (in_c 1 rfl); unfold In at a14; omega
                                have n139f : (s135.2.2.1 46 4).toInt ≤ (s135.2.2.1 46 2).toInt := by have b0 : z135c = s135.2.2.1 46 4 := e135b; have b1 : z135a = s135.2.2.1 46 2 := e135; rw [← b0, ← b1]; exact n139e
                                have n139g : (z107d).toInt ≤ (z135c).toInt := by have a0 := (inv_F hI 0 120 rfl e_102_4); unfold In at a0; have a1 := i36x13; unfold In at a1; have a2 := i25x5; unfold In at a2; have a3 := (inv_F hI 0 1000 rfl e_46_4); unfold In at a3; have a4 := r_46_1; unfold In at a4; have a5 := (inv_F hI 0 1000 rfl e_46_2); unfold In at a5; have a6 := i52; unfold In at a6; have a7 := (in_c 0 rfl); unfold In at a7; have a8 := i135c; unfold In at a8; have a9 := i135b; unfold In at a9; have a10 := i135a; unfold In at a10; have a11 := i107d; unfold In at a11; have a12 := i106; unfold In at a12; have a13 := t_add e106 i52 (in_c 1 rfl) rfl; have a14 := (in_c 1 rfl); unfold In at a14; omega
                                have n139h : (s135.2.2.1 102 4).toInt ≤ (s135.2.2.1 46 4).toInt := by have b0 : z107d = s135.2.2.1 102 4 := fr_F (e107c) hF135 rfl; have b1 : z135c = s135.2.2.1 46 4 := e135b; rw [← b0, ← b1]; exact n139g
                                have n139i : (z135b).toInt = 2 → ((s135.2.2.1 46 5)).toInt ≤ 999999 := by have a0 := (inv_F hI 0 120 rfl e_102_4); unfold In at a0; have a1 := i36x13; unfold In at a1; have a2 := i25x5; unfold In at a2; have a3 := (inv_F hI 0 1000 rfl e_46_4); unfold In at a3; have a4 := r_46_1; unfold In at a4; have a5 := (inv_F hI 0 1000 rfl e_46_2); unfold In at a5; have a6 := i52; unfold In at a6; have a7 := (in_c 0 rfl); unfold In at a7; have a8 := i135c; unfold In at a8; have a9 := i135b; unfold In at a9; have a10 := i135a; unfold In at a10; have a11 := i107d; unfold In at a11; have a12 := i106; unfold In at a12; have a13 := t_add e106 i52 (in_c 1 rfl) rfl; have a14 := (in_c 1 rfl); unfold In at a14; omega
                                have n139j : (s135.2.2.1 46 3).toInt = 2 → (s135.2.2.1 46 5).toInt ≤ 999999 := by have b0 : z135b = s135.2.2.1 46 3 := e135a; rw [← b0]; exact n139i
                                have n139k : (u_46_4).toInt - (u_102_4).toInt ≤ (z135c).toInt - (z107d).toInt := by have a0 := (inv_F hI 0 120 rfl e_102_4); unfold In at a0; have a1 := i36x13; unfold In at a1; have a2 := i25x5; unfold In at a2; have a3 := (inv_F hI 0 1000 rfl e_46_4); unfold In at a3; have a4 := r_46_1; unfold In at a4; have a5 := (inv_F hI 0 1000 rfl e_46_2); unfold In at a5; have a6 := i52; unfold In at a6; have a7 := (in_c 0 rfl); unfold In at a7; have a8 := i135c; unfold In at a8; have a9 := i135b; unfold In at a9; have a10 := i135a; unfold In at a10; have a11 := i107d; unfold In at a11; have a12 := i106; unfold In at a12; have a13 := t_add e106 i52 (in_c 1 rfl) rfl; have a14 := (in_c 1 rfl); unfold In at a14; omega
                                have n139l : (s.2.2.1 46 4).toInt - (s.2.2.1 102 4).toInt ≤ (s135.2.2.1 46 4).toInt - (s135.2.2.1 102 4).toInt := by have b0 : z135c = s135.2.2.1 46 4 := e135b; have b1 : z107d = s135.2.2.1 102 4 := fr_F (e107c) hF135 rfl; rw [← b0, ← b1, ← e_46_4, ← e_102_4]; exact n139k
                                exact g_ireturn (gd rfl) rfl (nb01 (in_w 0 1 (in_c 1 rfl) rfl)) (hP _ _ ⟨s135, hI135, (fr_tr rfl (fr_tr rfl (fr_tr rfl fr_rf hF69) hF107) hF135), n139b, n139d, n139f, n139h, n139j, n139l, (Int32.ofInt 1), rfl, rfl, in_w 0 1 (in_c 1 rfl) rfl, n139⟩)
                              · skip
                                exact zn_eq c121 (in_c 1 rfl) rfl
                        · skip
                          have i110 := z_eq 0 0 c110 i107 rfl
                          refine g_iconst 0 114 (gd rfl) rfl rfl ?_
                          have n114 : ((Int32.ofInt 0)).toInt ≠ 0 → PCV s s107 1 := by intro h; exact absurd rfl h
                          have n114a : (z107a).toInt ≤ (u_46_1).toInt := by have a0 := (inv_F hI 0 120 rfl e_102_4); unfold In at a0; have a1 := i36x13; unfold In at a1; have a2 := i25x5; unfold In at a2; have a3 := (inv_F hI 0 1000 rfl e_46_4); unfold In at a3; have a4 := r_46_1; unfold In at a4; have a5 := (inv_F hI 0 1000 rfl e_46_2); unfold In at a5; have a6 := i52; unfold In at a6; have a7 := (in_c 0 rfl); unfold In at a7; have a8 := i107d; unfold In at a8; have a9 := i107c; unfold In at a9; have a10 := i107b; unfold In at a10; have a11 := i107a; unfold In at a11; have a12 := i106; unfold In at a12; have a13 := t_add e106 i52 (in_c 1 rfl) rfl; have a14 := (in_c 1 rfl); unfold In at a14; omega
                          have n114b : (s107.2.2.1 46 2).toInt ≤ (s107.2.2.1 46 1).toInt := by have b0 : z107a = s107.2.2.1 46 2 := e107; have b1 : u_46_1 = s107.2.2.1 46 1 := fr_F (fr_F (e_46_1) hF69 rfl) hF107 rfl; rw [← b0, ← b1]; exact n114a
                          have n114c : (z107b).toInt = 0 ∨ (z107c).toInt + 1 ≤ (z107a).toInt := by have a0 := (inv_F hI 0 120 rfl e_102_4); unfold In at a0; have a1 := i36x13; unfold In at a1; have a2 := i25x5; unfold In at a2; have a3 := (inv_F hI 0 1000 rfl e_46_4); unfold In at a3; have a4 := r_46_1; unfold In at a4; have a5 := (inv_F hI 0 1000 rfl e_46_2); unfold In at a5; have a6 := i52; unfold In at a6; have a7 := (in_c 0 rfl); unfold In at a7; have a8 := i107d; unfold In at a8; have a9 := i107c; unfold In at a9; have a10 := i107b; unfold In at a10; have a11 := i107a; unfold In at a11; have a12 := i106; unfold In at a12; have a13 := t_add e106 i52 (in_c 1 rfl) rfl; have a14 := (in_c 1 rfl); unfold In at a14; omega
                          have n114d : (s107.2.2.1 46 3).toInt = 0 ∨ (s107.2.2.1 46 4).toInt + 1 ≤ (s107.2.2.1 46 2).toInt := by have b0 : z107b = s107.2.2.1 46 3 := e107a; have b1 : z107c = s107.2.2.1 46 4 := e107b; have b2 : z107a = s107.2.2.1 46 2 := e107; rw [← b0, ← b1, ← b2]; exact n114c
                          have n114e : (z107c).toInt ≤ (z107a).toInt := by have a0 := (inv_F hI 0 120 rfl e_102_4); unfold In at a0; have a1 := i36x13; unfold In at a1; have a2 := i25x5; unfold In at a2; have a3 := (inv_F hI 0 1000 rfl e_46_4); unfold In at a3; have a4 := r_46_1; unfold In at a4; have a5 := (inv_F hI 0 1000 rfl e_46_2); unfold In at a5; have a6 := i52; unfold In at a6; have a7 := (in_c 0 rfl); unfold In at a7; have a8 := i107d; unfold In at a8; have a9 := i107c; unfold In at a9; have a10 := i107b; unfold In at a10; have a11 := i107a; unfold In at a11; have a12 := i106; unfold In at a12; have a13 := t_add e106 i52 (in_c 1 rfl) rfl; have a14 := (in_c 1 rfl); unfold In at a14; omega
                          have n114f : (s107.2.2.1 46 4).toInt ≤ (s107.2.2.1 46 2).toInt := by have b0 : z107c = s107.2.2.1 46 4 := e107b; have b1 : z107a = s107.2.2.1 46 2 := e107; rw [← b0, ← b1]; exact n114e
                          have n114g : (z107d).toInt ≤ (z107c).toInt := by have a0 := (inv_F hI 0 120 rfl e_102_4); unfold In at a0; have a1 := i36x13; unfold In at a1; have a2 := i25x5; unfold In at a2; have a3 := (inv_F hI 0 1000 rfl e_46_4); unfold In at a3; have a4 := r_46_1; unfold In at a4; have a5 := (inv_F hI 0 1000 rfl e_46_2); unfold In at a5; have a6 := i52; unfold In at a6; have a7 := (in_c 0 rfl); unfold In at a7; have a8 := i107d; unfold In at a8; have a9 := i107c; unfold In at a9; have a10 := i107b; unfold In at a10; have a11 := i107a; unfold In at a11; have a12 := i106; unfold In at a12; have a13 := t_add e106 i52 (in_c 1 rfl) rfl; have a14 := (in_c 1 rfl); unfold In at a14; omega
                          have n114h : (s107.2.2.1 102 4).toInt ≤ (s107.2.2.1 46 4).toInt := by have b0 : z107d = s107.2.2.1 102 4 := e107c; have b1 : z107c = s107.2.2.1 46 4 := e107b; rw [← b0, ← b1]; exact n114g
                          have n114i : (z107b).toInt = 2 → (z107e).toInt ≤ 999999 := by have a0 := (inv_F hI 0 120 rfl e_102_4); unfold In at a0; have a1 := i36x13; unfold In at a1; have a2 := i25x5; unfold In at a2; have a3 := (inv_F hI 0 1000 rfl e_46_4); unfold In at a3; have a4 := r_46_1; unfold In at a4; have a5 := (inv_F hI 0 1000 rfl e_46_2); unfold In at a5; have a6 := i52; unfold In at a6; have a7 := (in_c 0 rfl); unfold In at a7; have a8 := i107d; unfold In at a8; have a9 := i107c; unfold In at a9; have a10 := i107b; unfold In at a10; have a11 := i107a; unfold In at a11; have a12 := i106; unfold In at a12; have a13 := t_add e106 i52 (in_c 1 rfl) rfl; have a14 := (in_c 1 rfl); unfold In at a14; omega
                          have n114j : (s107.2.2.1 46 3).toInt = 2 → (s107.2.2.1 46 5).toInt ≤ 999999 := by have b0 : z107b = s107.2.2.1 46 3 := e107a; have b1 : z107e = s107.2.2.1 46 5 := e107d; rw [← b0, ← b1]; exact n114i
                          have n114k : (u_46_4).toInt - (u_102_4).toInt ≤ (z107c).toInt - (z107d).toInt := by have a0 := (inv_F hI 0 120 rfl e_102_4); unfold In at a0; have a1 := i36x13; unfold In at a1; have a2 := i25x5; unfold In at a2; have a3 := (inv_F hI 0 1000 rfl e_46_4); unfold In at a3; have a4 := r_46_1; unfold In at a4; have a5 := (inv_F hI 0 1000 rfl e_46_2); unfold In at a5; have a6 := i52; unfold In at a6; have a7 := (in_c 0 rfl); unfold In at a7; have a8 := i107d; unfold In at a8; have a9 := i107c; unfold In at a9; have a10 := i107b; unfold In at a10; have a11 := i107a; unfold In at a11; have a12 := i106; unfold In at a12; have a13 := t_add e106 i52 (in_c 1 rfl) rfl; have a14 := (in_c 1 rfl); unfold In at a14; omega
                          have n114l : (s.2.2.1 46 4).toInt - (s.2.2.1 102 4).toInt ≤ (s107.2.2.1 46 4).toInt - (s107.2.2.1 102 4).toInt := by have b0 : z107c = s107.2.2.1 46 4 := e107b; have b1 : z107d = s107.2.2.1 102 4 := e107c; rw [← b0, ← b1, ← e_46_4, ← e_102_4]; exact n114k
                          exact g_ireturn (gd rfl) rfl (nb01 (in_w 0 1 (in_c 0 rfl) rfl)) (hP _ _ ⟨s107, hI107, (fr_tr rfl (fr_tr rfl fr_rf hF69) hF107), n114b, n114d, n114f, n114h, n114j, n114l, (Int32.ofInt 0), rfl, rfl, in_w 0 1 (in_c 0 rfl) rfl, n114⟩)
                      · skip
                        exact zn_ne c73 (in_c 0 rfl) rfl
                    · skip
                      have i52 := r_le2 10 10 c52 (in_c 10 rfl) h2 rfl
                      refine g_aload_n 56 (gd rfl) rfl rfl ?_
                      refine g_iconst 3 57 (gd rfl) rfl rfl ?_
                      refine g_aload_n 58 (gd rfl) rfl rfl ?_
                      refine g_getI 61 (gd rfl) rfl rfl rfl (fun z58 e58 => ?_)
                      have q58 : u_46_4 = z58 := (e_46_4).trans e58.symm
                      subst q58
                      refine g_callv (X := _) (As := [.int (Int32.ofInt 3), .int u_46_4]) (r := []) (b := A 46) (q := 46) 64 (gd rfl) rfl rfl rfl rfl rfl (ww_o rfl) (Nat.le_of_ble_eq_true rfl) (Nat.zero_le _) (Nat.zero_le _) (k_168_46 (by omega) hI (in_w 1 5 (in_c 3 rfl) rfl) (in_w 0 1000 (inv_F hI 0 1000 rfl e_46_4) rfl)) (fun e u h => h) (fun v u h => ?_)
                      obtain ⟨s61, hI61, hF61, z61, rfl, rfl, i61⟩ := h
                      show GG _ _ _ _ _ _ _ _ [.int z61] _ _ _
                      have n64 : (z61).toInt ≠ 0 → PCV s s61 1 := by intro h; unfold In at i61; omega
                      have n64a : (u_46_2).toInt ≤ (u_46_1).toInt := by have a0 := (inv_F hI 0 120 rfl e_102_4); unfold In at a0; have a1 := i36x13; unfold In at a1; have a2 := i25x5; unfold In at a2; have a3 := (inv_F hI 0 1000 rfl e_46_4); unfold In at a3; have a4 := r_46_1; unfold In at a4; have a5 := (inv_F hI 0 1000 rfl e_46_2); unfold In at a5; have a6 := i52; unfold In at a6; have a7 := (in_c 0 rfl); unfold In at a7; omega
                      have n64b : (s61.2.2.1 46 2).toInt ≤ (s61.2.2.1 46 1).toInt := by have b0 : u_46_2 = s61.2.2.1 46 2 := fr_F (e_46_2) hF61 rfl; have b1 : u_46_1 = s61.2.2.1 46 1 := fr_F (e_46_1) hF61 rfl; rw [← b0, ← b1]; exact n64a
                      have n64c : (u_46_3).toInt = 0 ∨ (u_46_4).toInt + 1 ≤ (u_46_2).toInt := by have a0 := (inv_F hI 0 120 rfl e_102_4); unfold In at a0; have a1 := i36x13; unfold In at a1; have a2 := i25x5; unfold In at a2; have a3 := (inv_F hI 0 1000 rfl e_46_4); unfold In at a3; have a4 := r_46_1; unfold In at a4; have a5 := (inv_F hI 0 1000 rfl e_46_2); unfold In at a5; have a6 := i52; unfold In at a6; have a7 := (in_c 0 rfl); unfold In at a7; omega
                      have n64d : (s61.2.2.1 46 3).toInt = 0 ∨ (s61.2.2.1 46 4).toInt + 1 ≤ (s61.2.2.1 46 2).toInt := by have b0 : u_46_3 = s61.2.2.1 46 3 := fr_F (e_46_3) hF61 rfl; have b1 : u_46_4 = s61.2.2.1 46 4 := fr_F (e_46_4) hF61 rfl; have b2 : u_46_2 = s61.2.2.1 46 2 := fr_F (e_46_2) hF61 rfl; rw [← b0, ← b1, ← b2]; exact n64c
                      have n64e : (u_46_4).toInt ≤ (u_46_2).toInt := by have a0 := (inv_F hI 0 120 rfl e_102_4); unfold In at a0; have a1 := i36x13; unfold In at a1; have a2 := i25x5; unfold In at a2; have a3 := (inv_F hI 0 1000 rfl e_46_4); unfold In at a3; have a4 := r_46_1; unfold In at a4; have a5 := (inv_F hI 0 1000 rfl e_46_2); unfold In at a5; have a6 := i52; unfold In at a6; have a7 := (in_c 0 rfl); unfold In at a7; omega
                      have n64f : (s61.2.2.1 46 4).toInt ≤ (s61.2.2.1 46 2).toInt := by have b0 : u_46_4 = s61.2.2.1 46 4 := fr_F (e_46_4) hF61 rfl; have b1 : u_46_2 = s61.2.2.1 46 2 := fr_F (e_46_2) hF61 rfl; rw [← b0, ← b1]; exact n64e
                      have n64g : (u_102_4).toInt ≤ (u_46_4).toInt := by have a0 := (inv_F hI 0 120 rfl e_102_4); unfold In at a0; have a1 := i36x13; unfold In at a1; have a2 := i25x5; unfold In at a2; have a3 := (inv_F hI 0 1000 rfl e_46_4); unfold In at a3; have a4 := r_46_1; unfold In at a4; have a5 := (inv_F hI 0 1000 rfl e_46_2); unfold In at a5; have a6 := i52; unfold In at a6; have a7 := (in_c 0 rfl); unfold In at a7; omega
                      have n64h : (s61.2.2.1 102 4).toInt ≤ (s61.2.2.1 46 4).toInt := by have b0 : u_102_4 = s61.2.2.1 102 4 := fr_F (e_102_4) hF61 rfl; have b1 : u_46_4 = s61.2.2.1 46 4 := fr_F (e_46_4) hF61 rfl; rw [← b0, ← b1]; exact n64g
                      have n64i : (u_46_3).toInt = 2 → (u_46_5).toInt ≤ 999999 := by have a0 := (inv_F hI 0 120 rfl e_102_4); unfold In at a0; have a1 := i36x13; unfold In at a1; have a2 := i25x5; unfold In at a2; have a3 := (inv_F hI 0 1000 rfl e_46_4); unfold In at a3; have a4 := r_46_1; unfold In at a4; have a5 := (inv_F hI 0 1000 rfl e_46_2); unfold In at a5; have a6 := i52; unfold In at a6; have a7 := (in_c 0 rfl); unfold In at a7; omega
                      have n64j : (s61.2.2.1 46 3).toInt = 2 → (s61.2.2.1 46 5).toInt ≤ 999999 := by have b0 : u_46_3 = s61.2.2.1 46 3 := fr_F (e_46_3) hF61 rfl; have b1 : u_46_5 = s61.2.2.1 46 5 := fr_F (e_46_5) hF61 rfl; rw [← b0, ← b1]; exact n64i
                      have n64k : (u_46_4).toInt - (u_102_4).toInt ≤ (u_46_4).toInt - (u_102_4).toInt := by have a0 := (inv_F hI 0 120 rfl e_102_4); unfold In at a0; have a1 := i36x13; unfold In at a1; have a2 := i25x5; unfold In at a2; have a3 := (inv_F hI 0 1000 rfl e_46_4); unfold In at a3; have a4 := r_46_1; unfold In at a4; have a5 := (inv_F hI 0 1000 rfl e_46_2); unfold In at a5; have a6 := i52; unfold In at a6; have a7 := (in_c 0 rfl); unfold In at a7; omega
                      have n64l : (s.2.2.1 46 4).toInt - (s.2.2.1 102 4).toInt ≤ (s61.2.2.1 46 4).toInt - (s61.2.2.1 102 4).toInt := by have b0 : u_46_4 = s61.2.2.1 46 4 := fr_F (e_46_4) hF61 rfl; have b1 : u_102_4 = s61.2.2.1 102 4 := fr_F (e_102_4) hF61 rfl; rw [← b0, ← b1, ← e_46_4, ← e_102_4]; exact n64k
                      exact g_ireturn (gd rfl) rfl (nb01 (in_w 0 1 i61 rfl)) (hP _ _ ⟨s61, hI61, (fr_tr rfl fr_rf hF61), n64b, n64d, n64f, n64h, n64j, n64l, z61, rfl, rfl, in_w 0 1 i61 rfl, n64⟩)
                  · skip
                    exact zn_eq c39 (in_c 1 rfl) rfl
          · skip
            have i25x13 := r_eq1 45 45 c25x13 (inv_F hI (-2147483648) 2147483647 rfl e_46_5) (in_c 45 rfl) rfl
            refine g_iconst 1 17 (gd rfl) rfl rfl ?_
            refine g_goto 21 (gd rfl) rfl ?_
            refine g_ireturn (gd rfl) rfl (nb01 (in_w 0 1 (in_c 1 rfl) rfl)) (hp25 _ _ ?_)
            show GG _ _ _ _ _ _ _ _ [.int (Int32.ofInt 1)] _ _ _
            refine g_istore_n 29 (gd rfl) rfl (Nat.le_of_ble_eq_true rfl) ?_
            refine g_iload_n 30 (gd rfl) rfl rfl ?_
            refine g_if_ne 33 49 (gd rfl) rfl rfl (fun c30 => ?_) (fun c30 => ?_)
            · skip
              refine g_iload_n 50 (gd rfl) rfl rfl ?_
              refine g_bipush 10 52 (gd rfl) rfl rfl ?_
              refine g_cmp_lt 55 65 (gd rfl) rfl rfl (fun c52 => ?_) (fun c52 => ?_)
              · skip
                have i52 := r_lt1 0 9 c52 h2 (in_c 10 rfl) rfl
                refine g_aload_n 66 (gd rfl) rfl rfl ?_
                refine g_bipush 6 68 (gd rfl) rfl rfl ?_
                refine g_iconst 0 69 (gd rfl) rfl rfl ?_
                have n69 : (u_46_2).toInt ≤ (u_46_1).toInt := by have a0 := (inv_F hI 0 120 rfl e_102_4); unfold In at a0; have a1 := i25x13; unfold In at a1; have a2 := i25x5; unfold In at a2; have a3 := (inv_F hI 0 1000 rfl e_46_4); unfold In at a3; have a4 := r_46_1; unfold In at a4; have a5 := (inv_F hI 0 1000 rfl e_46_2); unfold In at a5; have a6 := i52; unfold In at a6; have a7 := (in_c 1 rfl); unfold In at a7; omega
                refine g_callv (X := _) (As := [.int (Int32.ofInt 6), .int (Int32.ofInt 0)]) (r := []) (b := A 46) (q := 46) 72 (gd rfl) rfl rfl rfl rfl rfl (ww_o rfl) (Nat.le_of_ble_eq_true rfl) (Nat.zero_le _) (Nat.zero_le _) (k_171_46 (by omega) hI (in_w 6 7 (in_c 6 rfl) rfl) (in_w 0 1 (in_c 0 rfl) rfl) e_46_2 e_46_1 n69) (fun e u h => h) (fun v u h => ?_)
                obtain ⟨s69, hI69, hF69, n69a, n69b, n69c, n69d, rfl, rfl, p69⟩ := h
                obtain ⟨z69a, e69⟩ : ∃ w, w = s69.2.2.1 46 2 := ⟨_, rfl⟩
                have i69a := inv_F hI69 0 1000 rfl e69
                obtain ⟨z69b, e69a⟩ : ∃ w, w = s69.2.2.1 46 3 := ⟨_, rfl⟩
                have i69b := inv_F hI69 0 5 rfl e69a
                obtain ⟨z69c, e69b⟩ : ∃ w, w = s69.2.2.1 46 4 := ⟨_, rfl⟩
                have i69c := inv_F hI69 0 1000 rfl e69b
                rw [← (show z69a = s69.2.2.1 46 2 from e69)] at n69a
                rw [← (show u_46_1 = s69.2.2.1 46 1 from fr_F (e_46_1) hF69 rfl)] at n69a
                rw [← (show z69a = s69.2.2.1 46 2 from e69)] at n69b
                rw [← (show z69b = s69.2.2.1 46 3 from e69a)] at n69b
                rw [← (show z69c = s69.2.2.1 46 4 from e69b)] at n69b
                rw [← (show z69a = s69.2.2.1 46 2 from e69)] at n69c
                rw [← (show z69c = s69.2.2.1 46 4 from e69b)] at n69c
                rw [← (show u_46_2 = s.2.2.1 46 2 from e_46_2)] at n69d
                rw [← (show z69c = s69.2.2.1 46 4 from e69b)] at n69d
                show GG _ _ _ _ _ _ _ _ [] _ _ _
                have hv69 := p69 (by decide); rw [← (show z69b = s69.2.2.1 46 3 from e69a)] at hv69
                refine g_iload_n 73 (gd rfl) rfl rfl ?_
                refine g_if_eq 76 102 (gd rfl) rfl rfl (fun c73 => ?_) (fun c73 => ?_)
                · skip
                  exact zn_eq c73 (in_c 1 rfl) rfl
                · skip
                  refine g_aload_n 77 (gd rfl) rfl rfl ?_
                  refine g_aload_n 78 (gd rfl) rfl rfl ?_
                  refine g_iload_n 79 (gd rfl) rfl rfl ?_
                  refine g_iconst 1 80 (gd rfl) rfl rfl ?_
                  refine g_iadd 81 (gd rfl) rfl (fun z80 e80 => ?_)
                  have i80 := in_add 1 10 e80 i52 (in_c 1 rfl) rfl rfl
                  have v81 : u_46_1 = s69.2.2.1 46 1 := fr_F (e_46_1) hF69 rfl
                  have v81a : u_102_4 = s69.2.2.1 102 4 := fr_F (e_102_4) hF69 rfl
                  have n81 : (z69a).toInt ≤ (u_46_1).toInt := by have a0 := (inv_F hI 0 120 rfl e_102_4); unfold In at a0; have a1 := i25x13; unfold In at a1; have a2 := i25x5; unfold In at a2; have a3 := (inv_F hI 0 1000 rfl e_46_4); unfold In at a3; have a4 := r_46_1; unfold In at a4; have a5 := (inv_F hI 0 1000 rfl e_46_2); unfold In at a5; have a6 := i52; unfold In at a6; have a7 := (in_c 1 rfl); unfold In at a7; have a8 := i69c; unfold In at a8; have a9 := i69b; unfold In at a9; have a10 := i69a; unfold In at a10; have a11 := i80; unfold In at a11; have a12 := t_add e80 i52 (in_c 1 rfl) rfl; omega
                  have n81a : (z69b).toInt = 0 ∨ (z69c).toInt + 1 ≤ (z69a).toInt := by have a0 := (inv_F hI 0 120 rfl e_102_4); unfold In at a0; have a1 := i25x13; unfold In at a1; have a2 := i25x5; unfold In at a2; have a3 := (inv_F hI 0 1000 rfl e_46_4); unfold In at a3; have a4 := r_46_1; unfold In at a4; have a5 := (inv_F hI 0 1000 rfl e_46_2); unfold In at a5; have a6 := i52; unfold In at a6; have a7 := (in_c 1 rfl); unfold In at a7; have a8 := i69c; unfold In at a8; have a9 := i69b; unfold In at a9; have a10 := i69a; unfold In at a10; have a11 := i80; unfold In at a11; have a12 := t_add e80 i52 (in_c 1 rfl) rfl; omega
                  have n81b : (z69c).toInt ≤ (z69a).toInt := by have a0 := (inv_F hI 0 120 rfl e_102_4); unfold In at a0; have a1 := i25x13; unfold In at a1; have a2 := i25x5; unfold In at a2; have a3 := (inv_F hI 0 1000 rfl e_46_4); unfold In at a3; have a4 := r_46_1; unfold In at a4; have a5 := (inv_F hI 0 1000 rfl e_46_2); unfold In at a5; have a6 := i52; unfold In at a6; have a7 := (in_c 1 rfl); unfold In at a7; have a8 := i69c; unfold In at a8; have a9 := i69b; unfold In at a9; have a10 := i69a; unfold In at a10; have a11 := i80; unfold In at a11; have a12 := t_add e80 i52 (in_c 1 rfl) rfl; omega
                  have n81c : (u_102_4).toInt ≤ (z69c).toInt := by have a0 := (inv_F hI 0 120 rfl e_102_4); unfold In at a0; have a1 := i25x13; unfold In at a1; have a2 := i25x5; unfold In at a2; have a3 := (inv_F hI 0 1000 rfl e_46_4); unfold In at a3; have a4 := r_46_1; unfold In at a4; have a5 := (inv_F hI 0 1000 rfl e_46_2); unfold In at a5; have a6 := i52; unfold In at a6; have a7 := (in_c 1 rfl); unfold In at a7; have a8 := i69c; unfold In at a8; have a9 := i69b; unfold In at a9; have a10 := i69a; unfold In at a10; have a11 := i80; unfold In at a11; have a12 := t_add e80 i52 (in_c 1 rfl) rfl; omega
                  have n81d : (z69b).toInt = 2 → ((s69.2.2.1 46 5)).toInt ≤ 999999 := by have a0 := (inv_F hI 0 120 rfl e_102_4); unfold In at a0; have a1 := i25x13; unfold In at a1; have a2 := i25x5; unfold In at a2; have a3 := (inv_F hI 0 1000 rfl e_46_4); unfold In at a3; have a4 := r_46_1; unfold In at a4; have a5 := (inv_F hI 0 1000 rfl e_46_2); unfold In at a5; have a6 := i52; unfold In at a6; have a7 := (in_c 1 rfl); unfold In at a7; have a8 := i69c; unfold In at a8; have a9 := i69b; unfold In at a9; have a10 := i69a; unfold In at a10; have a11 := i80; unfold In at a11; have a12 := t_add e80 i52 (in_c 1 rfl) rfl; omega
                  have n81e : 10 - (z80).toInt < ((kk : Nat) : Int) := by have a0 := (inv_F hI 0 120 rfl e_102_4); unfold In at a0; have a1 := i25x13; unfold In at a1; have a2 := i25x5; unfold In at a2; have a3 := (inv_F hI 0 1000 rfl e_46_4); unfold In at a3; have a4 := r_46_1; unfold In at a4; have a5 := (inv_F hI 0 1000 rfl e_46_2); unfold In at a5; have a6 := i52; unfold In at a6; have a7 := (in_c 1 rfl); unfold In at a7; have a8 := i69c; unfold In at a8; have a9 := i69b; unfold In at a9; have a10 := i69a; unfold In at a10; have a11 := i80; unfold In at a11; have a12 := t_add e80 i52 (in_c 1 rfl) rfl; omega
                  refine g_callv (X := _) (As := [.ref (A 46), .int z80]) (r := []) (b := A 102) (q := 102) 84 (gd rfl) rfl rfl rfl rfl rfl (ww_o rfl) (Nat.le_of_ble_eq_true rfl) (Nat.zero_le _) (Nat.zero_le _) (ih (by omega) hI69 (in_w 0 10 i80 rfl) e69 v81 e69b e69a rfl v81a (in_w 0 120 r_46_1 rfl) n81 n81a n81b n81c n81d n81e) (fun e u h => h) (fun v u h => ?_)
                  obtain ⟨s81, hI81, hF81, n81f, n81g, n81h, n81i, n81j, n81k, z81, rfl, rfl, i81, p81⟩ := h
                  obtain ⟨z81a, e81⟩ : ∃ w, w = s81.2.2.1 46 2 := ⟨_, rfl⟩
                  have i81a := inv_F hI81 0 1000 rfl e81
                  obtain ⟨z81b, e81a⟩ : ∃ w, w = s81.2.2.1 46 3 := ⟨_, rfl⟩
                  have i81b := inv_F hI81 0 5 rfl e81a
                  obtain ⟨z81c, e81b⟩ : ∃ w, w = s81.2.2.1 46 4 := ⟨_, rfl⟩
                  have i81c := inv_F hI81 0 1000 rfl e81b
                  obtain ⟨z81d, e81c⟩ : ∃ w, w = s81.2.2.1 102 4 := ⟨_, rfl⟩
                  have i81d := inv_F hI81 0 120 rfl e81c
                  obtain ⟨z81e, e81d⟩ : ∃ w, w = s81.2.2.1 46 5 := ⟨_, rfl⟩
                  rw [← (show z81a = s81.2.2.1 46 2 from e81)] at n81f
                  rw [← (show u_46_1 = s81.2.2.1 46 1 from fr_F (fr_F (e_46_1) hF69 rfl) hF81 rfl)] at n81f
                  rw [← (show z81a = s81.2.2.1 46 2 from e81)] at n81g
                  rw [← (show z81b = s81.2.2.1 46 3 from e81a)] at n81g
                  rw [← (show z81c = s81.2.2.1 46 4 from e81b)] at n81g
                  rw [← (show z81a = s81.2.2.1 46 2 from e81)] at n81h
                  rw [← (show z81c = s81.2.2.1 46 4 from e81b)] at n81h
                  rw [← (show z81c = s81.2.2.1 46 4 from e81b)] at n81i
                  rw [← (show z81d = s81.2.2.1 102 4 from e81c)] at n81i
                  rw [← (show z81b = s81.2.2.1 46 3 from e81a)] at n81j
                  rw [← (show z81e = s81.2.2.1 46 5 from e81d)] at n81j
                  rw [← (show z69c = s69.2.2.1 46 4 from e69b)] at n81k
                  rw [← (show u_102_4 = s69.2.2.1 102 4 from fr_F (e_102_4) hF69 rfl)] at n81k
                  rw [← (show z81c = s81.2.2.1 46 4 from e81b)] at n81k
                  rw [← (show z81d = s81.2.2.1 102 4 from e81c)] at n81k
                  show GG _ _ _ _ _ _ _ _ [.int z81] _ _ _
                  refine g_if_eq 87 100 (gd rfl) rfl rfl (fun c84 => ?_) (fun c84 => ?_)
                  · skip
                    have i84 := z_eq 0 0 c84 i81 rfl
                    refine g_iconst 0 101 (gd rfl) rfl rfl ?_
                    have n101 : ((Int32.ofInt 0)).toInt ≠ 0 → PCV s s81 1 := by intro h; exact absurd rfl h
                    have n101a : (z81a).toInt ≤ (u_46_1).toInt := by have a0 := (inv_F hI 0 120 rfl e_102_4); unfold In at a0; have a1 := i25x13; unfold In at a1; have a2 := i25x5; unfold In at a2; have a3 := (inv_F hI 0 1000 rfl e_46_4); unfold In at a3; have a4 := r_46_1; unfold In at a4; have a5 := (inv_F hI 0 1000 rfl e_46_2); unfold In at a5; have a6 := i52; unfold In at a6; have a7 := (in_c 1 rfl); unfold In at a7; have a8 := i81d; unfold In at a8; have a9 := i81c; unfold In at a9; have a10 := i81b; unfold In at a10; have a11 := i81a; unfold In at a11; have a12 := i80; unfold In at a12; have a13 := t_add e80 i52 (in_c 1 rfl) rfl; omega
                    have n101b : (s81.2.2.1 46 2).toInt ≤ (s81.2.2.1 46 1).toInt := by have b0 : z81a = s81.2.2.1 46 2 := e81; have b1 : u_46_1 = s81.2.2.1 46 1 := fr_F (fr_F (e_46_1) hF69 rfl) hF81 rfl; rw [← b0, ← b1]; exact n101a
                    have n101c : (z81b).toInt = 0 ∨ (z81c).toInt + 1 ≤ (z81a).toInt := by have a0 := (inv_F hI 0 120 rfl e_102_4); unfold In at a0; have a1 := i25x13; unfold In at a1; have a2 := i25x5; unfold In at a2; have a3 := (inv_F hI 0 1000 rfl e_46_4); unfold In at a3; have a4 := r_46_1; unfold In at a4; have a5 := (inv_F hI 0 1000 rfl e_46_2); unfold In at a5; have a6 := i52; unfold In at a6; have a7 := (in_c 1 rfl); unfold In at a7; have a8 := i81d; unfold In at a8; have a9 := i81c; unfold In at a9; have a10 := i81b; unfold In at a10; have a11 := i81a; unfold In at a11; have a12 := i80; unfold In at a12; have a13 := t_add e80 i52 (in_c 1 rfl) rfl; omega
                    have n101d : (s81.2.2.1 46 3).toInt = 0 ∨ (s81.2.2.1 46 4).toInt + 1 ≤ (s81.2.2.1 46 2).toInt := by have b0 : z81b = s81.2.2.1 46 3 := e81a; have b1 : z81c = s81.2.2.1 46 4 := e81b; have b2 : z81a = s81.2.2.1 46 2 := e81; rw [← b0, ← b1, ← b2]; exact n101c
                    have n101e : (z81c).toInt ≤ (z81a).toInt := by have a0 := (inv_F hI 0 120 rfl e_102_4); unfold In at a0; have a1 := i25x13; unfold In at a1; have a2 := i25x5; unfold In at a2; have a3 := (inv_F hI 0 1000 rfl e_46_4); unfold In at a3; have a4 := r_46_1; unfold In at a4; have a5 := (inv_F hI 0 1000 rfl e_46_2); unfold In at a5; have a6 := i52; unfold In at a6; have a7 := (in_c 1 rfl); unfold In at a7; have a8 := i81d; unfold In at a8; have a9 := i81c; unfold In at a9; have a10 := i81b; unfold In at a10; have a11 := i81a; unfold In at a11; have a12 := i80; unfold In at a12; have a13 := t_add e80 i52 (in_c 1 rfl) rfl; omega
                    have n101f : (s81.2.2.1 46 4).toInt ≤ (s81.2.2.1 46 2).toInt := by have b0 : z81c = s81.2.2.1 46 4 := e81b; have b1 : z81a = s81.2.2.1 46 2 := e81; rw [← b0, ← b1]; exact n101e
                    have n101g : (z81d).toInt ≤ (z81c).toInt := by have a0 := (inv_F hI 0 120 rfl e_102_4); unfold In at a0; have a1 := i25x13; unfold In at a1; have a2 := i25x5; unfold In at a2; have a3 := (inv_F hI 0 1000 rfl e_46_4); unfold In at a3; have a4 := r_46_1; unfold In at a4; have a5 := (inv_F hI 0 1000 rfl e_46_2); unfold In at a5; have a6 := i52; unfold In at a6; have a7 := (in_c 1 rfl); unfold In at a7; have a8 := i81d; unfold In at a8; have a9 := i81c; unfold In at a9; have a10 := i81b; unfold In at a10; have a11 := i81a; unfold In at a11; have a12 := i80; unfold In at a12; have a13 := t_add e80 i52 (in_c 1 rfl) rfl; omega
                    have n101h : (s81.2.2.1 102 4).toInt ≤ (s81.2.2.1 46 4).toInt := by have b0 : z81d = s81.2.2.1 102 4 := e81c; have b1 : z81c = s81.2.2.1 46 4 := e81b; rw [← b0, ← b1]; exact n101g
                    have n101i : (z81b).toInt = 2 → (z81e).toInt ≤ 999999 := by have a0 := (inv_F hI 0 120 rfl e_102_4); unfold In at a0; have a1 := i25x13; unfold In at a1; have a2 := i25x5; unfold In at a2; have a3 := (inv_F hI 0 1000 rfl e_46_4); unfold In at a3; have a4 := r_46_1; unfold In at a4; have a5 := (inv_F hI 0 1000 rfl e_46_2); unfold In at a5; have a6 := i52; unfold In at a6; have a7 := (in_c 1 rfl); unfold In at a7; have a8 := i81d; unfold In at a8; have a9 := i81c; unfold In at a9; have a10 := i81b; unfold In at a10; have a11 := i81a; unfold In at a11; have a12 := i80; unfold In at a12; have a13 := t_add e80 i52 (in_c 1 rfl) rfl; omega
                    have n101j : (s81.2.2.1 46 3).toInt = 2 → (s81.2.2.1 46 5).toInt ≤ 999999 := by have b0 : z81b = s81.2.2.1 46 3 := e81a; have b1 : z81e = s81.2.2.1 46 5 := e81d; rw [← b0, ← b1]; exact n101i
                    have n101k : (u_46_4).toInt - (u_102_4).toInt ≤ (z81c).toInt - (z81d).toInt := by have a0 := (inv_F hI 0 120 rfl e_102_4); unfold In at a0; have a1 := i25x13; unfold In at a1; have a2 := i25x5; unfold In at a2; have a3 := (inv_F hI 0 1000 rfl e_46_4); unfold In at a3; have a4 := r_46_1; unfold In at a4; have a5 := (inv_F hI 0 1000 rfl e_46_2); unfold In at a5; have a6 := i52; unfold In at a6; have a7 := (in_c 1 rfl); unfold In at a7; have a8 := i81d; unfold In at a8; have a9 := i81c; unfold In at a9; have a10 := i81b; unfold In at a10; have a11 := i81a; unfold In at a11; have a12 := i80; unfold In at a12; have a13 := t_add e80 i52 (in_c 1 rfl) rfl; omega
                    have n101l : (s.2.2.1 46 4).toInt - (s.2.2.1 102 4).toInt ≤ (s81.2.2.1 46 4).toInt - (s81.2.2.1 102 4).toInt := by have b0 : z81c = s81.2.2.1 46 4 := e81b; have b1 : z81d = s81.2.2.1 102 4 := e81c; rw [← b0, ← b1, ← e_46_4, ← e_102_4]; exact n101k
                    exact g_ireturn (gd rfl) rfl (nb01 (in_w 0 1 (in_c 0 rfl) rfl)) (hP _ _ ⟨s81, hI81, (fr_tr rfl (fr_tr rfl fr_rf hF69) hF81), n101b, n101d, n101f, n101h, n101j, n101l, (Int32.ofInt 0), rfl, rfl, in_w 0 1 (in_c 0 rfl) rfl, n101⟩)
                  · skip
                    have i84 := z_ne 1 1 c84 i81 rfl
                    refine g_aload_n 88 (gd rfl) rfl rfl ?_
                    refine g_ldc 1000226 90 (gd rfl) rfl rfl ?_
                    have hD : (s81.2.2.1 102 4).toInt < 120 := (by rw [← (show z81d = s81.2.2.1 102 4 from e81c)]; have a0 := (inv_F hI 0 120 rfl e_102_4); unfold In at a0; have a1 := i25x13; unfold In at a1; have a2 := i25x5; unfold In at a2; have a3 := (inv_F hI 0 1000 rfl e_46_4); unfold In at a3; have a4 := r_46_1; unfold In at a4; have a5 := (inv_F hI 0 1000 rfl e_46_2); unfold In at a5; have a6 := i52; unfold In at a6; have a7 := (in_c 1 rfl); unfold In at a7; have a8 := i81d; unfold In at a8; have a9 := i81c; unfold In at a9; have a10 := i81b; unfold In at a10; have a11 := i81a; unfold In at a11; have a12 := i80; unfold In at a12; have a13 := t_add e80 i52 (in_c 1 rfl) rfl; omega)
                    have hDe : _ = s81.2.2.1 102 4 := (show z81d = s81.2.2.1 102 4 from e81c)
                    refine g_callv (X := _) (As := [.int (Int32.ofInt 1000226)]) (r := []) (b := A 102) (q := 102) 93 (gd rfl) rfl rfl rfl rfl rfl (ww_o rfl) (Nat.le_of_ble_eq_true rfl) (Nat.zero_le _) (Nat.zero_le _) (k_57_102 (by omega) hI81 e81c) (fun e u h => h) (fun v u h => ?_)
                    obtain ⟨s90, hI90, hF90, n90, n90a, z90, rfl, rfl, i90, p90⟩ := h
                    obtain ⟨z90a, e90⟩ : ∃ w, w = s90.2.2.1 102 4 := ⟨_, rfl⟩
                    have i90a := inv_F hI90 0 120 rfl e90
                    rw [← (show z81d = s81.2.2.1 102 4 from e81c)] at n90
                    rw [← (show z90a = s90.2.2.1 102 4 from e90)] at n90
                    rw [← (show z81d = s81.2.2.1 102 4 from e81c)] at n90a
                    rw [← (show z90a = s90.2.2.1 102 4 from e90)] at n90a
                    show GG _ _ _ _ _ _ _ _ [.int z90] _ _ _
                    refine g_if_eq 96 100 (gd rfl) rfl rfl (fun c93 => ?_) (fun c93 => ?_)
                    · skip
                      exact zn_eq c93 i90 rfl
                    · skip
                      refine g_iconst 1 97 (gd rfl) rfl rfl ?_
                      refine g_goto 101 (gd rfl) rfl ?_
                      have n101 : ((Int32.ofInt 1)).toInt ≠ 0 → PCV s s90 1 := by intro _; exact pv_st (j := 1) (k := 1) (pv_tr (j := 0) (k := 1) (pv_sm (hF69.1 104 rfl) (hF69.2.2.1 102 4 rfl)) (p81 c84)) (inv_F hI81 0 120 rfl rfl).1 (p90 hD) (by rw [← (show z90a = s90.2.2.1 102 4 from e90), ← hDe]; have a0 := (inv_F hI 0 120 rfl e_102_4); unfold In at a0; have a1 := i25x13; unfold In at a1; have a2 := i25x5; unfold In at a2; have a3 := (inv_F hI 0 1000 rfl e_46_4); unfold In at a3; have a4 := r_46_1; unfold In at a4; have a5 := (inv_F hI 0 1000 rfl e_46_2); unfold In at a5; have a6 := i52; unfold In at a6; have a7 := (in_c 1 rfl); unfold In at a7; have a8 := i90a; unfold In at a8; have a9 := i81c; unfold In at a9; have a10 := i81b; unfold In at a10; have a11 := i81a; unfold In at a11; have a12 := i80; unfold In at a12; have a13 := t_add e80 i52 (in_c 1 rfl) rfl; omega) (fun e => hc_n (by decide) e)
                      have n101a : (z81a).toInt ≤ (u_46_1).toInt := by have a0 := (inv_F hI 0 120 rfl e_102_4); unfold In at a0; have a1 := i25x13; unfold In at a1; have a2 := i25x5; unfold In at a2; have a3 := (inv_F hI 0 1000 rfl e_46_4); unfold In at a3; have a4 := r_46_1; unfold In at a4; have a5 := (inv_F hI 0 1000 rfl e_46_2); unfold In at a5; have a6 := i52; unfold In at a6; have a7 := (in_c 1 rfl); unfold In at a7; have a8 := i90a; unfold In at a8; have a9 := i81c; unfold In at a9; have a10 := i81b; unfold In at a10; have a11 := i81a; unfold In at a11; have a12 := i80; unfold In at a12; have a13 := t_add e80 i52 (in_c 1 rfl) rfl; omega
                      have n101b : (s90.2.2.1 46 2).toInt ≤ (s90.2.2.1 46 1).toInt := by have b0 : z81a = s90.2.2.1 46 2 := fr_F (e81) hF90 rfl; have b1 : u_46_1 = s90.2.2.1 46 1 := fr_F (fr_F (fr_F (e_46_1) hF69 rfl) hF81 rfl) hF90 rfl; rw [← b0, ← b1]; exact n101a
                      have n101c : (z81b).toInt = 0 ∨ (z81c).toInt + 1 ≤ (z81a).toInt := by have a0 := (inv_F hI 0 120 rfl e_102_4); unfold In at a0; have a1 := i25x13; unfold In at a1; have a2 := i25x5; unfold In at a2; have a3 := (inv_F hI 0 1000 rfl e_46_4); unfold In at a3; have a4 := r_46_1; unfold In at a4; have a5 := (inv_F hI 0 1000 rfl e_46_2); unfold In at a5; have a6 := i52; unfold In at a6; have a7 := (in_c 1 rfl); unfold In at a7; have a8 := i90a; unfold In at a8; have a9 := i81c; unfold In at a9; have a10 := i81b; unfold In at a10; have a11 := i81a; unfold In at a11; have a12 := i80; unfold In at a12; have a13 := t_add e80 i52 (in_c 1 rfl) rfl; omega
                      have n101d : (s90.2.2.1 46 3).toInt = 0 ∨ (s90.2.2.1 46 4).toInt + 1 ≤ (s90.2.2.1 46 2).toInt := by have b0 : z81b = s90.2.2.1 46 3 := fr_F (e81a) hF90 rfl; have b1 : z81c = s90.2.2.1 46 4 := fr_F (e81b) hF90 rfl; have b2 : z81a = s90.2.2.1 46 2 := fr_F (e81) hF90 rfl; rw [← b0, ← b1, ← b2]; exact n101c
                      have n101e : (z81c).toInt ≤ (z81a).toInt := by have a0 := (inv_F hI 0 120 rfl e_102_4); unfold In at a0; have a1 := i25x13; unfold In at a1; have a2 := i25x5; unfold In at a2; have a3 := (inv_F hI 0 1000 rfl e_46_4); unfold In at a3; have a4 := r_46_1; unfold In at a4; have a5 := (inv_F hI 0 1000 rfl e_46_2); unfold In at a5; have a6 := i52; unfold In at a6; have a7 := (in_c 1 rfl); unfold In at a7; have a8 := i90a; unfold In at a8; have a9 := i81c; unfold In at a9; have a10 := i81b; unfold In at a10; have a11 := i81a; unfold In at a11; have a12 := i80; unfold In at a12; have a13 := t_add e80 i52 (in_c 1 rfl) rfl; omega
                      have n101f : (s90.2.2.1 46 4).toInt ≤ (s90.2.2.1 46 2).toInt := by have b0 : z81c = s90.2.2.1 46 4 := fr_F (e81b) hF90 rfl; have b1 : z81a = s90.2.2.1 46 2 := fr_F (e81) hF90 rfl; rw [← b0, ← b1]; exact n101e
                      have n101g : (z90a).toInt ≤ (z81c).toInt := by have a0 := (inv_F hI 0 120 rfl e_102_4); unfold In at a0; have a1 := i25x13; unfold In at a1; have a2 := i25x5; unfold In at a2; have a3 := (inv_F hI 0 1000 rfl e_46_4); unfold In at a3; have a4 := r_46_1; unfold In at a4; have a5 := (inv_F hI 0 1000 rfl e_46_2); unfold In at a5; have a6 := i52; unfold In at a6; have a7 := (in_c 1 rfl); unfold In at a7; have a8 := i90a; unfold In at a8; have a9 := i81c; unfold In at a9; have a10 := i81b; unfold In at a10; have a11 := i81a; unfold In at a11; have a12 := i80; unfold In at a12; have a13 := t_add e80 i52 (in_c 1 rfl) rfl; omega
                      have n101h : (s90.2.2.1 102 4).toInt ≤ (s90.2.2.1 46 4).toInt := by have b0 : z90a = s90.2.2.1 102 4 := e90; have b1 : z81c = s90.2.2.1 46 4 := fr_F (e81b) hF90 rfl; rw [← b0, ← b1]; exact n101g
                      have n101i : (z81b).toInt = 2 → (z81e).toInt ≤ 999999 := by have a0 := (inv_F hI 0 120 rfl e_102_4); unfold In at a0; have a1 := i25x13; unfold In at a1; have a2 := i25x5; unfold In at a2; have a3 := (inv_F hI 0 1000 rfl e_46_4); unfold In at a3; have a4 := r_46_1; unfold In at a4; have a5 := (inv_F hI 0 1000 rfl e_46_2); unfold In at a5; have a6 := i52; unfold In at a6; have a7 := (in_c 1 rfl); unfold In at a7; have a8 := i90a; unfold In at a8; have a9 := i81c; unfold In at a9; have a10 := i81b; unfold In at a10; have a11 := i81a; unfold In at a11; have a12 := i80; unfold In at a12; have a13 := t_add e80 i52 (in_c 1 rfl) rfl; omega
                      have n101j : (s90.2.2.1 46 3).toInt = 2 → (s90.2.2.1 46 5).toInt ≤ 999999 := by have b0 : z81b = s90.2.2.1 46 3 := fr_F (e81a) hF90 rfl; have b1 : z81e = s90.2.2.1 46 5 := fr_F (e81d) hF90 rfl; rw [← b0, ← b1]; exact n101i
                      have n101k : (u_46_4).toInt - (u_102_4).toInt ≤ (z81c).toInt - (z90a).toInt := by have a0 := (inv_F hI 0 120 rfl e_102_4); unfold In at a0; have a1 := i25x13; unfold In at a1; have a2 := i25x5; unfold In at a2; have a3 := (inv_F hI 0 1000 rfl e_46_4); unfold In at a3; have a4 := r_46_1; unfold In at a4; have a5 := (inv_F hI 0 1000 rfl e_46_2); unfold In at a5; have a6 := i52; unfold In at a6; have a7 := (in_c 1 rfl); unfold In at a7; have a8 := i90a; unfold In at a8; have a9 := i81c; unfold In at a9; have a10 := i81b; unfold In at a10; have a11 := i81a; unfold In at a11; have a12 := i80; unfold In at a12; have a13 := t_add e80 i52 (in_c 1 rfl) rfl; omega
                      have n101l : (s.2.2.1 46 4).toInt - (s.2.2.1 102 4).toInt ≤ (s90.2.2.1 46 4).toInt - (s90.2.2.1 102 4).toInt := by have b0 : z81c = s90.2.2.1 46 4 := fr_F (e81b) hF90 rfl; have b1 : z90a = s90.2.2.1 102 4 := e90; rw [← b0, ← b1, ← e_46_4, ← e_102_4]; exact n101k
                      exact g_ireturn (gd rfl) rfl (nb01 (in_w 0 1 (in_c 1 rfl) rfl)) (hP _ _ ⟨s90, hI90, (fr_tr rfl (fr_tr rfl (fr_tr rfl fr_rf hF69) hF81) hF90), n101b, n101d, n101f, n101h, n101j, n101l, (Int32.ofInt 1), rfl, rfl, in_w 0 1 (in_c 1 rfl) rfl, n101⟩)
              · skip
                have i52 := r_le2 10 10 c52 (in_c 10 rfl) h2 rfl
                refine g_aload_n 56 (gd rfl) rfl rfl ?_
                refine g_iconst 3 57 (gd rfl) rfl rfl ?_
                refine g_aload_n 58 (gd rfl) rfl rfl ?_
                refine g_getI 61 (gd rfl) rfl rfl rfl (fun z58 e58 => ?_)
                have q58 : u_46_4 = z58 := (e_46_4).trans e58.symm
                subst q58
                refine g_callv (X := _) (As := [.int (Int32.ofInt 3), .int u_46_4]) (r := []) (b := A 46) (q := 46) 64 (gd rfl) rfl rfl rfl rfl rfl (ww_o rfl) (Nat.le_of_ble_eq_true rfl) (Nat.zero_le _) (Nat.zero_le _) (k_168_46 (by omega) hI (in_w 1 5 (in_c 3 rfl) rfl) (in_w 0 1000 (inv_F hI 0 1000 rfl e_46_4) rfl)) (fun e u h => h) (fun v u h => ?_)
                obtain ⟨s61, hI61, hF61, z61, rfl, rfl, i61⟩ := h
                show GG _ _ _ _ _ _ _ _ [.int z61] _ _ _
                have n64 : (z61).toInt ≠ 0 → PCV s s61 1 := by intro h; unfold In at i61; omega
                have n64a : (u_46_2).toInt ≤ (u_46_1).toInt := by have a0 := (inv_F hI 0 120 rfl e_102_4); unfold In at a0; have a1 := i25x13; unfold In at a1; have a2 := i25x5; unfold In at a2; have a3 := (inv_F hI 0 1000 rfl e_46_4); unfold In at a3; have a4 := r_46_1; unfold In at a4; have a5 := (inv_F hI 0 1000 rfl e_46_2); unfold In at a5; have a6 := i52; unfold In at a6; have a7 := (in_c 1 rfl); unfold In at a7; omega
                have n64b : (s61.2.2.1 46 2).toInt ≤ (s61.2.2.1 46 1).toInt := by have b0 : u_46_2 = s61.2.2.1 46 2 := fr_F (e_46_2) hF61 rfl; have b1 : u_46_1 = s61.2.2.1 46 1 := fr_F (e_46_1) hF61 rfl; rw [← b0, ← b1]; exact n64a
                have n64c : (u_46_3).toInt = 0 ∨ (u_46_4).toInt + 1 ≤ (u_46_2).toInt := by have a0 := (inv_F hI 0 120 rfl e_102_4); unfold In at a0; have a1 := i25x13; unfold In at a1; have a2 := i25x5; unfold In at a2; have a3 := (inv_F hI 0 1000 rfl e_46_4); unfold In at a3; have a4 := r_46_1; unfold In at a4; have a5 := (inv_F hI 0 1000 rfl e_46_2); unfold In at a5; have a6 := i52; unfold In at a6; have a7 := (in_c 1 rfl); unfold In at a7; omega
                have n64d : (s61.2.2.1 46 3).toInt = 0 ∨ (s61.2.2.1 46 4).toInt + 1 ≤ (s61.2.2.1 46 2).toInt := by have b0 : u_46_3 = s61.2.2.1 46 3 := fr_F (e_46_3) hF61 rfl; have b1 : u_46_4 = s61.2.2.1 46 4 := fr_F (e_46_4) hF61 rfl; have b2 : u_46_2 = s61.2.2.1 46 2 := fr_F (e_46_2) hF61 rfl; rw [← b0, ← b1, ← b2]; exact n64c
                have n64e : (u_46_4).toInt ≤ (u_46_2).toInt := by have a0 := (inv_F hI 0 120 rfl e_102_4); unfold In at a0; have a1 := i25x13; unfold In at a1; have a2 := i25x5; unfold In at a2; have a3 := (inv_F hI 0 1000 rfl e_46_4); unfold In at a3; have a4 := r_46_1; unfold In at a4; have a5 := (inv_F hI 0 1000 rfl e_46_2); unfold In at a5; have a6 := i52; unfold In at a6; have a7 := (in_c 1 rfl); unfold In at a7; omega
                have n64f : (s61.2.2.1 46 4).toInt ≤ (s61.2.2.1 46 2).toInt := by have b0 : u_46_4 = s61.2.2.1 46 4 := fr_F (e_46_4) hF61 rfl; have b1 : u_46_2 = s61.2.2.1 46 2 := fr_F (e_46_2) hF61 rfl; rw [← b0, ← b1]; exact n64e
                have n64g : (u_102_4).toInt ≤ (u_46_4).toInt := by have a0 := (inv_F hI 0 120 rfl e_102_4); unfold In at a0; have a1 := i25x13; unfold In at a1; have a2 := i25x5; unfold In at a2; have a3 := (inv_F hI 0 1000 rfl e_46_4); unfold In at a3; have a4 := r_46_1; unfold In at a4; have a5 := (inv_F hI 0 1000 rfl e_46_2); unfold In at a5; have a6 := i52; unfold In at a6; have a7 := (in_c 1 rfl); unfold In at a7; omega
                have n64h : (s61.2.2.1 102 4).toInt ≤ (s61.2.2.1 46 4).toInt := by have b0 : u_102_4 = s61.2.2.1 102 4 := fr_F (e_102_4) hF61 rfl; have b1 : u_46_4 = s61.2.2.1 46 4 := fr_F (e_46_4) hF61 rfl; rw [← b0, ← b1]; exact n64g
                have n64i : (u_46_3).toInt = 2 → (u_46_5).toInt ≤ 999999 := by have a0 := (inv_F hI 0 120 rfl e_102_4); unfold In at a0; have a1 := i25x13; unfold In at a1; have a2 := i25x5; unfold In at a2; have a3 := (inv_F hI 0 1000 rfl e_46_4); unfold In at a3; have a4 := r_46_1; unfold In at a4; have a5 := (inv_F hI 0 1000 rfl e_46_2); unfold In at a5; have a6 := i52; unfold In at a6; have a7 := (in_c 1 rfl); unfold In at a7; omega
                have n64j : (s61.2.2.1 46 3).toInt = 2 → (s61.2.2.1 46 5).toInt ≤ 999999 := by have b0 : u_46_3 = s61.2.2.1 46 3 := fr_F (e_46_3) hF61 rfl; have b1 : u_46_5 = s61.2.2.1 46 5 := fr_F (e_46_5) hF61 rfl; rw [← b0, ← b1]; exact n64i
                have n64k : (u_46_4).toInt - (u_102_4).toInt ≤ (u_46_4).toInt - (u_102_4).toInt := by have a0 := (inv_F hI 0 120 rfl e_102_4); unfold In at a0; have a1 := i25x13; unfold In at a1; have a2 := i25x5; unfold In at a2; have a3 := (inv_F hI 0 1000 rfl e_46_4); unfold In at a3; have a4 := r_46_1; unfold In at a4; have a5 := (inv_F hI 0 1000 rfl e_46_2); unfold In at a5; have a6 := i52; unfold In at a6; have a7 := (in_c 1 rfl); unfold In at a7; omega
                have n64l : (s.2.2.1 46 4).toInt - (s.2.2.1 102 4).toInt ≤ (s61.2.2.1 46 4).toInt - (s61.2.2.1 102 4).toInt := by have b0 : u_46_4 = s61.2.2.1 46 4 := fr_F (e_46_4) hF61 rfl; have b1 : u_102_4 = s61.2.2.1 102 4 := fr_F (e_102_4) hF61 rfl; rw [← b0, ← b1, ← e_46_4, ← e_102_4]; exact n64k
                exact g_ireturn (gd rfl) rfl (nb01 (in_w 0 1 i61 rfl)) (hP _ _ ⟨s61, hI61, (fr_tr rfl fr_rf hF61), n64b, n64d, n64f, n64h, n64j, n64l, z61, rfl, rfl, in_w 0 1 i61 rfl, n64⟩)
            · skip
              exact zn_eq c30 (in_c 1 rfl) rfl
      · skip
        have i13 := r_eq1 1 1 c13 (inv_F hI 0 5 rfl e_46_3) (in_c 1 rfl) rfl
        refine g_aload_n 17 (gd rfl) rfl rfl ?_
        refine g_aload_n 18 (gd rfl) rfl rfl ?_
        have n18 : (u_46_2).toInt ≤ (u_46_1).toInt := by have a0 := (inv_F hI 0 120 rfl e_102_4); unfold In at a0; have a1 := i13; unfold In at a1; have a2 := (inv_F hI 0 1000 rfl e_46_4); unfold In at a2; have a3 := r_46_1; unfold In at a3; have a4 := (inv_F hI 0 1000 rfl e_46_2); unfold In at a4; have a5 := h2; unfold In at a5; omega
        have n18a : (u_46_3).toInt = 0 ∨ (u_46_4).toInt + 1 ≤ (u_46_2).toInt := by have a0 := (inv_F hI 0 120 rfl e_102_4); unfold In at a0; have a1 := i13; unfold In at a1; have a2 := (inv_F hI 0 1000 rfl e_46_4); unfold In at a2; have a3 := r_46_1; unfold In at a3; have a4 := (inv_F hI 0 1000 rfl e_46_2); unfold In at a4; have a5 := h2; unfold In at a5; omega
        have n18b : (u_46_4).toInt ≤ (u_46_2).toInt := by have a0 := (inv_F hI 0 120 rfl e_102_4); unfold In at a0; have a1 := i13; unfold In at a1; have a2 := (inv_F hI 0 1000 rfl e_46_4); unfold In at a2; have a3 := r_46_1; unfold In at a3; have a4 := (inv_F hI 0 1000 rfl e_46_2); unfold In at a4; have a5 := h2; unfold In at a5; omega
        have n18c : (u_102_4).toInt ≤ (u_46_4).toInt := by have a0 := (inv_F hI 0 120 rfl e_102_4); unfold In at a0; have a1 := i13; unfold In at a1; have a2 := (inv_F hI 0 1000 rfl e_46_4); unfold In at a2; have a3 := r_46_1; unfold In at a3; have a4 := (inv_F hI 0 1000 rfl e_46_2); unfold In at a4; have a5 := h2; unfold In at a5; omega
        have n18d : (u_46_3).toInt = 2 → (u_46_5).toInt ≤ 999999 := by have a0 := (inv_F hI 0 120 rfl e_102_4); unfold In at a0; have a1 := i13; unfold In at a1; have a2 := (inv_F hI 0 1000 rfl e_46_4); unfold In at a2; have a3 := r_46_1; unfold In at a3; have a4 := (inv_F hI 0 1000 rfl e_46_2); unfold In at a4; have a5 := h2; unfold In at a5; omega
        have n18e : (u_46_3).toInt = 1 ∨ (u_46_3).toInt = 2 := by have a0 := (inv_F hI 0 120 rfl e_102_4); unfold In at a0; have a1 := i13; unfold In at a1; have a2 := (inv_F hI 0 1000 rfl e_46_4); unfold In at a2; have a3 := r_46_1; unfold In at a3; have a4 := (inv_F hI 0 1000 rfl e_46_2); unfold In at a4; have a5 := h2; unfold In at a5; omega
        refine g_callv (X := _) (As := [.ref (A 46)]) (r := []) (b := A 102) (q := 102) 21 (gd rfl) rfl rfl rfl rfl rfl (ww_o rfl) (Nat.le_of_ble_eq_true rfl) (Nat.zero_le _) (Nat.zero_le _) (k_62_102_46 (by omega) hI e_46_2 e_46_1 e_46_4 e_46_3 e_46_5 e_102_4 (in_w 0 120 r_46_1 rfl) n18 n18a n18b n18c n18d n18e) (fun e u h => h) (fun v u h => ?_)
        obtain ⟨s18, hI18, hF18, n18f, n18g, n18h, n18i, n18j, n18k, z18, rfl, rfl, i18, p18⟩ := h
        obtain ⟨z18a, e18⟩ : ∃ w, w = s18.2.2.1 46 2 := ⟨_, rfl⟩
        have i18a := inv_F hI18 0 1000 rfl e18
        obtain ⟨z18b, e18a⟩ : ∃ w, w = s18.2.2.1 46 3 := ⟨_, rfl⟩
        have i18b := inv_F hI18 0 5 rfl e18a
        obtain ⟨z18c, e18b⟩ : ∃ w, w = s18.2.2.1 46 4 := ⟨_, rfl⟩
        have i18c := inv_F hI18 0 1000 rfl e18b
        obtain ⟨z18d, e18c⟩ : ∃ w, w = s18.2.2.1 102 4 := ⟨_, rfl⟩
        have i18d := inv_F hI18 0 120 rfl e18c
        obtain ⟨z18e, e18d⟩ : ∃ w, w = s18.2.2.1 46 5 := ⟨_, rfl⟩
        rw [← (show z18a = s18.2.2.1 46 2 from e18)] at n18f
        rw [← (show u_46_1 = s18.2.2.1 46 1 from fr_F (e_46_1) hF18 rfl)] at n18f
        rw [← (show z18a = s18.2.2.1 46 2 from e18)] at n18g
        rw [← (show z18b = s18.2.2.1 46 3 from e18a)] at n18g
        rw [← (show z18c = s18.2.2.1 46 4 from e18b)] at n18g
        rw [← (show z18a = s18.2.2.1 46 2 from e18)] at n18h
        rw [← (show z18c = s18.2.2.1 46 4 from e18b)] at n18h
        rw [← (show z18c = s18.2.2.1 46 4 from e18b)] at n18i
        rw [← (show z18d = s18.2.2.1 102 4 from e18c)] at n18i
        rw [← (show z18b = s18.2.2.1 46 3 from e18a)] at n18j
        rw [← (show z18e = s18.2.2.1 46 5 from e18d)] at n18j
        rw [← (show u_46_4 = s.2.2.1 46 4 from e_46_4)] at n18k
        rw [← (show u_102_4 = s.2.2.1 102 4 from e_102_4)] at n18k
        rw [← (show z18c = s18.2.2.1 46 4 from e18b)] at n18k
        rw [← (show z18d = s18.2.2.1 102 4 from e18c)] at n18k
        show GG _ _ _ _ _ _ _ _ [.int z18] _ _ _
        have n21 : (z18).toInt ≠ 0 → PCV s s18 1 := by exact p18
        have n21a : (z18a).toInt ≤ (u_46_1).toInt := by have a0 := (inv_F hI 0 120 rfl e_102_4); unfold In at a0; have a1 := i13; unfold In at a1; have a2 := (inv_F hI 0 1000 rfl e_46_4); unfold In at a2; have a3 := r_46_1; unfold In at a3; have a4 := (inv_F hI 0 1000 rfl e_46_2); unfold In at a4; have a5 := h2; unfold In at a5; have a6 := i18d; unfold In at a6; have a7 := i18c; unfold In at a7; have a8 := i18b; unfold In at a8; have a9 := i18a; unfold In at a9; omega
        have n21b : (s18.2.2.1 46 2).toInt ≤ (s18.2.2.1 46 1).toInt := by have b0 : z18a = s18.2.2.1 46 2 := e18; have b1 : u_46_1 = s18.2.2.1 46 1 := fr_F (e_46_1) hF18 rfl; rw [← b0, ← b1]; exact n21a
        have n21c : (z18b).toInt = 0 ∨ (z18c).toInt + 1 ≤ (z18a).toInt := by have a0 := (inv_F hI 0 120 rfl e_102_4); unfold In at a0; have a1 := i13; unfold In at a1; have a2 := (inv_F hI 0 1000 rfl e_46_4); unfold In at a2; have a3 := r_46_1; unfold In at a3; have a4 := (inv_F hI 0 1000 rfl e_46_2); unfold In at a4; have a5 := h2; unfold In at a5; have a6 := i18d; unfold In at a6; have a7 := i18c; unfold In at a7; have a8 := i18b; unfold In at a8; have a9 := i18a; unfold In at a9; omega
        have n21d : (s18.2.2.1 46 3).toInt = 0 ∨ (s18.2.2.1 46 4).toInt + 1 ≤ (s18.2.2.1 46 2).toInt := by have b0 : z18b = s18.2.2.1 46 3 := e18a; have b1 : z18c = s18.2.2.1 46 4 := e18b; have b2 : z18a = s18.2.2.1 46 2 := e18; rw [← b0, ← b1, ← b2]; exact n21c
        have n21e : (z18c).toInt ≤ (z18a).toInt := by have a0 := (inv_F hI 0 120 rfl e_102_4); unfold In at a0; have a1 := i13; unfold In at a1; have a2 := (inv_F hI 0 1000 rfl e_46_4); unfold In at a2; have a3 := r_46_1; unfold In at a3; have a4 := (inv_F hI 0 1000 rfl e_46_2); unfold In at a4; have a5 := h2; unfold In at a5; have a6 := i18d; unfold In at a6; have a7 := i18c; unfold In at a7; have a8 := i18b; unfold In at a8; have a9 := i18a; unfold In at a9; omega
        have n21f : (s18.2.2.1 46 4).toInt ≤ (s18.2.2.1 46 2).toInt := by have b0 : z18c = s18.2.2.1 46 4 := e18b; have b1 : z18a = s18.2.2.1 46 2 := e18; rw [← b0, ← b1]; exact n21e
        have n21g : (z18d).toInt ≤ (z18c).toInt := by have a0 := (inv_F hI 0 120 rfl e_102_4); unfold In at a0; have a1 := i13; unfold In at a1; have a2 := (inv_F hI 0 1000 rfl e_46_4); unfold In at a2; have a3 := r_46_1; unfold In at a3; have a4 := (inv_F hI 0 1000 rfl e_46_2); unfold In at a4; have a5 := h2; unfold In at a5; have a6 := i18d; unfold In at a6; have a7 := i18c; unfold In at a7; have a8 := i18b; unfold In at a8; have a9 := i18a; unfold In at a9; omega
        have n21h : (s18.2.2.1 102 4).toInt ≤ (s18.2.2.1 46 4).toInt := by have b0 : z18d = s18.2.2.1 102 4 := e18c; have b1 : z18c = s18.2.2.1 46 4 := e18b; rw [← b0, ← b1]; exact n21g
        have n21i : (z18b).toInt = 2 → (z18e).toInt ≤ 999999 := by have a0 := (inv_F hI 0 120 rfl e_102_4); unfold In at a0; have a1 := i13; unfold In at a1; have a2 := (inv_F hI 0 1000 rfl e_46_4); unfold In at a2; have a3 := r_46_1; unfold In at a3; have a4 := (inv_F hI 0 1000 rfl e_46_2); unfold In at a4; have a5 := h2; unfold In at a5; have a6 := i18d; unfold In at a6; have a7 := i18c; unfold In at a7; have a8 := i18b; unfold In at a8; have a9 := i18a; unfold In at a9; omega
        have n21j : (s18.2.2.1 46 3).toInt = 2 → (s18.2.2.1 46 5).toInt ≤ 999999 := by have b0 : z18b = s18.2.2.1 46 3 := e18a; have b1 : z18e = s18.2.2.1 46 5 := e18d; rw [← b0, ← b1]; exact n21i
        have n21k : (u_46_4).toInt - (u_102_4).toInt ≤ (z18c).toInt - (z18d).toInt := by have a0 := (inv_F hI 0 120 rfl e_102_4); unfold In at a0; have a1 := i13; unfold In at a1; have a2 := (inv_F hI 0 1000 rfl e_46_4); unfold In at a2; have a3 := r_46_1; unfold In at a3; have a4 := (inv_F hI 0 1000 rfl e_46_2); unfold In at a4; have a5 := h2; unfold In at a5; have a6 := i18d; unfold In at a6; have a7 := i18c; unfold In at a7; have a8 := i18b; unfold In at a8; have a9 := i18a; unfold In at a9; omega
        have n21l : (s.2.2.1 46 4).toInt - (s.2.2.1 102 4).toInt ≤ (s18.2.2.1 46 4).toInt - (s18.2.2.1 102 4).toInt := by have b0 : z18c = s18.2.2.1 46 4 := e18b; have b1 : z18d = s18.2.2.1 102 4 := e18c; rw [← b0, ← b1, ← e_46_4, ← e_102_4]; exact n21k
        exact g_ireturn (gd rfl) rfl (nb01 (in_w 0 1 i18 rfl)) (hP _ _ ⟨s18, hI18, (fr_tr rfl fr_rf hF18), n21b, n21d, n21f, n21h, n21j, n21l, z18, rfl, rfl, in_w 0 1 i18 rfl, n21⟩)
theorem k_58_102_46 {Z : AmZ} {A : Nat → Nat} {s : GS} {ex : va_W} {d : Nat} {X : AmX} {x2 : Int32} {u_46_2 : Int32} {u_46_1 : Int32} {u_46_4 : Int32} {u_46_3 : Int32} {u_46_5 : Int32} {u_102_4 : Int32} (hd : 295 ≤ d) (hI : Inv s) (h2 : In x2 0 10) (e_46_2 : u_46_2 = s.2.2.1 46 2) (e_46_1 : u_46_1 = s.2.2.1 46 1) (e_46_4 : u_46_4 = s.2.2.1 46 4) (e_46_3 : u_46_3 = s.2.2.1 46 3) (e_46_5 : u_46_5 = s.2.2.1 46 5) (e_102_4 : u_102_4 = s.2.2.1 102 4) (r_46_1 : In u_46_1 0 120) (p_0 : (u_46_2).toInt ≤ (u_46_1).toInt) (p_1 : (u_46_3).toInt = 0 ∨ (u_46_4).toInt + 1 ≤ (u_46_2).toInt) (p_2 : (u_46_4).toInt ≤ (u_46_2).toInt) (p_3 : (u_102_4).toInt ≤ (u_46_4).toInt) (p_4 : (u_46_3).toInt = 2 → (u_46_5).toInt ≤ 999999) : GC Z d 58 [.ref (A 102), .ref (A 46), .int x2] (WW Z A s ++ ex) 0 0 (fun v u => ∃ t : GS, Inv t ∧ Fr fm_58_102_46 s t ∧ ((t.2.2.1 46 2).toInt ≤ (t.2.2.1 46 1).toInt) ∧ ((t.2.2.1 46 3).toInt = 0 ∨ (t.2.2.1 46 4).toInt + 1 ≤ (t.2.2.1 46 2).toInt) ∧ ((t.2.2.1 46 4).toInt ≤ (t.2.2.1 46 2).toInt) ∧ ((t.2.2.1 102 4).toInt ≤ (t.2.2.1 46 4).toInt) ∧ ((t.2.2.1 46 3).toInt = 2 → (t.2.2.1 46 5).toInt ≤ 999999) ∧ ((s.2.2.1 46 4).toInt - (s.2.2.1 102 4).toInt ≤ (t.2.2.1 46 4).toInt - (t.2.2.1 102 4).toInt) ∧ ∃ z : Int32, v = some (.int z) ∧ u = WW Z A t ++ ex ∧ In z 0 1 ∧ ((z).toInt ≠ 0 → PCV s t 1)) X := (k_58_102_46_r 11 (k_59_102_46_r 11 (k_60_102_46_r 11 (k_61_102_46_r 11)))) (by omega) hI h2 e_46_2 e_46_1 e_46_4 e_46_3 e_46_5 e_102_4 r_46_1 p_0 p_1 p_2 p_3 p_4 (m_in 11 h2 rfl)
