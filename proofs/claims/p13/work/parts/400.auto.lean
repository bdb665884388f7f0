/-! methods, by vc.py -/
/-- GraphHouseModel.count -/
theorem k_336 {Z : AmZ} {A : Nat → Nat} {s : GS} {ex : va_W} {d : Nat} {X : AmX} {x0 : Int32} (hd : 1 ≤ d) (hI : Inv s)  : GC Z d 336 [.int x0] (WW Z A s ++ ex) 0 0 (fun v u => ∃ z : Int32, v = some (.int z) ∧ u = WW Z A s ++ ex ∧ In z 0 32 ∧ ((z).toInt = (cb (x0) : Int))) X := by
  intro post xp hP hX
  have ct4 : ∀ (k4 : Nat) (y4_1 : Int32) (y4_2 : Int32), (In y4_1 0 32) → (In y4_2 0 32) → ((y4_1).toInt ≤ (y4_2).toInt) → ((y4_1).toInt = (cbf (bt (x0)) (y4_2).toNatClampNeg : Int)) → 32 - (y4_2).toInt < (k4 : Int) → GG Z (d - 1) 336 post (gx xp) (1 + k4 * 900) 4 (fun j => xlook j [(0, .int x0), (1, .int y4_1), (2, .int y4_2)]) [] (WW Z A s ++ ex) 0 0 := by
    intro k4
    induction k4 with
    | zero => intro y4_1 y4_2 j4_1 j4_2 n4_0 g4_0 mm4; exact m_no mm4 j4_2 rfl
    | succ k4 ih4 =>
      intro y4_1 y4_2 j4_1 j4_2 n4_0 g4_0 mm4
      refine gg_w (M := 1 + k4 * 900 + 900) (by omega) ?_
      refine g_iload_n 5 (gd rfl) rfl rfl ?_
      refine g_bipush 32 7 (gd rfl) rfl rfl ?_
      refine g_cmp_ge 10 24 (gd rfl) rfl rfl (fun c7 => ?_) (fun c7 => ?_)
      · skip
        have i7 := r_le2 32 32 c7 (in_c 32 rfl) j4_2 rfl
        refine g_iload_n 25 (gd rfl) rfl rfl ?_
        have n25 : (y4_1).toInt = (cb (x0) : Int) := by have h := g4_0; rw [show y4_2.toNatClampNeg = 32 from (by show y4_2.toInt.toNat = 32; have a0 := i7; unfold In at a0; have a1 := j4_1; unfold In at a1; omega)] at h; exact h
        exact g_ireturn (gd rfl) rfl rfl (hP _ _ ⟨y4_1, rfl, rfl, in_w 0 32 j4_1 rfl, n25⟩)
      · skip
        have i7 := r_lt1 0 31 c7 j4_2 (in_c 32 rfl) rfl
        refine g_iload_n 11 (gd rfl) rfl rfl ?_
        refine g_iload_n 12 (gd rfl) rfl rfl ?_
        refine g_iload_n 13 (gd rfl) rfl rfl ?_
        refine g_ishr 14 (gd rfl) rfl (fun z13 e13 => ?_)
        refine g_iconst 1 15 (gd rfl) rfl rfl ?_
        refine g_iand 16 (gd rfl) rfl (fun z15 e15 => ?_)
        have i15 := in_and2 e15 (in_c 1 rfl) rfl
        refine g_iadd 17 (gd rfl) rfl (fun z16 e16 => ?_)
        have i16 := in_add 0 33 e16 j4_1 i15 rfl rfl
        refine g_istore_n 18 (gd rfl) rfl (Nat.le_of_ble_eq_true rfl) ?_
        refine g_iinc 21 (gd rfl) rfl rfl (Nat.le_of_ble_eq_true rfl) (fun z18 e18 => ?_)
        have i18 := in_add 1 32 e18 i7 (in_c 1 rfl) rfl rfl
        refine g_goto 4 (gd rfl) rfl ?_
        have i4 : In z16 0 32 := by exact ⟨by have a0 := i7; unfold In at a0; have a1 := j4_1; unfold In at a1; have a2 := i18; unfold In at a2; have a3 := t_add e18 i7 (in_c 1 rfl) rfl; have a4 := (in_c 1 rfl); unfold In at a4; have a5 := i16; unfold In at a5; have a6 := t_add e16 j4_1 i15 rfl; have a7 := i15; unfold In at a7; omega, by have a0 := i7; unfold In at a0; have a1 := j4_1; unfold In at a1; have a2 := i18; unfold In at a2; have a3 := t_add e18 i7 (in_c 1 rfl) rfl; have a4 := (in_c 1 rfl); unfold In at a4; have a5 := i16; unfold In at a5; have a6 := t_add e16 j4_1 i15 rfl; have a7 := i15; unfold In at a7; omega⟩
        have n4 : (z16).toInt ≤ (z18).toInt := by have a0 := i7; unfold In at a0; have a1 := j4_1; unfold In at a1; have a2 := i18; unfold In at a2; have a3 := t_add e18 i7 (in_c 1 rfl) rfl; have a4 := (in_c 1 rfl); unfold In at a4; have a5 := i4; unfold In at a5; have a6 := t_add e16 j4_1 i15 rfl; have a7 := i15; unfold In at a7; omega
        have n4a : (z16).toInt = (cbf (bt (x0)) (z18).toNatClampNeg : Int) := by rw [show z18.toNatClampNeg = y4_2.toNatClampNeg + 1 from (by show z18.toInt.toNat = y4_2.toInt.toNat + 1; have a0 := i7; unfold In at a0; have a1 := j4_1; unfold In at a1; have a2 := i18; unfold In at a2; have a3 := t_add e18 i7 (in_c 1 rfl) rfl; have a4 := (in_c 1 rfl); unfold In at a4; have a5 := i4; unfold In at a5; have a6 := t_add e16 j4_1 i15 rfl; have a7 := i15; unfold In at a7; omega), cbf_s, ← g4_0, show z16.toInt = y4_1.toInt + z15.toInt from (by have a0 := i7; unfold In at a0; have a1 := j4_1; unfold In at a1; have a2 := i18; unfold In at a2; have a3 := t_add e18 i7 (in_c 1 rfl) rfl; have a4 := (in_c 1 rfl); unfold In at a4; have a5 := i4; unfold In at a5; have a6 := t_add e16 j4_1 i15 rfl; have a7 := i15; unfold In at a7; omega), bt_ask e13 e15 i7]
        exact gg_w (by omega) (gg_f (gf_cons rfl (gf_cons rfl (gf_cons rfl gf_nil))) (ih4  z16 z18  i4 (in_w 0 32 i18 rfl) n4 n4a (m_up mm4 (t_add e18 i7 (in_c 1 rfl) rfl) (in_w 1 1 (in_c 1 rfl) rfl))))
  refine g_enter2 (k := 336) (N := 30601) (by omega) rfl (Nat.le_of_ble_eq_true rfl) ?_
  refine g_iconst 0 1 (gd rfl) rfl rfl ?_
  refine g_istore_n 2 (gd rfl) rfl (Nat.le_of_ble_eq_true rfl) ?_
  refine g_iconst 0 3 (gd rfl) rfl rfl ?_
  refine g_istore_n 4 (gd rfl) rfl (Nat.le_of_ble_eq_true rfl) ?_
  have n4 : ((Int32.ofInt 0)).toInt ≤ ((Int32.ofInt 0)).toInt := by have a0 := (in_c 0 rfl); unfold In at a0; omega
  have n4a : ((Int32.ofInt 0)).toInt = (cbf (bt (x0)) ((Int32.ofInt 0)).toNatClampNeg : Int) := by rfl
  exact gg_w (by omega) (gg_f (gf_cons rfl (gf_cons rfl (gf_cons rfl gf_nil))) (ct4 33  (Int32.ofInt 0) (Int32.ofInt 0)  (in_w 0 32 (in_c 0 rfl) rfl) (in_w 0 32 (in_c 0 rfl) rfl) n4 n4a (m_in 33 (in_w 0 32 (in_c 0 rfl) rfl) rfl)))

/-- GraphHouseModel.barsOf -/
theorem k_339 {Z : AmZ} {A : Nat → Nat} {s : GS} {ex : va_W} {d : Nat} {X : AmX} {x1 : Int32} (hd : 3 ≤ d) (hI : Inv s) (h1 : In x1 0 31) : GC Z d 339 [.ref (A 109), .int x1] (WW Z A s ++ ex) 0 0 (fun v u => ∃ z : Int32, v = some (.int z) ∧ u = WW Z A s ++ ex ∧ In z (-2147483648) 2147483647 ∧ (BAR s (x1).toNatClampNeg (s.2.2.1 109 20).toInt (z))) X := by
  intro post xp hP hX
  obtain ⟨u_109_20, e_109_20⟩ : ∃ w, w = s.2.2.1 109 20 := ⟨_, rfl⟩
  have ro_109_20 := inv_F hI 0 32 rfl e_109_20
  have ct4 : ∀ (k4 : Nat) (y4_2 : Int32) (y4_3 : Int32), (In y4_3 0 32) → ((y4_3).toInt ≤ (u_109_20).toInt) → (BAR s (x1).toNatClampNeg (y4_3).toInt (y4_2)) → 32 - (y4_3).toInt < (k4 : Int) → GG Z (d - 1) 339 post (gx xp) (1 + k4 * 900) 4 (fun j => xlook j [(0, .ref (A 109)), (1, .int x1), (2, .int y4_2), (3, .int y4_3)]) [] (WW Z A s ++ ex) 0 0 := by
    intro k4
    induction k4 with
    | zero => intro y4_2 y4_3 j4_3 n4_0 g4_0 mm4; exact m_no mm4 j4_3 rfl
    | succ k4 ih4 =>
      intro y4_2 y4_3 j4_3 n4_0 g4_0 mm4
      refine gg_w (M := 1 + k4 * 900 + 900) (by omega) ?_
      refine g_iload_n 5 (gd rfl) rfl rfl ?_
      refine g_aload_n 6 (gd rfl) rfl rfl ?_
      refine g_getI 9 (gd rfl) rfl rfl rfl (fun z6 e6 => ?_)
      have q6 : u_109_20 = z6 := (e_109_20).trans e6.symm
      subst q6
      refine g_cmp_ge 12 55 (gd rfl) rfl rfl (fun c9 => ?_) (fun c9 => ?_)
      · skip
        refine g_iload_n 56 (gd rfl) rfl rfl ?_
        have n56 : BAR s (x1).toNatClampNeg (s.2.2.1 109 20).toInt (y4_2) := by have h := g4_0; rw [show y4_3.toInt = (s.2.2.1 109 20).toInt from (by rw [← e_109_20]; have a0 := h1; unfold In at a0; have a1 := ro_109_20; unfold In at a1; have a2 := j4_3; unfold In at a2; omega)] at h; exact h
        exact g_ireturn (gd rfl) rfl rfl (hP _ _ ⟨y4_2, rfl, rfl, in_w (-2147483648) 2147483647 (i_rng y4_2) rfl, n56⟩)
      · skip
        have i9 := r_lt1 0 31 c9 j4_3 ro_109_20 rfl
        have i9a := r_lt2 1 32 c9 j4_3 ro_109_20 rfl
        refine g_iload_n 13 (gd rfl) rfl rfl ?_
        refine g_aload_n 14 (gd rfl) rfl rfl ?_
        refine g_getA (q2 := 138) 17 (gd rfl) rfl rfl rfl rfl ?_
        refine g_iload_n 18 (gd rfl) rfl rfl ?_
        refine g_iaload 19 (gd rfl) rfl (n := 32) rfl (in_ix h1 rfl) (fun z18 e18 => ?_)
        refine g_iload_n 20 (gd rfl) rfl rfl ?_
        refine g_calls (As := [.int z18, .int y4_3]) (r := [.int y4_2]) 23 (gd rfl) rfl rfl rfl rfl rfl (Nat.le_of_ble_eq_true rfl) (mc := 0) (ms := 0) (Nat.zero_le _) (Nat.zero_le _) (P := fun v u => _) ?_ (fun v u h => h)
        intro po20 xx20 hp20 hx20
        refine g_enter2 (k := 311) (N := 300) (by omega) rfl (Nat.le_of_ble_eq_true rfl) ?_
        refine g_iload_n 1 (gd rfl) rfl rfl ?_
        refine g_iload_n 2 (gd rfl) rfl rfl ?_
        refine g_ishr 3 (gd rfl) rfl (fun z20x2 e20x2 => ?_)
        refine g_iconst 1 4 (gd rfl) rfl rfl ?_
        refine g_iand 5 (gd rfl) rfl (fun z20x4 e20x4 => ?_)
        have i20x4 := in_and2 e20x4 (in_c 1 rfl) rfl
        refine g_iconst 1 6 (gd rfl) rfl rfl ?_
        refine g_cmp_ne 9 13 (gd rfl) rfl rfl (fun c20x6 => ?_) (fun c20x6 => ?_)
        · skip
          have i20x6 := r_ne1 0 0 c20x6 i20x4 (in_c 1 rfl) rfl
          refine g_iconst 0 14 (gd rfl) rfl rfl ?_
          refine g_ireturn (gd rfl) rfl (nb01 (in_w 0 1 (in_c 0 rfl) rfl)) (hp20 _ _ ?_)
          show GG _ _ _ _ _ _ _ _ [.int (Int32.ofInt 0), .int y4_2] _ _ _
          refine g_if_eq 26 46 (gd rfl) rfl rfl (fun c23 => ?_) (fun c23 => ?_)
          · skip
            refine g_iconst 0 47 (gd rfl) rfl rfl ?_
            refine g_ior 48 (gd rfl) rfl (fun z47 e47 => ?_)
            refine g_istore_n 49 (gd rfl) rfl (Nat.le_of_ble_eq_true rfl) ?_
            refine g_iinc 52 (gd rfl) rfl rfl (Nat.le_of_ble_eq_true rfl) (fun z49 e49 => ?_)
            have i49 := in_add 1 32 e49 i9 (in_c 1 rfl) rfl rfl
            refine g_goto 4 (gd rfl) rfl ?_
            have n4 : (z49).toInt ≤ (u_109_20).toInt := by have a0 := h1; unfold In at a0; have a1 := i9a; unfold In at a1; have a2 := i9; unfold In at a2; have a3 := i49; unfold In at a3; have a4 := t_add e49 i9 (in_c 1 rfl) rfl; have a5 := (in_c 1 rfl); unfold In at a5; omega
            have n4a : BAR s (x1).toNatClampNeg (z49).toInt (z47) := by exact bar_no g4_0 (by have a0 := h1; unfold In at a0; have a1 := i9a; unfold In at a1; have a2 := i9; unfold In at a2; have a3 := i49; unfold In at a3; have a4 := t_add e49 i9 (in_c 1 rfl) rfl; have a5 := (in_c 1 rfl); unfold In at a5; omega) (by have a0 := h1; unfold In at a0; have a1 := i9a; unfold In at a1; have a2 := i9; unfold In at a2; have a3 := i49; unfold In at a3; have a4 := t_add e49 i9 (in_c 1 rfl) rfl; have a5 := (in_c 1 rfl); unfold In at a5; omega) (fun h _ => by have hb := bt_no e20x2 e20x4 i9 c20x6; rw [e18, h] at hb; cases hb) e47
            exact gg_w (by omega) (gg_f (gf_cons rfl (gf_cons rfl (gf_cons rfl (gf_cons rfl gf_nil)))) (ih4  z47 z49  (in_w 0 32 i49 rfl) n4 n4a (m_up mm4 (t_add e49 i9 (in_c 1 rfl) rfl) (in_w 1 1 (in_c 1 rfl) rfl))))
          · skip
            exact zn_ne c23 (in_c 0 rfl) rfl
        · skip
          have i20x6 := r_eq1 1 1 c20x6 i20x4 (in_c 1 rfl) rfl
          refine g_iconst 1 10 (gd rfl) rfl rfl ?_
          refine g_goto 14 (gd rfl) rfl ?_
          refine g_ireturn (gd rfl) rfl (nb01 (in_w 0 1 (in_c 1 rfl) rfl)) (hp20 _ _ ?_)
          show GG _ _ _ _ _ _ _ _ [.int (Int32.ofInt 1), .int y4_2] _ _ _
          refine g_if_eq 26 46 (gd rfl) rfl rfl (fun c23 => ?_) (fun c23 => ?_)
          · skip
            exact zn_eq c23 (in_c 1 rfl) rfl
          · skip
            refine g_aload_n 27 (gd rfl) rfl rfl ?_
            refine g_getA (q2 := 142) 30 (gd rfl) rfl rfl rfl rfl ?_
            refine g_iload_n 31 (gd rfl) rfl rfl ?_
            refine g_iaload 32 (gd rfl) rfl (n := 32) rfl (in_ix i9 rfl) (fun z31 e31 => ?_)
            have i31 := inv_I hI (n := 32) (t := 0) (-2147483648) 31 rfl (in_ix i9 rfl) rfl e31
            refine g_if_lt 35 46 (gd rfl) rfl rfl (fun c32 => ?_) (fun c32 => ?_)
            · skip
              have i32 := z_lt (-2147483648) (-1) c32 i31 rfl
              refine g_iconst 0 47 (gd rfl) rfl rfl ?_
              refine g_ior 48 (gd rfl) rfl (fun z47 e47 => ?_)
              refine g_istore_n 49 (gd rfl) rfl (Nat.le_of_ble_eq_true rfl) ?_
              refine g_iinc 52 (gd rfl) rfl rfl (Nat.le_of_ble_eq_true rfl) (fun z49 e49 => ?_)
              have i49 := in_add 1 32 e49 i9 (in_c 1 rfl) rfl rfl
              refine g_goto 4 (gd rfl) rfl ?_
              have n4 : (z49).toInt ≤ (u_109_20).toInt := by have a0 := h1; unfold In at a0; have a1 := i9a; unfold In at a1; have a2 := i9; unfold In at a2; have a3 := i49; unfold In at a3; have a4 := t_add e49 i9 (in_c 1 rfl) rfl; have a5 := (in_c 1 rfl); unfold In at a5; omega
              have n4a : BAR s (x1).toNatClampNeg (z49).toInt (z47) := by exact bar_no g4_0 (by have a0 := h1; unfold In at a0; have a1 := i9a; unfold In at a1; have a2 := i9; unfold In at a2; have a3 := i49; unfold In at a3; have a4 := t_add e49 i9 (in_c 1 rfl) rfl; have a5 := (in_c 1 rfl); unfold In at a5; omega) (by have a0 := h1; unfold In at a0; have a1 := i9a; unfold In at a1; have a2 := i9; unfold In at a2; have a3 := i49; unfold In at a3; have a4 := t_add e49 i9 (in_c 1 rfl) rfl; have a5 := (in_c 1 rfl); unfold In at a5; omega) (fun _ h => by rw [← e31] at h; have hc := c32; omega) e47
              exact gg_w (by omega) (gg_f (gf_cons rfl (gf_cons rfl (gf_cons rfl (gf_cons rfl gf_nil)))) (ih4  z47 z49  (in_w 0 32 i49 rfl) n4 n4a (m_up mm4 (t_add e49 i9 (in_c 1 rfl) rfl) (in_w 1 1 (in_c 1 rfl) rfl))))
            · skip
              have i32 := z_ge 0 31 c32 i31 rfl
              refine g_iconst 1 36 (gd rfl) rfl rfl ?_
              refine g_aload_n 37 (gd rfl) rfl rfl ?_
              refine g_getA (q2 := 142) 40 (gd rfl) rfl rfl rfl rfl ?_
              refine g_iload_n 41 (gd rfl) rfl rfl ?_
              refine g_iaload 42 (gd rfl) rfl (n := 32) rfl (in_ix i9 rfl) (fun z41 e41 => ?_)
              have q41 : z31 = z41 := (e31).trans e41.symm
              subst q41
              refine g_ishl 43 (gd rfl) rfl (fun z42 e42 => ?_)
              refine g_goto 47 (gd rfl) rfl ?_
              refine g_ior 48 (gd rfl) rfl (fun z47 e47 => ?_)
              refine g_istore_n 49 (gd rfl) rfl (Nat.le_of_ble_eq_true rfl) ?_
              refine g_iinc 52 (gd rfl) rfl rfl (Nat.le_of_ble_eq_true rfl) (fun z49 e49 => ?_)
              have i49 := in_add 1 32 e49 i9 (in_c 1 rfl) rfl rfl
              refine g_goto 4 (gd rfl) rfl ?_
              have n4 : (z49).toInt ≤ (u_109_20).toInt := by have a0 := h1; unfold In at a0; have a1 := i9a; unfold In at a1; have a2 := i9; unfold In at a2; have a3 := i49; unfold In at a3; have a4 := t_add e49 i9 (in_c 1 rfl) rfl; have a5 := (in_c 1 rfl); unfold In at a5; omega
              have n4a : BAR s (x1).toNatClampNeg (z49).toInt (z47) := by exact bar_yes g4_0 (by have a0 := h1; unfold In at a0; have a1 := i9a; unfold In at a1; have a2 := i9; unfold In at a2; have a3 := i49; unfold In at a3; have a4 := t_add e49 i9 (in_c 1 rfl) rfl; have a5 := (in_c 1 rfl); unfold In at a5; omega) (by have a0 := h1; unfold In at a0; have a1 := i9a; unfold In at a1; have a2 := i9; unfold In at a2; have a3 := i49; unfold In at a3; have a4 := t_add e49 i9 (in_c 1 rfl) rfl; have a5 := (in_c 1 rfl); unfold In at a5; omega) (by rw [← e18]; exact bt_yes e20x2 e20x4 i9 c20x6) e31 i32 e42 e47
              exact gg_w (by omega) (gg_f (gf_cons rfl (gf_cons rfl (gf_cons rfl (gf_cons rfl gf_nil)))) (ih4  z47 z49  (in_w 0 32 i49 rfl) n4 n4a (m_up mm4 (t_add e49 i9 (in_c 1 rfl) rfl) (in_w 1 1 (in_c 1 rfl) rfl))))
  refine g_enter2 (k := 339) (N := 30601) (by omega) rfl (Nat.le_of_ble_eq_true rfl) ?_
  refine g_iconst 0 1 (gd rfl) rfl rfl ?_
  refine g_istore_n 2 (gd rfl) rfl (Nat.le_of_ble_eq_true rfl) ?_
  refine g_iconst 0 3 (gd rfl) rfl rfl ?_
  refine g_istore_n 4 (gd rfl) rfl (Nat.le_of_ble_eq_true rfl) ?_
  have n4 : ((Int32.ofInt 0)).toInt ≤ (u_109_20).toInt := by have a0 := ro_109_20; unfold In at a0; have a1 := h1; unfold In at a1; have a2 := (in_c 0 rfl); unfold In at a2; omega
  have n4a : BAR s (x1).toNatClampNeg ((Int32.ofInt 0)).toInt ((Int32.ofInt 0)) := by exact bar_0
  exact gg_w (by omega) (gg_f (gf_cons rfl (gf_cons rfl (gf_cons rfl (gf_cons rfl gf_nil)))) (ct4 33  (Int32.ofInt 0) (Int32.ofInt 0)  (in_w 0 32 (in_c 0 rfl) rfl) n4 n4a (m_in 33 (in_w 0 32 (in_c 0 rfl) rfl) rfl)))

/-- GraphHouseModel.tough -/
theorem k_341 {Z : AmZ} {A : Nat → Nat} {s : GS} {ex : va_W} {d : Nat} {X : AmX} {x1 : Int32} (hd : 4 ≤ d) (hI : Inv s) (h1 : In x1 0 32) : GC Z d 341 [.ref (A 109), .int x1] (WW Z A s ++ ex) 0 0 (fun v u => ∃ z : Int32, v = some (.int z) ∧ u = WW Z A s ++ ex ∧ In z (-2147483648) 2147483647 ∧ (TOU s (x1).toInt (z))) X := by
  intro post xp hP hX
  obtain ⟨u_109_20, e_109_20⟩ : ∃ w, w = s.2.2.1 109 20 := ⟨_, rfl⟩
  have ro_109_20 := inv_F hI 0 32 rfl e_109_20
  have ct39 : ∀ (k39 : Nat) (y39_2 : Int32) (y39_3 : Int32), (In y39_3 0 1) → (TOU s (x1).toInt (y39_2)) → cb y39_2 + (y39_3).toInt.toNat < k39 → GG Z (d - 1) 341 post (gx xp) (1 + k39 * 32401) 39 (fun j => xlook j [(0, .ref (A 109)), (1, .int x1), (2, .int y39_2), (3, .int y39_3)]) [] (WW Z A s ++ ex) 0 0 := by
    intro k39
    induction k39 with
    | zero => intro y39_2 y39_3 j39_3 g39_0 mm39; exact absurd mm39 (Nat.not_lt_zero _)
    | succ k39 ih39 =>
      intro y39_2 y39_3 j39_3 g39_0 mm39
      refine gg_w (M := 1 + k39 * 32401 + 32401) (by omega) ?_
      have ct48 : ∀ (k48 : Nat) (y48_2 : Int32) (y48_3 : Int32) (y48_4 : Int32), (In y48_3 0 1) → (In y48_4 0 32) → (cb y48_2 + (y48_3).toInt.toNat < k39) → (TOU s (x1).toInt (y48_2)) → 32 - (y48_4).toInt < (k48 : Int) → GG Z (d - 1) 341 post (gx xp) (1 + k39 * 32401 + 1 + k48 * 900) 48 (fun j => xlook j [(0, .ref (A 109)), (1, .int x1), (2, .int y48_2), (3, .int y48_3), (4, .int y48_4)]) [] (WW Z A s ++ ex) 0 0 := by
        intro k48
        induction k48 with
        | zero => intro y48_2 y48_3 y48_4 j48_3 j48_4 g48_0 g48_1 mm48; exact m_no mm48 j48_4 rfl
        | succ k48 ih48 =>
          intro y48_2 y48_3 y48_4 j48_3 j48_4 g48_0 g48_1 mm48
          refine gg_w (M := 1 + k39 * 32401 + 1 + k48 * 900 + 900) (by omega) ?_
          refine g_iload 50 (gd rfl) rfl rfl ?_
          refine g_aload_n 51 (gd rfl) rfl rfl ?_
          refine g_getI 54 (gd rfl) rfl rfl rfl (fun z51 e51 => ?_)
          have q51 : u_109_20 = z51 := (e_109_20).trans e51.symm
          subst q51
          refine g_cmp_ge 57 109 (gd rfl) rfl rfl (fun c54 => ?_) (fun c54 => ?_)
          · skip
            refine g_goto 39 (gd rfl) rfl ?_
            have n39 : TOU s (x1).toInt (y48_2) := by exact g48_1
            have m39 : cb y48_2 + (y48_3).toInt.toNat < k39 := by exact g48_0
            exact gg_w (by omega) (gg_f (gf_cons rfl (gf_cons rfl (gf_cons rfl (gf_cons rfl gf_nil)))) (ih39   y48_2 y48_3  (in_w 0 1 j48_3 rfl) n39 m39))
          · skip
            have i54 := r_lt1 0 31 c54 j48_4 ro_109_20 rfl
            have i54a := r_lt2 1 32 c54 j48_4 ro_109_20 rfl
            refine g_iload_n 58 (gd rfl) rfl rfl ?_
            refine g_iload 60 (gd rfl) rfl rfl ?_
            refine g_calls (As := [.int y48_2, .int y48_4]) (r := []) 63 (gd rfl) rfl rfl rfl rfl rfl (Nat.le_of_ble_eq_true rfl) (mc := 0) (ms := 0) (Nat.zero_le _) (Nat.zero_le _) (P := fun v u => _) ?_ (fun v u h => h)
            intro po60 xx60 hp60 hx60
            refine g_enter2 (k := 311) (N := 300) (by omega) rfl (Nat.le_of_ble_eq_true rfl) ?_
            refine g_iload_n 1 (gd rfl) rfl rfl ?_
            refine g_iload_n 2 (gd rfl) rfl rfl ?_
            refine g_ishr 3 (gd rfl) rfl (fun z60x2 e60x2 => ?_)
            refine g_iconst 1 4 (gd rfl) rfl rfl ?_
            refine g_iand 5 (gd rfl) rfl (fun z60x4 e60x4 => ?_)
            have i60x4 := in_and2 e60x4 (in_c 1 rfl) rfl
            refine g_iconst 1 6 (gd rfl) rfl rfl ?_
            refine g_cmp_ne 9 13 (gd rfl) rfl rfl (fun c60x6 => ?_) (fun c60x6 => ?_)
            · skip
              have i60x6 := r_ne1 0 0 c60x6 i60x4 (in_c 1 rfl) rfl
              refine g_iconst 0 14 (gd rfl) rfl rfl ?_
              refine g_ireturn (gd rfl) rfl (nb01 (in_w 0 1 (in_c 0 rfl) rfl)) (hp60 _ _ ?_)
              show GG _ _ _ _ _ _ _ _ [.int (Int32.ofInt 0)] _ _ _
              refine g_if_eq 66 103 (gd rfl) rfl rfl (fun c63 => ?_) (fun c63 => ?_)
              · skip
                refine g_iinc 106 (gd rfl) rfl rfl (Nat.le_of_ble_eq_true rfl) (fun z103 e103 => ?_)
                have i103 := in_add 1 32 e103 i54 (in_c 1 rfl) rfl rfl
                refine g_goto 48 (gd rfl) rfl ?_
                have n48 : cb y48_2 + (y48_3).toInt.toNat < k39 := by first | exact g48_0 | (show cb y39_2 + 0 < k39; have h := j39_3; unfold In at h; omega) | (have h := cb_clr e96 e98 e99 i54 (bt_yes e60x2 e60x4 i54 c60x6); show cb z99 + 1 < k39; omega)
                have n48a : TOU s (x1).toInt (y48_2) := by exact g48_1
                exact gg_w (by omega) (gg_f (gf_cons rfl (gf_cons rfl (gf_cons rfl (gf_cons rfl (gf_cons rfl gf_nil))))) (ih48  y48_2 y48_3 z103  (in_w 0 1 j48_3 rfl) (in_w 0 32 i103 rfl) n48 n48a (m_up mm48 (t_add e103 i54 (in_c 1 rfl) rfl) (in_w 1 1 (in_c 1 rfl) rfl))))
              · skip
                exact zn_ne c63 (in_c 0 rfl) rfl
            · skip
              have i60x6 := r_eq1 1 1 c60x6 i60x4 (in_c 1 rfl) rfl
              refine g_iconst 1 10 (gd rfl) rfl rfl ?_
              refine g_goto 14 (gd rfl) rfl ?_
              refine g_ireturn (gd rfl) rfl (nb01 (in_w 0 1 (in_c 1 rfl) rfl)) (hp60 _ _ ?_)
              show GG _ _ _ _ _ _ _ _ [.int (Int32.ofInt 1)] _ _ _
              refine g_if_eq 66 103 (gd rfl) rfl rfl (fun c63 => ?_) (fun c63 => ?_)
              · skip
                exact zn_eq c63 (in_c 1 rfl) rfl
              · skip
                refine g_iload_n 67 (gd rfl) rfl rfl ?_
                refine g_aload_n 68 (gd rfl) rfl rfl ?_
                refine g_iload 70 (gd rfl) rfl rfl ?_
                refine g_callv (X := _) (As := [.int y48_4]) (r := [.int x1]) (b := A 109) (q := 109) 73 (gd rfl) rfl rfl rfl rfl rfl (ww_o rfl) (Nat.le_of_ble_eq_true rfl) (Nat.zero_le _) (Nat.zero_le _) (k_339 (by omega) hI (in_w 0 31 i54 rfl)) (fun e u h => h) (fun v u h => ?_)
                obtain ⟨z70, rfl, rfl, i70, p70⟩ := h
                show GG _ _ _ _ _ _ _ _ [.int z70, .int x1] _ _ _
                refine g_calls (As := [.int z70]) (r := [.int x1]) 76 (gd rfl) rfl rfl rfl rfl rfl (Nat.le_of_ble_eq_true rfl) (Nat.zero_le _) (Nat.zero_le _) (k_336 (by omega) hI ) (fun v u h => ?_)
                obtain ⟨z73, rfl, rfl, i73, p73⟩ := h
                show GG _ _ _ _ _ _ _ _ [.int z73, .int x1] _ _ _
                refine g_isub 77 (gd rfl) rfl (fun z76 e76 => ?_)
                have i76 := in_sub (-32) 32 e76 h1 i73 rfl rfl
                refine g_aload_n 78 (gd rfl) rfl rfl ?_
                refine g_getA (q2 := 138) 81 (gd rfl) rfl rfl rfl rfl ?_
                refine g_iload 83 (gd rfl) rfl rfl ?_
                refine g_iaload 84 (gd rfl) rfl (n := 32) rfl (in_ix i54 rfl) (fun z83 e83 => ?_)
                refine g_iload_n 85 (gd rfl) rfl rfl ?_
                refine g_iand 86 (gd rfl) rfl (fun z85 e85 => ?_)
                refine g_calls (As := [.int z85]) (r := [.int z76]) 89 (gd rfl) rfl rfl rfl rfl rfl (Nat.le_of_ble_eq_true rfl) (Nat.zero_le _) (Nat.zero_le _) (k_336 (by omega) hI ) (fun v u h => ?_)
                obtain ⟨z86, rfl, rfl, i86, p86⟩ := h
                show GG _ _ _ _ _ _ _ _ [.int z86, .int z76] _ _ _
                refine g_cmp_le 92 103 (gd rfl) rfl rfl (fun c89 => ?_) (fun c89 => ?_)
                · skip
                  refine g_iinc 106 (gd rfl) rfl rfl (Nat.le_of_ble_eq_true rfl) (fun z103 e103 => ?_)
                  have i103 := in_add 1 32 e103 i54 (in_c 1 rfl) rfl rfl
                  refine g_goto 48 (gd rfl) rfl ?_
                  have n48 : cb y48_2 + (y48_3).toInt.toNat < k39 := by first | exact g48_0 | (show cb y39_2 + 0 < k39; have h := j39_3; unfold In at h; omega) | (have h := cb_clr e96 e98 e99 i54 (bt_yes e60x2 e60x4 i54 c60x6); show cb z99 + 1 < k39; omega)
                  have n48a : TOU s (x1).toInt (y48_2) := by exact g48_1
                  exact gg_w (by omega) (gg_f (gf_cons rfl (gf_cons rfl (gf_cons rfl (gf_cons rfl (gf_cons rfl gf_nil))))) (ih48  y48_2 y48_3 z103  (in_w 0 1 j48_3 rfl) (in_w 0 32 i103 rfl) n48 n48a (m_up mm48 (t_add e103 i54 (in_c 1 rfl) rfl) (in_w 1 1 (in_c 1 rfl) rfl))))
                · skip
                  have i89 := r_lt1 0 31 c89 i86 i76 rfl
                  have i89a := r_lt2 1 32 c89 i86 i76 rfl
                  refine g_iload_n 93 (gd rfl) rfl rfl ?_
                  refine g_iconst 1 94 (gd rfl) rfl rfl ?_
                  refine g_iload 96 (gd rfl) rfl rfl ?_
                  refine g_ishl 97 (gd rfl) rfl (fun z96 e96 => ?_)
                  refine g_iconst (-1) 98 (gd rfl) rfl rfl ?_
                  refine g_ixor 99 (gd rfl) rfl (fun z98 e98 => ?_)
                  refine g_iand 100 (gd rfl) rfl (fun z99 e99 => ?_)
                  refine g_istore_n 101 (gd rfl) rfl (Nat.le_of_ble_eq_true rfl) ?_
                  refine g_iconst 1 102 (gd rfl) rfl rfl ?_
                  refine g_istore_n 103 (gd rfl) rfl (Nat.le_of_ble_eq_true rfl) ?_
                  refine g_iinc 106 (gd rfl) rfl rfl (Nat.le_of_ble_eq_true rfl) (fun z103 e103 => ?_)
                  have i103 := in_add 1 32 e103 i54 (in_c 1 rfl) rfl rfl
                  refine g_goto 48 (gd rfl) rfl ?_
                  have n48 : cb z99 + ((Int32.ofInt 1)).toInt.toNat < k39 := by first | exact g48_0 | (show cb y39_2 + 0 < k39; have h := j39_3; unfold In at h; omega) | (have h := cb_clr e96 e98 e99 i54 (bt_yes e60x2 e60x4 i54 c60x6); show cb z99 + 1 < k39; omega)
                  have n48a : TOU s (x1).toInt (z99) := by exact tou_s g48_1 h1 i54 (bt_yes e60x2 e60x4 i54 c60x6) p70 (fun u hu => (hI.1.1 142 u (show u < 32 from hu)).2) p73 (by have a0 := h1; unfold In at a0; have a1 := i54a; unfold In at a1; have a2 := i54; unfold In at a2; have a3 := j48_3; unfold In at a3; have a4 := i103; unfold In at a4; have a5 := t_add e103 i54 (in_c 1 rfl) rfl; have a6 := (in_c 1 rfl); unfold In at a6; have a7 := i89a; unfold In at a7; have a8 := t_sub e76 h1 i73 rfl; have a9 := i73; unfold In at a9; omega) e83 e85 p86 (by have a0 := h1; unfold In at a0; have a1 := i54a; unfold In at a1; have a2 := i54; unfold In at a2; have a3 := j48_3; unfold In at a3; have a4 := i103; unfold In at a4; have a5 := t_add e103 i54 (in_c 1 rfl) rfl; have a6 := (in_c 1 rfl); unfold In at a6; have a7 := i89a; unfold In at a7; have a8 := t_sub e76 h1 i73 rfl; have a9 := i73; unfold In at a9; omega) e96 e98 e99
                  exact gg_w (by omega) (gg_f (gf_cons rfl (gf_cons rfl (gf_cons rfl (gf_cons rfl (gf_cons rfl gf_nil))))) (ih48  z99 (Int32.ofInt 1) z103  (in_w 0 1 (in_c 1 rfl) rfl) (in_w 0 32 i103 rfl) n48 n48a (m_up mm48 (t_add e103 i54 (in_c 1 rfl) rfl) (in_w 1 1 (in_c 1 rfl) rfl))))
      refine g_iload_n 40 (gd rfl) rfl rfl ?_
      refine g_if_eq 43 112 (gd rfl) rfl rfl (fun c40 => ?_) (fun c40 => ?_)
      · skip
        have i40 := z_eq 0 0 c40 j39_3 rfl
        refine g_iload_n 113 (gd rfl) rfl rfl ?_
        have n113 : TOU s (x1).toInt (y39_2) := by exact g39_0
        exact g_ireturn (gd rfl) rfl rfl (hP _ _ ⟨y39_2, rfl, rfl, in_w (-2147483648) 2147483647 (i_rng y39_2) rfl, n113⟩)
      · skip
        have i40 := z_ne 1 1 c40 j39_3 rfl
        refine g_iconst 0 44 (gd rfl) rfl rfl ?_
        refine g_istore_n 45 (gd rfl) rfl (Nat.le_of_ble_eq_true rfl) ?_
        refine g_iconst 0 46 (gd rfl) rfl rfl ?_
        refine g_istore 48 (gd rfl) rfl (Nat.le_of_ble_eq_true rfl) ?_
        have n48 : cb y39_2 + ((Int32.ofInt 0)).toInt.toNat < k39 := by first | exact g48_0 | (show cb y39_2 + 0 < k39; have h := j39_3; unfold In at h; omega) | (have h := cb_clr e96 e98 e99 i54 (bt_yes e60x2 e60x4 i54 c60x6); show cb z99 + 1 < k39; omega)
        have n48a : TOU s (x1).toInt (y39_2) := by exact g39_0
        exact gg_w (by omega) (gg_f (gf_cons rfl (gf_cons rfl (gf_cons rfl (gf_cons rfl (gf_cons rfl gf_nil))))) (ct48 33  y39_2 (Int32.ofInt 0) (Int32.ofInt 0)  (in_w 0 1 (in_c 0 rfl) rfl) (in_w 0 32 (in_c 0 rfl) rfl) n48 n48a (m_in 33 (in_w 0 32 (in_c 0 rfl) rfl) rfl)))
  have ct4 : ∀ (k4 : Nat) (y4_2 : Int32) (y4_3 : Int32), (In y4_3 0 32) → ((y4_3).toInt ≤ (u_109_20).toInt) → (∀ v : Nat, (bt (y4_2) v = true ↔ ((v : Int) < (y4_3).toInt ∧ (s.1 142 v).toInt < 0))) → 32 - (y4_3).toInt < (k4 : Int) → GG Z (d - 1) 341 post (gx xp) (3240102 + k4 * 900) 4 (fun j => xlook j [(0, .ref (A 109)), (1, .int x1), (2, .int y4_2), (3, .int y4_3)]) [] (WW Z A s ++ ex) 0 0 := by
    intro k4
    induction k4 with
    | zero => intro y4_2 y4_3 j4_3 n4_0 g4_0 mm4; exact m_no mm4 j4_3 rfl
    | succ k4 ih4 =>
      intro y4_2 y4_3 j4_3 n4_0 g4_0 mm4
      refine gg_w (M := 3240102 + k4 * 900 + 900) (by omega) ?_
      refine g_iload_n 5 (gd rfl) rfl rfl ?_
      refine g_aload_n 6 (gd rfl) rfl rfl ?_
      refine g_getI 9 (gd rfl) rfl rfl rfl (fun z6 e6 => ?_)
      have q6 : u_109_20 = z6 := (e_109_20).trans e6.symm
      subst q6
      refine g_cmp_ge 12 37 (gd rfl) rfl rfl (fun c9 => ?_) (fun c9 => ?_)
      · skip
        refine g_iconst 1 38 (gd rfl) rfl rfl ?_
        refine g_istore_n 39 (gd rfl) rfl (Nat.le_of_ble_eq_true rfl) ?_
        have n39 : TOU s (x1).toInt (y4_2) := by exact tou_0 (fun v => by rw [g4_0 v]; unfold UNC; rw [show y4_3.toInt = (s.2.2.1 109 20).toInt from (by rw [← e_109_20]; have a0 := h1; unfold In at a0; have a1 := ro_109_20; unfold In at a1; have a2 := j4_3; unfold In at a2; have a3 := (in_c 1 rfl); unfold In at a3; omega)])
        have m39 : cb y4_2 + ((Int32.ofInt 1)).toInt.toNat < 100 := by have h := cb_le y4_2; have h3 := (in_c 1 rfl); unfold In at h3; omega
        exact gg_w (by omega) (gg_f (gf_cons rfl (gf_cons rfl (gf_cons rfl (gf_cons rfl gf_nil)))) (ct39 (100)  y4_2 (Int32.ofInt 1)  (in_w 0 1 (in_c 1 rfl) rfl) n39 m39))
      · skip
        have i9 := r_lt1 0 31 c9 j4_3 ro_109_20 rfl
        have i9a := r_lt2 1 32 c9 j4_3 ro_109_20 rfl
        refine g_iload_n 13 (gd rfl) rfl rfl ?_
        refine g_aload_n 14 (gd rfl) rfl rfl ?_
        refine g_getA (q2 := 142) 17 (gd rfl) rfl rfl rfl rfl ?_
        refine g_iload_n 18 (gd rfl) rfl rfl ?_
        refine g_iaload 19 (gd rfl) rfl (n := 32) rfl (in_ix i9 rfl) (fun z18 e18 => ?_)
        have i18 := inv_I hI (n := 32) (t := 0) (-2147483648) 31 rfl (in_ix i9 rfl) rfl e18
        refine g_if_ge 22 28 (gd rfl) rfl rfl (fun c19 => ?_) (fun c19 => ?_)
        · skip
          have i19 := z_ge 0 31 c19 i18 rfl
          refine g_iconst 0 29 (gd rfl) rfl rfl ?_
          refine g_ior 30 (gd rfl) rfl (fun z29 e29 => ?_)
          refine g_istore_n 31 (gd rfl) rfl (Nat.le_of_ble_eq_true rfl) ?_
          refine g_iinc 34 (gd rfl) rfl rfl (Nat.le_of_ble_eq_true rfl) (fun z31 e31 => ?_)
          have i31 := in_add 1 32 e31 i9 (in_c 1 rfl) rfl rfl
          refine g_goto 4 (gd rfl) rfl ?_
          have n4 : (z31).toInt ≤ (u_109_20).toInt := by have a0 := h1; unfold In at a0; have a1 := i9a; unfold In at a1; have a2 := i9; unfold In at a2; have a3 := i31; unfold In at a3; have a4 := t_add e31 i9 (in_c 1 rfl) rfl; have a5 := (in_c 1 rfl); unfold In at a5; omega
          have n4a : ∀ v : Nat, (bt (z29) v = true ↔ ((v : Int) < (z31).toInt ∧ (s.1 142 v).toInt < 0)) := by exact un_n g4_0 (by have a0 := h1; unfold In at a0; have a1 := i9a; unfold In at a1; have a2 := i9; unfold In at a2; have a3 := i31; unfold In at a3; have a4 := t_add e31 i9 (in_c 1 rfl) rfl; have a5 := (in_c 1 rfl); unfold In at a5; omega) (by have a0 := h1; unfold In at a0; have a1 := i9a; unfold In at a1; have a2 := i9; unfold In at a2; have a3 := i31; unfold In at a3; have a4 := t_add e31 i9 (in_c 1 rfl) rfl; have a5 := (in_c 1 rfl); unfold In at a5; omega) (by rw [← e18]; exact c19) e29
          exact gg_w (by omega) (gg_f (gf_cons rfl (gf_cons rfl (gf_cons rfl (gf_cons rfl gf_nil)))) (ih4  z29 z31  (in_w 0 32 i31 rfl) n4 n4a (m_up mm4 (t_add e31 i9 (in_c 1 rfl) rfl) (in_w 1 1 (in_c 1 rfl) rfl))))
        · skip
          have i19 := z_lt (-2147483648) (-1) c19 i18 rfl
          refine g_iconst 1 23 (gd rfl) rfl rfl ?_
          refine g_iload_n 24 (gd rfl) rfl rfl ?_
          refine g_ishl 25 (gd rfl) rfl (fun z24 e24 => ?_)
          refine g_goto 29 (gd rfl) rfl ?_
          refine g_ior 30 (gd rfl) rfl (fun z29 e29 => ?_)
          refine g_istore_n 31 (gd rfl) rfl (Nat.le_of_ble_eq_true rfl) ?_
          refine g_iinc 34 (gd rfl) rfl rfl (Nat.le_of_ble_eq_true rfl) (fun z31 e31 => ?_)
          have i31 := in_add 1 32 e31 i9 (in_c 1 rfl) rfl rfl
          refine g_goto 4 (gd rfl) rfl ?_
          have n4 : (z31).toInt ≤ (u_109_20).toInt := by have a0 := h1; unfold In at a0; have a1 := i9a; unfold In at a1; have a2 := i9; unfold In at a2; have a3 := i31; unfold In at a3; have a4 := t_add e31 i9 (in_c 1 rfl) rfl; have a5 := (in_c 1 rfl); unfold In at a5; omega
          have n4a : ∀ v : Nat, (bt (z29) v = true ↔ ((v : Int) < (z31).toInt ∧ (s.1 142 v).toInt < 0)) := by exact un_y g4_0 (by have a0 := h1; unfold In at a0; have a1 := i9a; unfold In at a1; have a2 := i9; unfold In at a2; have a3 := i31; unfold In at a3; have a4 := t_add e31 i9 (in_c 1 rfl) rfl; have a5 := (in_c 1 rfl); unfold In at a5; omega) i9 (by rw [← e18]; exact c19) e24 e29
          exact gg_w (by omega) (gg_f (gf_cons rfl (gf_cons rfl (gf_cons rfl (gf_cons rfl gf_nil)))) (ih4  z29 z31  (in_w 0 32 i31 rfl) n4 n4a (m_up mm4 (t_add e31 i9 (in_c 1 rfl) rfl) (in_w 1 1 (in_c 1 rfl) rfl))))
  refine g_enter2 (k := 341) (N := 3270702) (by omega) rfl (Nat.le_of_ble_eq_true rfl) ?_
  refine g_iconst 0 1 (gd rfl) rfl rfl ?_
  refine g_istore_n 2 (gd rfl) rfl (Nat.le_of_ble_eq_true rfl) ?_
  refine g_iconst 0 3 (gd rfl) rfl rfl ?_
  refine g_istore_n 4 (gd rfl) rfl (Nat.le_of_ble_eq_true rfl) ?_
  have n4 : ((Int32.ofInt 0)).toInt ≤ (u_109_20).toInt := by have a0 := ro_109_20; unfold In at a0; have a1 := h1; unfold In at a1; have a2 := (in_c 0 rfl); unfold In at a2; omega
  have n4a : ∀ v : Nat, (bt ((Int32.ofInt 0)) v = true ↔ ((v : Int) < ((Int32.ofInt 0)).toInt ∧ (s.1 142 v).toInt < 0)) := by exact un_0
  exact gg_w (by omega) (gg_f (gf_cons rfl (gf_cons rfl (gf_cons rfl (gf_cons rfl gf_nil)))) (ct4 33  (Int32.ofInt 0) (Int32.ofInt 0)  (in_w 0 32 (in_c 0 rfl) rfl) n4 n4a (m_in 33 (in_w 0 32 (in_c 0 rfl) rfl) rfl)))
