/-! methods, by vc.py -/
def fm_334 : FM := ([], [], [(109, 0)], [])
/-- GraphHouseModel.core -/
theorem k_334 {Z : AmZ} {A : Nat → Nat} {s : GS} {ex : va_W} {d : Nat} {X : AmX} {x1 : Int32} (hd : 4 ≤ d) (hI : Inv s)  : GC Z d 334 [.ref (A 109), .int x1] (WW Z A s ++ ex) 0 0 (fun v u => ∃ t : GS, Inv t ∧ Fr fm_334 s t ∧ ∃ z : Int32, v = some (.int z) ∧ u = WW Z A t ++ ex ∧ In z 0 160) X := by
  intro post xp hP hX
  obtain ⟨u_109_20, e_109_20⟩ : ∃ w, w = s.2.2.1 109 20 := ⟨_, rfl⟩
  have ro_109_20 := inv_F hI 0 32 rfl e_109_20
  have ct41 : ∀ (k41 : Nat) (sc41 : GS) (y41_2 : Int32) (y41_3 : Int32) (y41_4 : Int32), Inv sc41 → Fr fm_334 s sc41 → (In x1 0 31) → (In y41_3 0 161) → (In y41_4 0 160) → ((x1).toInt < (u_109_20).toInt) → (0 ≤ (x1).toInt) → (161 ≤ (y41_3).toInt → ∀ j : Nat, (j : Int) < (u_109_20).toInt → bt y41_2 j = false) → 200 - (y41_3).toInt < (k41 : Int) → GG Z (d - 1) 334 post (gx xp) (1 + k41 * 3274302) 41 (fun j => xlook j [(0, .ref (A 109)), (1, .int x1), (2, .int y41_2), (3, .int y41_3), (4, .int y41_4)]) [] (WW Z A sc41 ++ ex) 0 0 := by
    intro k41
    induction k41 with
    | zero => intro sc41 y41_2 y41_3 y41_4 hIc41 hFc41 j41_1 j41_3 j41_4 n41_0 n41_1 g41_0 mm41; exfalso; have a0 := j41_1; unfold In at a0; have a1 := ro_109_20; unfold In at a1; have a2 := j41_4; unfold In at a2; have a3 := j41_3; unfold In at a3; omega
    | succ k41 ih41 =>
      intro sc41 y41_2 y41_3 y41_4 hIc41 hFc41 j41_1 j41_3 j41_4 n41_0 n41_1 g41_0 mm41
      refine gg_w (M := 1 + k41 * 3274302 + 3274302) (by omega) ?_
      have ct58 : ∀ (k58 : Nat) (sc58 : GS) (y58_2 : Int32) (y58_3 : Int32) (y58_4 : Int32) (y58_5 : Int32), Inv sc58 → Fr fm_334 s sc58 → (In y58_3 1 161) → (In y58_4 0 160) → (In y58_5 0 1) → ((y58_3).toInt = y41_3.toInt + 1) → (161 ≤ (y58_3).toInt → (y58_5).toInt = 0 → ∀ j : Nat, (j : Int) < (u_109_20).toInt → bt y58_2 j = false) → cb y58_2 + (y58_5).toInt.toNat < k58 → GG Z (d - 1) 334 post (gx xp) (1 + k41 * 3274302 + 1 + k58 * 32401) 58 (fun j => xlook j [(0, .ref (A 109)), (1, .int x1), (2, .int y58_2), (3, .int y58_3), (4, .int y58_4), (5, .int y58_5)]) [] (WW Z A sc58 ++ ex) 0 0 := by
        intro k58
        induction k58 with
        | zero => intro sc58 y58_2 y58_3 y58_4 y58_5 hIc58 hFc58 j58_3 j58_4 j58_5 n58_0 g58_0 mm58; exact absurd mm58 (Nat.not_lt_zero _)
        | succ k58 ih58 =>
          intro sc58 y58_2 y58_3 y58_4 y58_5 hIc58 hFc58 j58_3 j58_4 j58_5 n58_0 g58_0 mm58
          refine gg_w (M := 1 + k41 * 3274302 + 1 + k58 * 32401 + 32401) (by omega) ?_
          have ct69 : ∀ (k69 : Nat) (sc69 : GS) (y69_2 : Int32) (y69_5 : Int32) (y69_6 : Int32), Inv sc69 → Fr fm_334 s sc69 → (In y69_5 0 1) → (In y69_6 0 32) → (161 ≤ (y58_3).toInt → (y69_5).toInt = 0 → ∀ j : Nat, (j : Int) < (y69_6).toInt → bt y69_2 j = false) → (cb y69_2 + (y69_5).toInt.toNat < k58) → 32 - (y69_6).toInt < (k69 : Int) → GG Z (d - 1) 334 post (gx xp) (1 + k41 * 3274302 + 1 + k58 * 32401 + 1 + k69 * 900) 69 (fun j => xlook j [(0, .ref (A 109)), (1, .int x1), (2, .int y69_2), (3, .int y58_3), (4, .int y58_4), (5, .int y69_5), (6, .int y69_6)]) [] (WW Z A sc69 ++ ex) 0 0 := by
            intro k69
            induction k69 with
            | zero => intro sc69 y69_2 y69_5 y69_6 hIc69 hFc69 j69_5 j69_6 g69_0 g69_1 mm69; exact m_no mm69 j69_6 rfl
            | succ k69 ih69 =>
              intro sc69 y69_2 y69_5 y69_6 hIc69 hFc69 j69_5 j69_6 g69_0 g69_1 mm69
              refine gg_w (M := 1 + k41 * 3274302 + 1 + k58 * 32401 + 1 + k69 * 900 + 900) (by omega) ?_
              refine g_iload 71 (gd rfl) rfl rfl ?_
              refine g_aload_n 72 (gd rfl) rfl rfl ?_
              refine g_getI 75 (gd rfl) rfl rfl rfl (fun z72 e72 => ?_)
              have q72 : u_109_20 = z72 := (fr_F e_109_20 hFc69 rfl).trans e72.symm
              subst q72
              refine g_cmp_ge 78 116 (gd rfl) rfl rfl (fun c75 => ?_) (fun c75 => ?_)
              · skip
                refine g_goto 58 (gd rfl) rfl ?_
                have n58 : (y58_3).toInt = y41_3.toInt + 1 := by have a0 := j58_4; unfold In at a0; have a1 := j58_3; unfold In at a1; have a2 := j41_1; unfold In at a2; have a3 := ro_109_20; unfold In at a3; have a4 := j69_6; unfold In at a4; have a5 := j69_5; unfold In at a5; omega
                have n58a : 161 ≤ (y58_3).toInt → (y69_5).toInt = 0 → ∀ j : Nat, (j : Int) < (u_109_20).toInt → bt y69_2 j = false := by first | (intro _ h; exact absurd h (by decide)) | (intro h1 h2 j hj; exact g69_0 h1 h2 j (by have a0 := j58_4; unfold In at a0; have a1 := j58_3; unfold In at a1; have a2 := j41_1; unfold In at a2; have a3 := ro_109_20; unfold In at a3; have a4 := j69_6; unfold In at a4; have a5 := j69_5; unfold In at a5; omega))
                have m58 : cb y69_2 + (y69_5).toInt.toNat < k58 := by exact g69_1
                exact gg_w (by omega) (gg_f (gf_cons rfl (gf_cons rfl (gf_cons rfl (gf_cons rfl (gf_cons rfl (gf_cons rfl gf_nil)))))) (ih58  sc69 y69_2 y58_3 y58_4 y69_5 hIc69 hFc69 (in_w 1 161 j58_3 rfl) (in_w 0 160 j58_4 rfl) (in_w 0 1 j69_5 rfl) n58 n58a m58))
              · skip
                have i75 := r_lt1 0 31 c75 j69_6 ro_109_20 rfl
                have i75a := r_lt2 1 32 c75 j69_6 ro_109_20 rfl
                refine g_iload_n 79 (gd rfl) rfl rfl ?_
                refine g_iload 81 (gd rfl) rfl rfl ?_
                refine g_calls (As := [.int y69_2, .int y69_6]) (r := []) 84 (gd rfl) rfl rfl rfl rfl rfl (Nat.le_of_ble_eq_true rfl) (mc := 0) (ms := 0) (Nat.zero_le _) (Nat.zero_le _) (P := fun v u => _) ?_ (fun v u h => h)
                intro po81 xx81 hp81 hx81
                refine g_enter2 (k := 311) (N := 300) (by omega) rfl (Nat.le_of_ble_eq_true rfl) ?_
                refine g_iload_n 1 (gd rfl) rfl rfl ?_
                refine g_iload_n 2 (gd rfl) rfl rfl ?_
                refine g_ishr 3 (gd rfl) rfl (fun z81x2 e81x2 => ?_)
                refine g_iconst 1 4 (gd rfl) rfl rfl ?_
                refine g_iand 5 (gd rfl) rfl (fun z81x4 e81x4 => ?_)
                have i81x4 := in_and2 e81x4 (in_c 1 rfl) rfl
                refine g_iconst 1 6 (gd rfl) rfl rfl ?_
                refine g_cmp_ne 9 13 (gd rfl) rfl rfl (fun c81x6 => ?_) (fun c81x6 => ?_)
                · skip
                  have i81x6 := r_ne1 0 0 c81x6 i81x4 (in_c 1 rfl) rfl
                  refine g_iconst 0 14 (gd rfl) rfl rfl ?_
                  refine g_ireturn (gd rfl) rfl (nb01 (in_w 0 1 (in_c 0 rfl) rfl)) (hp81 _ _ ?_)
                  show GG _ _ _ _ _ _ _ _ [.int (Int32.ofInt 0)] _ _ _
                  refine g_if_eq 87 110 (gd rfl) rfl rfl (fun c84 => ?_) (fun c84 => ?_)
                  · skip
                    refine g_iinc 113 (gd rfl) rfl rfl (Nat.le_of_ble_eq_true rfl) (fun z110 e110 => ?_)
                    have i110 := in_add 1 32 e110 i75 (in_c 1 rfl) rfl rfl
                    refine g_goto 69 (gd rfl) rfl ?_
                    have n69 : 161 ≤ (y58_3).toInt → (y69_5).toInt = 0 → ∀ j : Nat, (j : Int) < (z110).toInt → bt y69_2 j = false := by first | (intro _ _ j hj; exfalso; have h0 : (Int32.ofInt 0).toInt = 0 := rfl; omega) | (intro h1 h2 j hj; by_cases hj2 : (j : Int) < y69_6.toInt; exact g69_0 h1 h2 j hj2; (have ej : j = y69_6.toNatClampNeg := (by show j = y69_6.toInt.toNat; have a0 := j58_4; unfold In at a0; have a1 := j58_3; unfold In at a1; have a2 := j41_1; unfold In at a2; have a3 := i75a; unfold In at a3; have a4 := i75; unfold In at a4; have a5 := j69_5; unfold In at a5; have a6 := i110; unfold In at a6; have a7 := t_add e110 i75 (in_c 1 rfl) rfl; have a8 := (in_c 1 rfl); unfold In at a8; omega); rw [ej]; exact bt_no e81x2 e81x4 i75 c81x6)) | (intro h1 h2 j hj; exfalso; have h9 := i91; unfold In at h9; omega) | (intro _ h; exact absurd h (by decide))
                    have n69a : cb y69_2 + (y69_5).toInt.toNat < k58 := by first | exact g69_1 | (show cb y58_2 + 0 < k58; have h := j58_5; unfold In at h; omega) | (have h := cb_clr e102 e104 e105 i75 (bt_yes e81x2 e81x4 i75 c81x6); show cb z105 + 1 < k58; omega)
                    exact gg_w (by omega) (gg_f (gf_cons rfl (gf_cons rfl (gf_cons rfl (gf_cons rfl (gf_cons rfl (gf_cons rfl (gf_cons rfl gf_nil))))))) (ih69 sc69 y69_2 y69_5 z110 hIc69 hFc69 (in_w 0 1 j69_5 rfl) (in_w 0 32 i110 rfl) n69 n69a (m_up mm69 (t_add e110 i75 (in_c 1 rfl) rfl) (in_w 1 1 (in_c 1 rfl) rfl))))
                  · skip
                    exact zn_ne c84 (in_c 0 rfl) rfl
                · skip
                  have i81x6 := r_eq1 1 1 c81x6 i81x4 (in_c 1 rfl) rfl
                  refine g_iconst 1 10 (gd rfl) rfl rfl ?_
                  refine g_goto 14 (gd rfl) rfl ?_
                  refine g_ireturn (gd rfl) rfl (nb01 (in_w 0 1 (in_c 1 rfl) rfl)) (hp81 _ _ ?_)
                  show GG _ _ _ _ _ _ _ _ [.int (Int32.ofInt 1)] _ _ _
                  refine g_if_eq 87 110 (gd rfl) rfl rfl (fun c84 => ?_) (fun c84 => ?_)
                  · skip
                    exact zn_eq c84 (in_c 1 rfl) rfl
                  · skip
                    refine g_aload_n 88 (gd rfl) rfl rfl ?_
                    refine g_iload 90 (gd rfl) rfl rfl ?_
                    refine g_iload_n 91 (gd rfl) rfl rfl ?_
                    refine g_callv (X := _) (As := [.int y69_6, .int y69_2]) (r := []) (b := A 109) (q := 109) 94 (gd rfl) rfl rfl rfl rfl rfl (ww_o rfl) (Nat.le_of_ble_eq_true rfl) (Nat.zero_le _) (Nat.zero_le _) (k_333 (by omega) hIc69 (in_w 0 31 i75 rfl)) (fun e u h => h) (fun v u h => ?_)
                    obtain ⟨z91, rfl, rfl, i91⟩ := h
                    show GG _ _ _ _ _ _ _ _ [.int z91] _ _ _
                    refine g_iload_n 95 (gd rfl) rfl rfl ?_
                    refine g_cmp_ge 98 110 (gd rfl) rfl rfl (fun c95 => ?_) (fun c95 => ?_)
                    · skip
                      have i95 := r_le1 1 160 c95 j58_3 i91 rfl
                      have i95a := r_le2 1 160 c95 j58_3 i91 rfl
                      refine g_iinc 113 (gd rfl) rfl rfl (Nat.le_of_ble_eq_true rfl) (fun z110 e110 => ?_)
                      have i110 := in_add 1 32 e110 i75 (in_c 1 rfl) rfl rfl
                      refine g_goto 69 (gd rfl) rfl ?_
                      have n69 : 161 ≤ (y58_3).toInt → (y69_5).toInt = 0 → ∀ j : Nat, (j : Int) < (z110).toInt → bt y69_2 j = false := by first | (intro _ _ j hj; exfalso; have h0 : (Int32.ofInt 0).toInt = 0 := rfl; omega) | (intro h1 h2 j hj; by_cases hj2 : (j : Int) < y69_6.toInt; exact g69_0 h1 h2 j hj2; (have ej : j = y69_6.toNatClampNeg := (by show j = y69_6.toInt.toNat; have a0 := j58_4; unfold In at a0; have a1 := i95; unfold In at a1; have a2 := j41_1; unfold In at a2; have a3 := i75a; unfold In at a3; have a4 := i75; unfold In at a4; have a5 := j69_5; unfold In at a5; have a6 := i110; unfold In at a6; have a7 := t_add e110 i75 (in_c 1 rfl) rfl; have a8 := (in_c 1 rfl); unfold In at a8; omega); rw [ej]; exact bt_no e81x2 e81x4 i75 c81x6)) | (intro h1 h2 j hj; exfalso; have h9 := i91; unfold In at h9; omega) | (intro _ h; exact absurd h (by decide))
                      have n69a : cb y69_2 + (y69_5).toInt.toNat < k58 := by first | exact g69_1 | (show cb y58_2 + 0 < k58; have h := j58_5; unfold In at h; omega) | (have h := cb_clr e102 e104 e105 i75 (bt_yes e81x2 e81x4 i75 c81x6); show cb z105 + 1 < k58; omega)
                      exact gg_w (by omega) (gg_f (gf_cons rfl (gf_cons rfl (gf_cons rfl (gf_cons rfl (gf_cons rfl (gf_cons rfl (gf_cons rfl gf_nil))))))) (ih69 sc69 y69_2 y69_5 z110 hIc69 hFc69 (in_w 0 1 j69_5 rfl) (in_w 0 32 i110 rfl) n69 n69a (m_up mm69 (t_add e110 i75 (in_c 1 rfl) rfl) (in_w 1 1 (in_c 1 rfl) rfl))))
                    · skip
                      refine g_iload_n 99 (gd rfl) rfl rfl ?_
                      refine g_iconst 1 100 (gd rfl) rfl rfl ?_
                      refine g_iload 102 (gd rfl) rfl rfl ?_
                      refine g_ishl 103 (gd rfl) rfl (fun z102 e102 => ?_)
                      refine g_iconst (-1) 104 (gd rfl) rfl rfl ?_
                      refine g_ixor 105 (gd rfl) rfl (fun z104 e104 => ?_)
                      refine g_iand 106 (gd rfl) rfl (fun z105 e105 => ?_)
                      refine g_istore_n 107 (gd rfl) rfl (Nat.le_of_ble_eq_true rfl) ?_
                      refine g_iconst 1 108 (gd rfl) rfl rfl ?_
                      refine g_istore 110 (gd rfl) rfl (Nat.le_of_ble_eq_true rfl) ?_
                      refine g_iinc 113 (gd rfl) rfl rfl (Nat.le_of_ble_eq_true rfl) (fun z110 e110 => ?_)
                      have i110 := in_add 1 32 e110 i75 (in_c 1 rfl) rfl rfl
                      refine g_goto 69 (gd rfl) rfl ?_
                      have n69 : 161 ≤ (y58_3).toInt → ((Int32.ofInt 1)).toInt = 0 → ∀ j : Nat, (j : Int) < (z110).toInt → bt z105 j = false := by first | (intro _ _ j hj; exfalso; have h0 : (Int32.ofInt 0).toInt = 0 := rfl; omega) | (intro h1 h2 j hj; by_cases hj2 : (j : Int) < y69_6.toInt; exact g69_0 h1 h2 j hj2; (have ej : j = y69_6.toNatClampNeg := (by show j = y69_6.toInt.toNat; have a0 := j58_4; unfold In at a0; have a1 := j58_3; unfold In at a1; have a2 := j41_1; unfold In at a2; have a3 := i75a; unfold In at a3; have a4 := i75; unfold In at a4; have a5 := j69_5; unfold In at a5; have a6 := i110; unfold In at a6; have a7 := t_add e110 i75 (in_c 1 rfl) rfl; have a8 := (in_c 1 rfl); unfold In at a8; omega); rw [ej]; exact bt_no e81x2 e81x4 i75 c81x6)) | (intro h1 h2 j hj; exfalso; have h9 := i91; unfold In at h9; omega) | (intro _ h; exact absurd h (by decide))
                      have n69a : cb z105 + ((Int32.ofInt 1)).toInt.toNat < k58 := by first | exact g69_1 | (show cb y58_2 + 0 < k58; have h := j58_5; unfold In at h; omega) | (have h := cb_clr e102 e104 e105 i75 (bt_yes e81x2 e81x4 i75 c81x6); show cb z105 + 1 < k58; omega)
                      exact gg_w (by omega) (gg_f (gf_cons rfl (gf_cons rfl (gf_cons rfl (gf_cons rfl (gf_cons rfl (gf_cons rfl (gf_cons rfl gf_nil))))))) (ih69 sc69 z105 (Int32.ofInt 1) z110 hIc69 hFc69 (in_w 0 1 (in_c 1 rfl) rfl) (in_w 0 32 i110 rfl) n69 n69a (m_up mm69 (t_add e110 i75 (in_c 1 rfl) rfl) (in_w 1 1 (in_c 1 rfl) rfl))))
          refine g_iload 60 (gd rfl) rfl rfl ?_
          refine g_if_eq 63 119 (gd rfl) rfl rfl (fun c60 => ?_) (fun c60 => ?_)
          · skip
            have i60 := z_eq 0 0 c60 j58_5 rfl
            refine g_goto 41 (gd rfl) rfl ?_
            have n41 : (x1).toInt < (u_109_20).toInt := by have a0 := j41_1; unfold In at a0; have a1 := ro_109_20; unfold In at a1; have a2 := i60; unfold In at a2; have a3 := j58_4; unfold In at a3; have a4 := j58_3; unfold In at a4; omega
            have n41a : 0 ≤ (x1).toInt := by have a0 := j41_1; unfold In at a0; have a1 := ro_109_20; unfold In at a1; have a2 := i60; unfold In at a2; have a3 := j58_4; unfold In at a3; have a4 := j58_3; unfold In at a4; omega
            have n41b : 161 ≤ (y58_3).toInt → ∀ j : Nat, (j : Int) < (u_109_20).toInt → bt y58_2 j = false := by first | exact fun h => g58_0 h c60 | (intro h; exfalso; have h0 : (Int32.ofInt 0).toInt = 0 := rfl; omega)
            have m41 : 200 - (y58_3).toInt < ((k41 : Nat) : Int) := by have a0 := j41_1; unfold In at a0; have a1 := ro_109_20; unfold In at a1; have a2 := i60; unfold In at a2; have a3 := j58_4; unfold In at a3; have a4 := j58_3; unfold In at a4; omega
            exact gg_w (by omega) (gg_f (gf_cons rfl (gf_cons rfl (gf_cons rfl (gf_cons rfl (gf_cons rfl gf_nil))))) (ih41  sc58 y58_2 y58_3 y58_4 hIc58 hFc58 (in_w 0 31 j41_1 rfl) (in_w 0 161 j58_3 rfl) (in_w 0 160 j58_4 rfl) n41 n41a n41b m41))
          · skip
            have i60 := z_ne 1 1 c60 j58_5 rfl
            refine g_iconst 0 64 (gd rfl) rfl rfl ?_
            refine g_istore 66 (gd rfl) rfl (Nat.le_of_ble_eq_true rfl) ?_
            refine g_iconst 0 67 (gd rfl) rfl rfl ?_
            refine g_istore 69 (gd rfl) rfl (Nat.le_of_ble_eq_true rfl) ?_
            have n69 : 161 ≤ (y58_3).toInt → ((Int32.ofInt 0)).toInt = 0 → ∀ j : Nat, (j : Int) < ((Int32.ofInt 0)).toInt → bt y58_2 j = false := by first | (intro _ _ j hj; exfalso; have h0 : (Int32.ofInt 0).toInt = 0 := rfl; omega) | (intro h1 h2 j hj; by_cases hj2 : (j : Int) < y69_6.toInt; exact g69_0 h1 h2 j hj2; (have ej : j = y69_6.toNatClampNeg := (by show j = y69_6.toInt.toNat; have a0 := j41_1; unfold In at a0; have a1 := ro_109_20; unfold In at a1; have a2 := i60; unfold In at a2; have a3 := j58_4; unfold In at a3; have a4 := j58_3; unfold In at a4; have a5 := (in_c 0 rfl); unfold In at a5; omega); rw [ej]; exact bt_no e81x2 e81x4 i75 c81x6)) | (intro h1 h2 j hj; exfalso; have h9 := i91; unfold In at h9; omega) | (intro _ h; exact absurd h (by decide))
            have n69a : cb y58_2 + ((Int32.ofInt 0)).toInt.toNat < k58 := by first | exact g69_1 | (show cb y58_2 + 0 < k58; have h := j58_5; unfold In at h; omega) | (have h := cb_clr e102 e104 e105 i75 (bt_yes e81x2 e81x4 i75 c81x6); show cb z105 + 1 < k58; omega)
            exact gg_w (by omega) (gg_f (gf_cons rfl (gf_cons rfl (gf_cons rfl (gf_cons rfl (gf_cons rfl (gf_cons rfl (gf_cons rfl gf_nil))))))) (ct69 33 sc58 y58_2 (Int32.ofInt 0) (Int32.ofInt 0) hIc58 hFc58 (in_w 0 1 (in_c 0 rfl) rfl) (in_w 0 32 (in_c 0 rfl) rfl) n69 n69a (m_in 33 (in_w 0 32 (in_c 0 rfl) rfl) rfl)))
      refine g_iload_n 42 (gd rfl) rfl rfl ?_
      refine g_iload_n 43 (gd rfl) rfl rfl ?_
      refine g_calls (As := [.int y41_2, .int x1]) (r := []) 46 (gd rfl) rfl rfl rfl rfl rfl (Nat.le_of_ble_eq_true rfl) (mc := 0) (ms := 0) (Nat.zero_le _) (Nat.zero_le _) (P := fun v u => _) ?_ (fun v u h => h)
      intro po43 xx43 hp43 hx43
      refine g_enter2 (k := 311) (N := 300) (by omega) rfl (Nat.le_of_ble_eq_true rfl) ?_
      refine g_iload_n 1 (gd rfl) rfl rfl ?_
      refine g_iload_n 2 (gd rfl) rfl rfl ?_
      refine g_ishr 3 (gd rfl) rfl (fun z43x2 e43x2 => ?_)
      refine g_iconst 1 4 (gd rfl) rfl rfl ?_
      refine g_iand 5 (gd rfl) rfl (fun z43x4 e43x4 => ?_)
      have i43x4 := in_and2 e43x4 (in_c 1 rfl) rfl
      refine g_iconst 1 6 (gd rfl) rfl rfl ?_
      refine g_cmp_ne 9 13 (gd rfl) rfl rfl (fun c43x6 => ?_) (fun c43x6 => ?_)
      · skip
        have i43x6 := r_ne1 0 0 c43x6 i43x4 (in_c 1 rfl) rfl
        refine g_iconst 0 14 (gd rfl) rfl rfl ?_
        refine g_ireturn (gd rfl) rfl (nb01 (in_w 0 1 (in_c 0 rfl) rfl)) (hp43 _ _ ?_)
        show GG _ _ _ _ _ _ _ _ [.int (Int32.ofInt 0)] _ _ _
        refine g_if_eq 49 122 (gd rfl) rfl rfl (fun c46 => ?_) (fun c46 => ?_)
        · skip
          refine g_iload 124 (gd rfl) rfl rfl ?_
          exact g_ireturn (gd rfl) rfl rfl (hP _ _ ⟨sc41, hIc41, hFc41, y41_4, rfl, rfl, in_w 0 160 j41_4 rfl⟩)
        · skip
          exact zn_ne c46 (in_c 0 rfl) rfl
      · skip
        have i43x6 := r_eq1 1 1 c43x6 i43x4 (in_c 1 rfl) rfl
        refine g_iconst 1 10 (gd rfl) rfl rfl ?_
        refine g_goto 14 (gd rfl) rfl ?_
        refine g_ireturn (gd rfl) rfl (nb01 (in_w 0 1 (in_c 1 rfl) rfl)) (hp43 _ _ ?_)
        show GG _ _ _ _ _ _ _ _ [.int (Int32.ofInt 1)] _ _ _
        refine g_if_eq 49 122 (gd rfl) rfl rfl (fun c46 => ?_) (fun c46 => ?_)
        · skip
          exact zn_eq c46 (in_c 1 rfl) rfl
        · skip
          have i49 : In y41_3 0 160 := by refine ⟨by have a0 := j41_1; unfold In at a0; have a1 := ro_109_20; unfold In at a1; have a2 := j41_4; unfold In at a2; have a3 := j41_3; unfold In at a3; omega, Int.not_lt.mp fun h => ?_⟩; have hb := bt_yes e43x2 e43x4 j41_1 c43x6; have h2 := g41_0 (by omega) x1.toNatClampNeg (by show ((x1.toInt.toNat : Nat) : Int) < _; have a0 := j41_1; unfold In at a0; have a1 := ro_109_20; unfold In at a1; have a2 := j41_4; unfold In at a2; have a3 := j41_3; unfold In at a3; omega); rw [hb] at h2; cases h2
          refine g_iload_n 50 (gd rfl) rfl rfl ?_
          refine g_istore 52 (gd rfl) rfl (Nat.le_of_ble_eq_true rfl) ?_
          refine g_iinc 55 (gd rfl) rfl rfl (Nat.le_of_ble_eq_true rfl) (fun z52 e52 => ?_)
          have i52 := in_add 1 161 e52 i49 (in_c 1 rfl) rfl rfl
          refine g_iconst 1 56 (gd rfl) rfl rfl ?_
          refine g_istore 58 (gd rfl) rfl (Nat.le_of_ble_eq_true rfl) ?_
          have n58 : (z52).toInt = y41_3.toInt + 1 := by have a0 := j41_1; unfold In at a0; have a1 := ro_109_20; unfold In at a1; have a2 := j41_4; unfold In at a2; have a3 := i49; unfold In at a3; have a4 := (in_c 1 rfl); unfold In at a4; have a5 := i52; unfold In at a5; have a6 := t_add e52 i49 (in_c 1 rfl) rfl; omega
          have n58a : 161 ≤ (z52).toInt → ((Int32.ofInt 1)).toInt = 0 → ∀ j : Nat, (j : Int) < (u_109_20).toInt → bt y41_2 j = false := by first | (intro _ h; exact absurd h (by decide)) | (intro h1 h2 j hj; exact g69_0 h1 h2 j (by have a0 := j41_1; unfold In at a0; have a1 := ro_109_20; unfold In at a1; have a2 := j41_4; unfold In at a2; have a3 := i49; unfold In at a3; have a4 := (in_c 1 rfl); unfold In at a4; have a5 := i52; unfold In at a5; have a6 := t_add e52 i49 (in_c 1 rfl) rfl; omega))
          have m58 : cb y41_2 + ((Int32.ofInt 1)).toInt.toNat < 100 := by have h := cb_le y41_2; have h3 := (in_c 1 rfl); unfold In at h3; omega
          exact gg_w (by omega) (gg_f (gf_cons rfl (gf_cons rfl (gf_cons rfl (gf_cons rfl (gf_cons rfl (gf_cons rfl gf_nil)))))) (ct58 (100) sc41 y41_2 z52 y41_3 (Int32.ofInt 1) hIc41 hFc41 (in_w 1 161 i52 rfl) (in_w 0 160 i49 rfl) (in_w 0 1 (in_c 1 rfl) rfl) n58 n58a m58))
  refine g_enter2 (k := 334) (N := 658135603) (by omega) rfl (Nat.le_of_ble_eq_true rfl) ?_
  refine g_aload_n 1 (gd rfl) rfl rfl ?_
  refine g_aload_n 2 (gd rfl) rfl rfl ?_
  refine g_iload_n 3 (gd rfl) rfl rfl ?_
  refine g_callv (X := _) (As := [.int x1]) (r := [.ref (A 109)]) (b := A 109) (q := 109) 6 (gd rfl) rfl rfl rfl rfl rfl (ww_o rfl) (Nat.le_of_ble_eq_true rfl) (mc := 0) (ms := 0) (Nat.zero_le _) (Nat.zero_le _) (P := fun v u => _) ?_ (fun e u h => h) (fun v u h => h)
  intro po3 xx3 hp3 hx3
  refine g_enter2 (k := 272) (N := 300) (by omega) rfl (Nat.le_of_ble_eq_true rfl) ?_
  refine g_iload_n 1 (gd rfl) rfl rfl ?_
  refine g_if_lt 4 16 (gd rfl) rfl rfl (fun c3x1 => ?_) (fun c3x1 => ?_)
  · skip
    have i3x1 := z_lt (-2147483648) (-1) c3x1 (i_rng x1) rfl
    refine g_iconst 0 17 (gd rfl) rfl rfl ?_
    refine g_ireturn (gd rfl) rfl (nb01 (in_w 0 1 (in_c 0 rfl) rfl)) (hp3 _ _ ?_)
    show GG _ _ _ _ _ _ _ _ [.int (Int32.ofInt 0), .ref (A 109)] _ _ _
    refine g_callv (X := _) (As := [.int (Int32.ofInt 0)]) (r := []) (b := A 109) (q := 109) 9 (gd rfl) rfl rfl rfl rfl rfl (ww_o rfl) (Nat.le_of_ble_eq_true rfl) (mc := 0) (ms := 0) (Nat.zero_le _) (Nat.zero_le _) (P := fun v u => _) ?_ (fun e u h => h) (fun v u h => h)
    intro po6 xx6 hp6 hx6
    refine g_enter2 (k := 271) (N := 300) (by omega) rfl (Nat.le_of_ble_eq_true rfl) ?_
    refine g_aload_n 1 (gd rfl) rfl rfl ?_
    refine g_iload_n 2 (gd rfl) rfl rfl ?_
    refine g_iconst 1 3 (gd rfl) rfl rfl ?_
    refine g_callv (X := _) (As := [.int (Int32.ofInt 0), .int (Int32.ofInt 1)]) (r := []) (b := A 109) (q := 109) 6 (gd rfl) rfl rfl rfl rfl rfl (ww_o rfl) (Nat.le_of_ble_eq_true rfl) (mc := 0) (ms := 0) (Nat.zero_le _) (Nat.zero_le _) (P := fun v u => _) ?_ (fun e u h => h) (fun v u h => h)
    intro po6x3 xx6x3 hp6x3 hx6x3
    refine g_enter2 (k := 270) (N := 300) (by omega) rfl (Nat.le_of_ble_eq_true rfl) ?_
    refine g_aload_n 1 (gd rfl) rfl rfl ?_
    refine g_iload_n 2 (gd rfl) rfl rfl ?_
    refine g_if_ne 5 9 (gd rfl) rfl rfl (fun c6x3x2 => ?_) (fun c6x3x2 => ?_)
    · skip
      exact zn_ne c6x3x2 (in_c 0 rfl) rfl
    · skip
      refine g_iconst 1 6 (gd rfl) rfl rfl ?_
      refine g_goto 18 (gd rfl) rfl ?_
      refine g_putI 21 (gd rfl) rfl rfl rfl rfl ?_
      have hI6x3x18 := inv_sF (q := 109) (j := 0) hI rfl (in_w 0 2 (in_c 1 rfl) rfl)
      refine g_aload_n 22 (gd rfl) rfl rfl ?_
      refine g_getI 25 (gd rfl) rfl rfl rfl (fun z6x3x22 e6x3x22 => ?_)
      have q6x3x22 : (Int32.ofInt 1) = z6x3x22 := (sF_get).trans e6x3x22.symm
      subst q6x3x22
      refine g_if_le 28 32 (gd rfl) rfl rfl (fun c6x3x25 => ?_) (fun c6x3x25 => ?_)
      · skip
        exact zn_le c6x3x25 (in_c 1 rfl) rfl
      · skip
        refine g_iconst 1 29 (gd rfl) rfl rfl ?_
        refine g_goto 33 (gd rfl) rfl ?_
        refine g_ireturn (gd rfl) rfl (nb01 (in_w 0 1 (in_c 1 rfl) rfl)) (hp6x3 _ _ ?_)
        show GG _ _ _ _ _ _ _ _ [.int (Int32.ofInt 1)] _ _ _
        refine g_ireturn (gd rfl) rfl (nb01 (in_w 0 1 (in_c 1 rfl) rfl)) (hp6 _ _ ?_)
        show GG _ _ _ _ _ _ _ _ [.int (Int32.ofInt 1)] _ _ _
        refine g_if_eq 12 14 (gd rfl) rfl rfl (fun c9 => ?_) (fun c9 => ?_)
        · skip
          exact zn_eq c9 (in_c 1 rfl) rfl
        · skip
          refine g_iconst 0 13 (gd rfl) rfl rfl ?_
          exact g_ireturn (gd rfl) rfl rfl (hP _ _ ⟨(sF s 109 0 (Int32.ofInt 1)), hI6x3x18, (fr_sF rfl fr_rf), (Int32.ofInt 0), rfl, rfl, in_w 0 160 (in_c 0 rfl) rfl⟩)
  · skip
    have i3x1 := z_ge 0 2147483647 c3x1 (i_rng x1) rfl
    refine g_iload_n 5 (gd rfl) rfl rfl ?_
    refine g_aload_n 6 (gd rfl) rfl rfl ?_
    refine g_getI 9 (gd rfl) rfl rfl rfl (fun z3x6 e3x6 => ?_)
    have q3x6 : u_109_20 = z3x6 := (e_109_20).trans e3x6.symm
    subst q3x6
    refine g_cmp_ge 12 16 (gd rfl) rfl rfl (fun c3x9 => ?_) (fun c3x9 => ?_)
    · skip
      refine g_iconst 0 17 (gd rfl) rfl rfl ?_
      refine g_ireturn (gd rfl) rfl (nb01 (in_w 0 1 (in_c 0 rfl) rfl)) (hp3 _ _ ?_)
      show GG _ _ _ _ _ _ _ _ [.int (Int32.ofInt 0), .ref (A 109)] _ _ _
      refine g_callv (X := _) (As := [.int (Int32.ofInt 0)]) (r := []) (b := A 109) (q := 109) 9 (gd rfl) rfl rfl rfl rfl rfl (ww_o rfl) (Nat.le_of_ble_eq_true rfl) (mc := 0) (ms := 0) (Nat.zero_le _) (Nat.zero_le _) (P := fun v u => _) ?_ (fun e u h => h) (fun v u h => h)
      intro po6 xx6 hp6 hx6
      refine g_enter2 (k := 271) (N := 300) (by omega) rfl (Nat.le_of_ble_eq_true rfl) ?_
      refine g_aload_n 1 (gd rfl) rfl rfl ?_
      refine g_iload_n 2 (gd rfl) rfl rfl ?_
      refine g_iconst 1 3 (gd rfl) rfl rfl ?_
      refine g_callv (X := _) (As := [.int (Int32.ofInt 0), .int (Int32.ofInt 1)]) (r := []) (b := A 109) (q := 109) 6 (gd rfl) rfl rfl rfl rfl rfl (ww_o rfl) (Nat.le_of_ble_eq_true rfl) (mc := 0) (ms := 0) (Nat.zero_le _) (Nat.zero_le _) (P := fun v u => _) ?_ (fun e u h => h) (fun v u h => h)
      intro po6x3 xx6x3 hp6x3 hx6x3
      refine g_enter2 (k := 270) (N := 300) (by omega) rfl (Nat.le_of_ble_eq_true rfl) ?_
      refine g_aload_n 1 (gd rfl) rfl rfl ?_
      refine g_iload_n 2 (gd rfl) rfl rfl ?_
      refine g_if_ne 5 9 (gd rfl) rfl rfl (fun c6x3x2 => ?_) (fun c6x3x2 => ?_)
      · skip
        exact zn_ne c6x3x2 (in_c 0 rfl) rfl
      · skip
        refine g_iconst 1 6 (gd rfl) rfl rfl ?_
        refine g_goto 18 (gd rfl) rfl ?_
        refine g_putI 21 (gd rfl) rfl rfl rfl rfl ?_
        have hI6x3x18 := inv_sF (q := 109) (j := 0) hI rfl (in_w 0 2 (in_c 1 rfl) rfl)
        refine g_aload_n 22 (gd rfl) rfl rfl ?_
        refine g_getI 25 (gd rfl) rfl rfl rfl (fun z6x3x22 e6x3x22 => ?_)
        have q6x3x22 : (Int32.ofInt 1) = z6x3x22 := (sF_get).trans e6x3x22.symm
        subst q6x3x22
        refine g_if_le 28 32 (gd rfl) rfl rfl (fun c6x3x25 => ?_) (fun c6x3x25 => ?_)
        · skip
          exact zn_le c6x3x25 (in_c 1 rfl) rfl
        · skip
          refine g_iconst 1 29 (gd rfl) rfl rfl ?_
          refine g_goto 33 (gd rfl) rfl ?_
          refine g_ireturn (gd rfl) rfl (nb01 (in_w 0 1 (in_c 1 rfl) rfl)) (hp6x3 _ _ ?_)
          show GG _ _ _ _ _ _ _ _ [.int (Int32.ofInt 1)] _ _ _
          refine g_ireturn (gd rfl) rfl (nb01 (in_w 0 1 (in_c 1 rfl) rfl)) (hp6 _ _ ?_)
          show GG _ _ _ _ _ _ _ _ [.int (Int32.ofInt 1)] _ _ _
          refine g_if_eq 12 14 (gd rfl) rfl rfl (fun c9 => ?_) (fun c9 => ?_)
          · skip
            exact zn_eq c9 (in_c 1 rfl) rfl
          · skip
            refine g_iconst 0 13 (gd rfl) rfl rfl ?_
            exact g_ireturn (gd rfl) rfl rfl (hP _ _ ⟨(sF s 109 0 (Int32.ofInt 1)), hI6x3x18, (fr_sF rfl fr_rf), (Int32.ofInt 0), rfl, rfl, in_w 0 160 (in_c 0 rfl) rfl⟩)
    · skip
      have i3x9 := r_lt1 0 31 c3x9 i3x1 ro_109_20 rfl
      have i3x9a := r_lt2 1 32 c3x9 i3x1 ro_109_20 rfl
      refine g_iconst 1 13 (gd rfl) rfl rfl ?_
      refine g_goto 17 (gd rfl) rfl ?_
      refine g_ireturn (gd rfl) rfl (nb01 (in_w 0 1 (in_c 1 rfl) rfl)) (hp3 _ _ ?_)
      show GG _ _ _ _ _ _ _ _ [.int (Int32.ofInt 1), .ref (A 109)] _ _ _
      refine g_callv (X := _) (As := [.int (Int32.ofInt 1)]) (r := []) (b := A 109) (q := 109) 9 (gd rfl) rfl rfl rfl rfl rfl (ww_o rfl) (Nat.le_of_ble_eq_true rfl) (mc := 0) (ms := 0) (Nat.zero_le _) (Nat.zero_le _) (P := fun v u => _) ?_ (fun e u h => h) (fun v u h => h)
      intro po6 xx6 hp6 hx6
      refine g_enter2 (k := 271) (N := 300) (by omega) rfl (Nat.le_of_ble_eq_true rfl) ?_
      refine g_aload_n 1 (gd rfl) rfl rfl ?_
      refine g_iload_n 2 (gd rfl) rfl rfl ?_
      refine g_iconst 1 3 (gd rfl) rfl rfl ?_
      refine g_callv (X := _) (As := [.int (Int32.ofInt 1), .int (Int32.ofInt 1)]) (r := []) (b := A 109) (q := 109) 6 (gd rfl) rfl rfl rfl rfl rfl (ww_o rfl) (Nat.le_of_ble_eq_true rfl) (mc := 0) (ms := 0) (Nat.zero_le _) (Nat.zero_le _) (P := fun v u => _) ?_ (fun e u h => h) (fun v u h => h)
      intro po6x3 xx6x3 hp6x3 hx6x3
      refine g_enter2 (k := 270) (N := 300) (by omega) rfl (Nat.le_of_ble_eq_true rfl) ?_
      refine g_aload_n 1 (gd rfl) rfl rfl ?_
      refine g_iload_n 2 (gd rfl) rfl rfl ?_
      refine g_if_ne 5 9 (gd rfl) rfl rfl (fun c6x3x2 => ?_) (fun c6x3x2 => ?_)
      · skip
        refine g_iload_n 10 (gd rfl) rfl rfl ?_
        refine g_if_ne 13 17 (gd rfl) rfl rfl (fun c6x3x10 => ?_) (fun c6x3x10 => ?_)
        · skip
          refine g_iconst 0 18 (gd rfl) rfl rfl ?_
          refine g_putI 21 (gd rfl) rfl rfl rfl rfl ?_
          have hI6x3x18 := inv_sF (q := 109) (j := 0) hI rfl (in_w 0 2 (in_c 0 rfl) rfl)
          refine g_aload_n 22 (gd rfl) rfl rfl ?_
          refine g_getI 25 (gd rfl) rfl rfl rfl (fun z6x3x22 e6x3x22 => ?_)
          have q6x3x22 : (Int32.ofInt 0) = z6x3x22 := (sF_get).trans e6x3x22.symm
          subst q6x3x22
          refine g_if_le 28 32 (gd rfl) rfl rfl (fun c6x3x25 => ?_) (fun c6x3x25 => ?_)
          · skip
            refine g_iconst 0 33 (gd rfl) rfl rfl ?_
            refine g_ireturn (gd rfl) rfl (nb01 (in_w 0 1 (in_c 0 rfl) rfl)) (hp6x3 _ _ ?_)
            show GG _ _ _ _ _ _ _ _ [.int (Int32.ofInt 0)] _ _ _
            refine g_ireturn (gd rfl) rfl (nb01 (in_w 0 1 (in_c 0 rfl) rfl)) (hp6 _ _ ?_)
            show GG _ _ _ _ _ _ _ _ [.int (Int32.ofInt 0)] _ _ _
            refine g_if_eq 12 14 (gd rfl) rfl rfl (fun c9 => ?_) (fun c9 => ?_)
            · skip
              refine g_aload_n 15 (gd rfl) rfl rfl ?_
              refine g_getI 18 (gd rfl) rfl rfl rfl (fun z15 e15 => ?_)
              have q15 : u_109_20 = z15 := (sF_ne rfl (e_109_20)).trans e15.symm
              subst q15
              refine g_bipush 32 20 (gd rfl) rfl rfl ?_
              refine g_cmp_ne 23 27 (gd rfl) rfl rfl (fun c20 => ?_) (fun c20 => ?_)
              · skip
                have i20 := r_ne1 1 31 c20 i3x9a (in_c 32 rfl) rfl
                refine g_iconst 1 28 (gd rfl) rfl rfl ?_
                refine g_aload_n 29 (gd rfl) rfl rfl ?_
                refine g_getI 32 (gd rfl) rfl rfl rfl (fun z29 e29 => ?_)
                have q29 : u_109_20 = z29 := (sF_ne rfl (e_109_20)).trans e29.symm
                subst q29
                refine g_ishl 33 (gd rfl) rfl (fun z32 e32 => ?_)
                refine g_iconst 1 34 (gd rfl) rfl rfl ?_
                refine g_isub 35 (gd rfl) rfl (fun z34 e34 => ?_)
                refine g_istore_n 36 (gd rfl) rfl (Nat.le_of_ble_eq_true rfl) ?_
                refine g_iconst 0 37 (gd rfl) rfl rfl ?_
                refine g_istore_n 38 (gd rfl) rfl (Nat.le_of_ble_eq_true rfl) ?_
                refine g_iconst 0 39 (gd rfl) rfl rfl ?_
                refine g_istore 41 (gd rfl) rfl (Nat.le_of_ble_eq_true rfl) ?_
                have n41 : (x1).toInt < (u_109_20).toInt := by have a0 := i3x9; unfold In at a0; have a1 := i20; unfold In at a1; have a2 := (in_c 0 rfl); unfold In at a2; omega
                have n41a : 0 ≤ (x1).toInt := by have a0 := i3x9; unfold In at a0; have a1 := i20; unfold In at a1; have a2 := (in_c 0 rfl); unfold In at a2; omega
                have n41b : 161 ≤ ((Int32.ofInt 0)).toInt → ∀ j : Nat, (j : Int) < (u_109_20).toInt → bt z34 j = false := by first | exact fun h => g58_0 h c60 | (intro h; exfalso; have h0 : (Int32.ofInt 0).toInt = 0 := rfl; omega)
                have m41 : 200 - ((Int32.ofInt 0)).toInt < ((201 : Nat) : Int) := by have a0 := i3x9; unfold In at a0; have a1 := i20; unfold In at a1; have a2 := (in_c 0 rfl); unfold In at a2; omega
                exact gg_w (by omega) (gg_f (gf_cons rfl (gf_cons rfl (gf_cons rfl (gf_cons rfl (gf_cons rfl gf_nil))))) (ct41 201 (sF s 109 0 (Int32.ofInt 0)) z34 (Int32.ofInt 0) (Int32.ofInt 0) hI6x3x18 (fr_sF rfl fr_rf) (in_w 0 31 i3x9 rfl) (in_w 0 161 (in_c 0 rfl) rfl) (in_w 0 160 (in_c 0 rfl) rfl) n41 n41a n41b m41))
              · skip
                have i20 := r_eq1 32 32 c20 i3x9a (in_c 32 rfl) rfl
                refine g_iconst (-1) 24 (gd rfl) rfl rfl ?_
                refine g_goto 35 (gd rfl) rfl ?_
                refine g_istore_n 36 (gd rfl) rfl (Nat.le_of_ble_eq_true rfl) ?_
                refine g_iconst 0 37 (gd rfl) rfl rfl ?_
                refine g_istore_n 38 (gd rfl) rfl (Nat.le_of_ble_eq_true rfl) ?_
                refine g_iconst 0 39 (gd rfl) rfl rfl ?_
                refine g_istore 41 (gd rfl) rfl (Nat.le_of_ble_eq_true rfl) ?_
                have n41 : (x1).toInt < (u_109_20).toInt := by have a0 := i3x9; unfold In at a0; have a1 := i20; unfold In at a1; have a2 := (in_c 0 rfl); unfold In at a2; have a3 := (in_c (-1) rfl); unfold In at a3; omega
                have n41a : 0 ≤ (x1).toInt := by have a0 := i3x9; unfold In at a0; have a1 := i20; unfold In at a1; have a2 := (in_c 0 rfl); unfold In at a2; have a3 := (in_c (-1) rfl); unfold In at a3; omega
                have n41b : 161 ≤ ((Int32.ofInt 0)).toInt → ∀ j : Nat, (j : Int) < (u_109_20).toInt → bt (Int32.ofInt (-1)) j = false := by first | exact fun h => g58_0 h c60 | (intro h; exfalso; have h0 : (Int32.ofInt 0).toInt = 0 := rfl; omega)
                have m41 : 200 - ((Int32.ofInt 0)).toInt < ((201 : Nat) : Int) := by have a0 := i3x9; unfold In at a0; have a1 := i20; unfold In at a1; have a2 := (in_c 0 rfl); unfold In at a2; have a3 := (in_c (-1) rfl); unfold In at a3; omega
                exact gg_w (by omega) (gg_f (gf_cons rfl (gf_cons rfl (gf_cons rfl (gf_cons rfl (gf_cons rfl gf_nil))))) (ct41 201 (sF s 109 0 (Int32.ofInt 0)) (Int32.ofInt (-1)) (Int32.ofInt 0) (Int32.ofInt 0) hI6x3x18 (fr_sF rfl fr_rf) (in_w 0 31 i3x9 rfl) (in_w 0 161 (in_c 0 rfl) rfl) (in_w 0 160 (in_c 0 rfl) rfl) n41 n41a n41b m41))
            · skip
              exact zn_ne c9 (in_c 0 rfl) rfl
          · skip
            exact zn_gt c6x3x25 (in_c 0 rfl) rfl
        · skip
          exact zn_eq c6x3x10 (in_c 1 rfl) rfl
      · skip
        exact zn_eq c6x3x2 (in_c 1 rfl) rfl

def fm_338 : FM := ([138, 139, 140], [], [(109, 0)], [])
/-- GraphHouseModel.clique -/
theorem k_338 {Z : AmZ} {A : Nat → Nat} {s : GS} {ex : va_W} {d : Nat} {X : AmX} {x1 : Int32} (hd : 5 ≤ d) (hI : Inv s)  : GC Z d 338 [.ref (A 109), .int x1] (WW Z A s ++ ex) 0 0 (fun v u => ∃ t : GS, Inv t ∧ Fr fm_338 s t ∧ ∃ z : Int32, v = some (.int z) ∧ u = WW Z A t ++ ex ∧ In z (-1) 31) X := by
  intro post xp hP hX
  obtain ⟨u_109_20, e_109_20⟩ : ∃ w, w = s.2.2.1 109 20 := ⟨_, rfl⟩
  have ro_109_20 := inv_F hI 0 32 rfl e_109_20
  have ct28 : ∀ (k28 : Nat) (sc28 : GS) (y28_2 : Int32) (y28_3 : Int32) (y28_4 : Int32), Inv sc28 → Fr fm_338 s sc28 → (In x1 0 2147483647) → (In y28_3 0 32) → (In y28_4 0 32) → ((y28_3).toInt ≤ (y28_4).toInt + 0) → 32 - (y28_4).toInt < (k28 : Int) → GG Z (d - 1) 338 post (gx xp) (1 + k28 * 900) 28 (fun j => xlook j [(0, .ref (A 109)), (1, .int x1), (2, .int y28_2), (3, .int y28_3), (4, .int y28_4)]) [] (WW Z A sc28 ++ ex) 0 0 := by
    intro k28
    induction k28 with
    | zero => intro sc28 y28_2 y28_3 y28_4 hIc28 hFc28 j28_1 j28_3 j28_4 l28_3 mm28; exact m_no mm28 j28_4 rfl
    | succ k28 ih28 =>
      intro sc28 y28_2 y28_3 y28_4 hIc28 hFc28 j28_1 j28_3 j28_4 l28_3 mm28
      refine gg_w (M := 1 + k28 * 900 + 900) (by omega) ?_
      refine g_iload 30 (gd rfl) rfl rfl ?_
      refine g_aload_n 31 (gd rfl) rfl rfl ?_
      refine g_getI 34 (gd rfl) rfl rfl rfl (fun z31 e31 => ?_)
      have q31 : u_109_20 = z31 := (fr_F e_109_20 hFc28 rfl).trans e31.symm
      subst q31
      refine g_cmp_ge 37 63 (gd rfl) rfl rfl (fun c34 => ?_) (fun c34 => ?_)
      · skip
        refine g_iconst (-1) 64 (gd rfl) rfl rfl ?_
        exact g_ireturn (gd rfl) rfl rfl (hP _ _ ⟨sc28, hIc28, hFc28, (Int32.ofInt (-1)), rfl, rfl, in_w (-1) 31 (in_c (-1) rfl) rfl⟩)
      · skip
        have i34 := r_lt1 0 31 c34 j28_4 ro_109_20 rfl
        have i34a := r_lt2 1 32 c34 j28_4 ro_109_20 rfl
        refine g_iload_n 38 (gd rfl) rfl rfl ?_
        refine g_iload 40 (gd rfl) rfl rfl ?_
        refine g_calls (As := [.int y28_2, .int y28_4]) (r := []) 43 (gd rfl) rfl rfl rfl rfl rfl (Nat.le_of_ble_eq_true rfl) (mc := 0) (ms := 0) (Nat.zero_le _) (Nat.zero_le _) (P := fun v u => _) ?_ (fun v u h => h)
        intro po40 xx40 hp40 hx40
        refine g_enter2 (k := 311) (N := 300) (by omega) rfl (Nat.le_of_ble_eq_true rfl) ?_
        refine g_iload_n 1 (gd rfl) rfl rfl ?_
        refine g_iload_n 2 (gd rfl) rfl rfl ?_
        refine g_ishr 3 (gd rfl) rfl (fun z40x2 e40x2 => ?_)
        refine g_iconst 1 4 (gd rfl) rfl rfl ?_
        refine g_iand 5 (gd rfl) rfl (fun z40x4 e40x4 => ?_)
        have i40x4 := in_and2 e40x4 (in_c 1 rfl) rfl
        refine g_iconst 1 6 (gd rfl) rfl rfl ?_
        refine g_cmp_ne 9 13 (gd rfl) rfl rfl (fun c40x6 => ?_) (fun c40x6 => ?_)
        · skip
          have i40x6 := r_ne1 0 0 c40x6 i40x4 (in_c 1 rfl) rfl
          refine g_iconst 0 14 (gd rfl) rfl rfl ?_
          refine g_ireturn (gd rfl) rfl (nb01 (in_w 0 1 (in_c 0 rfl) rfl)) (hp40 _ _ ?_)
          show GG _ _ _ _ _ _ _ _ [.int (Int32.ofInt 0)] _ _ _
          refine g_if_eq 46 57 (gd rfl) rfl rfl (fun c43 => ?_) (fun c43 => ?_)
          · skip
            refine g_iinc 60 (gd rfl) rfl rfl (Nat.le_of_ble_eq_true rfl) (fun z57 e57 => ?_)
            have i57 := in_add 1 32 e57 i34 (in_c 1 rfl) rfl rfl
            refine g_goto 28 (gd rfl) rfl ?_
            have l28 := rl_0 l28_3 (t_add e57 i34 (in_c 1 rfl) rfl) (in_w 0 1 (in_c 1 rfl) rfl)
            exact gg_w (by omega) (gg_f (gf_cons rfl (gf_cons rfl (gf_cons rfl (gf_cons rfl (gf_cons rfl gf_nil))))) (ih28 sc28 y28_2 y28_3 z57 hIc28 hFc28 (in_w 0 2147483647 j28_1 rfl) (rl_w 0 32 l28 j28_3 (in_w 0 32 i57 rfl) rfl) (in_w 0 32 i57 rfl) l28 (m_up mm28 (t_add e57 i34 (in_c 1 rfl) rfl) (in_w 1 1 (in_c 1 rfl) rfl))))
          · skip
            exact zn_ne c43 (in_c 0 rfl) rfl
        · skip
          have i40x6 := r_eq1 1 1 c40x6 i40x4 (in_c 1 rfl) rfl
          refine g_iconst 1 10 (gd rfl) rfl rfl ?_
          refine g_goto 14 (gd rfl) rfl ?_
          refine g_ireturn (gd rfl) rfl (nb01 (in_w 0 1 (in_c 1 rfl) rfl)) (hp40 _ _ ?_)
          show GG _ _ _ _ _ _ _ _ [.int (Int32.ofInt 1)] _ _ _
          refine g_if_eq 46 57 (gd rfl) rfl rfl (fun c43 => ?_) (fun c43 => ?_)
          · skip
            exact zn_eq c43 (in_c 1 rfl) rfl
          · skip
            refine g_iload_n 47 (gd rfl) rfl rfl ?_
            refine g_iload_n 48 (gd rfl) rfl rfl ?_
            refine g_cmp_ne 51 54 (gd rfl) rfl rfl (fun c48 => ?_) (fun c48 => ?_)
            · skip
              refine g_iinc 57 (gd rfl) rfl rfl (Nat.le_of_ble_eq_true rfl) (fun z54 e54 => ?_)
              have i54 := in_add 1 33 e54 j28_3 (in_c 1 rfl) rfl rfl
              refine g_iinc 60 (gd rfl) rfl rfl (Nat.le_of_ble_eq_true rfl) (fun z57 e57 => ?_)
              have i57 := in_add 1 32 e57 i34 (in_c 1 rfl) rfl rfl
              refine g_goto 28 (gd rfl) rfl ?_
              have l28 := rl_1 l28_3 (t_add e54 j28_3 (in_c 1 rfl) rfl) (in_c 1 rfl) (t_add e57 i34 (in_c 1 rfl) rfl) (in_c 1 rfl) rfl
              exact gg_w (by omega) (gg_f (gf_cons rfl (gf_cons rfl (gf_cons rfl (gf_cons rfl (gf_cons rfl gf_nil))))) (ih28 sc28 y28_2 z54 z57 hIc28 hFc28 (in_w 0 2147483647 j28_1 rfl) (rl_w 0 32 l28 i54 (in_w 0 32 i57 rfl) rfl) (in_w 0 32 i57 rfl) l28 (m_up mm28 (t_add e57 i34 (in_c 1 rfl) rfl) (in_w 1 1 (in_c 1 rfl) rfl))))
            · skip
              have i48 := r_eq2 0 32 c48 j28_3 j28_1 rfl
              refine g_iload 53 (gd rfl) rfl rfl ?_
              exact g_ireturn (gd rfl) rfl rfl (hP _ _ ⟨sc28, hIc28, hFc28, y28_4, rfl, rfl, in_w (-1) 31 i34 rfl⟩)
  refine g_enter2 (k := 338) (N := 30601) (by omega) rfl (Nat.le_of_ble_eq_true rfl) ?_
  refine g_aload_n 1 (gd rfl) rfl rfl ?_
  refine g_iload_n 2 (gd rfl) rfl rfl ?_
  refine g_if_lt 5 9 (gd rfl) rfl rfl (fun c2 => ?_) (fun c2 => ?_)
  · skip
    have i2 := z_lt (-2147483648) (-1) c2 (i_rng x1) rfl
    refine g_iconst 0 10 (gd rfl) rfl rfl ?_
    refine g_callv (X := _) (As := [.int (Int32.ofInt 0)]) (r := []) (b := A 109) (q := 109) 13 (gd rfl) rfl rfl rfl rfl rfl (ww_o rfl) (Nat.le_of_ble_eq_true rfl) (mc := 0) (ms := 0) (Nat.zero_le _) (Nat.zero_le _) (P := fun v u => _) ?_ (fun e u h => h) (fun v u h => h)
    intro po10 xx10 hp10 hx10
    refine g_enter2 (k := 271) (N := 300) (by omega) rfl (Nat.le_of_ble_eq_true rfl) ?_
    refine g_aload_n 1 (gd rfl) rfl rfl ?_
    refine g_iload_n 2 (gd rfl) rfl rfl ?_
    refine g_iconst 1 3 (gd rfl) rfl rfl ?_
    refine g_callv (X := _) (As := [.int (Int32.ofInt 0), .int (Int32.ofInt 1)]) (r := []) (b := A 109) (q := 109) 6 (gd rfl) rfl rfl rfl rfl rfl (ww_o rfl) (Nat.le_of_ble_eq_true rfl) (mc := 0) (ms := 0) (Nat.zero_le _) (Nat.zero_le _) (P := fun v u => _) ?_ (fun e u h => h) (fun v u h => h)
    intro po10x3 xx10x3 hp10x3 hx10x3
    refine g_enter2 (k := 270) (N := 300) (by omega) rfl (Nat.le_of_ble_eq_true rfl) ?_
    refine g_aload_n 1 (gd rfl) rfl rfl ?_
    refine g_iload_n 2 (gd rfl) rfl rfl ?_
    refine g_if_ne 5 9 (gd rfl) rfl rfl (fun c10x3x2 => ?_) (fun c10x3x2 => ?_)
    · skip
      exact zn_ne c10x3x2 (in_c 0 rfl) rfl
    · skip
      refine g_iconst 1 6 (gd rfl) rfl rfl ?_
      refine g_goto 18 (gd rfl) rfl ?_
      refine g_putI 21 (gd rfl) rfl rfl rfl rfl ?_
      have hI10x3x18 := inv_sF (q := 109) (j := 0) hI rfl (in_w 0 2 (in_c 1 rfl) rfl)
      refine g_aload_n 22 (gd rfl) rfl rfl ?_
      refine g_getI 25 (gd rfl) rfl rfl rfl (fun z10x3x22 e10x3x22 => ?_)
      have q10x3x22 : (Int32.ofInt 1) = z10x3x22 := (sF_get).trans e10x3x22.symm
      subst q10x3x22
      refine g_if_le 28 32 (gd rfl) rfl rfl (fun c10x3x25 => ?_) (fun c10x3x25 => ?_)
      · skip
        exact zn_le c10x3x25 (in_c 1 rfl) rfl
      · skip
        refine g_iconst 1 29 (gd rfl) rfl rfl ?_
        refine g_goto 33 (gd rfl) rfl ?_
        refine g_ireturn (gd rfl) rfl (nb01 (in_w 0 1 (in_c 1 rfl) rfl)) (hp10x3 _ _ ?_)
        show GG _ _ _ _ _ _ _ _ [.int (Int32.ofInt 1)] _ _ _
        refine g_ireturn (gd rfl) rfl (nb01 (in_w 0 1 (in_c 1 rfl) rfl)) (hp10 _ _ ?_)
        show GG _ _ _ _ _ _ _ _ [.int (Int32.ofInt 1)] _ _ _
        refine g_if_eq 16 18 (gd rfl) rfl rfl (fun c13 => ?_) (fun c13 => ?_)
        · skip
          exact zn_eq c13 (in_c 1 rfl) rfl
        · skip
          refine g_iconst 0 17 (gd rfl) rfl rfl ?_
          exact g_ireturn (gd rfl) rfl rfl (hP _ _ ⟨(sF s 109 0 (Int32.ofInt 1)), hI10x3x18, (fr_sF rfl fr_rf), (Int32.ofInt 0), rfl, rfl, in_w (-1) 31 (in_c 0 rfl) rfl⟩)
  · skip
    have i2 := z_ge 0 2147483647 c2 (i_rng x1) rfl
    refine g_iconst 1 6 (gd rfl) rfl rfl ?_
    refine g_goto 10 (gd rfl) rfl ?_
    refine g_callv (X := _) (As := [.int (Int32.ofInt 1)]) (r := []) (b := A 109) (q := 109) 13 (gd rfl) rfl rfl rfl rfl rfl (ww_o rfl) (Nat.le_of_ble_eq_true rfl) (mc := 0) (ms := 0) (Nat.zero_le _) (Nat.zero_le _) (P := fun v u => _) ?_ (fun e u h => h) (fun v u h => h)
    intro po10 xx10 hp10 hx10
    refine g_enter2 (k := 271) (N := 300) (by omega) rfl (Nat.le_of_ble_eq_true rfl) ?_
    refine g_aload_n 1 (gd rfl) rfl rfl ?_
    refine g_iload_n 2 (gd rfl) rfl rfl ?_
    refine g_iconst 1 3 (gd rfl) rfl rfl ?_
    refine g_callv (X := _) (As := [.int (Int32.ofInt 1), .int (Int32.ofInt 1)]) (r := []) (b := A 109) (q := 109) 6 (gd rfl) rfl rfl rfl rfl rfl (ww_o rfl) (Nat.le_of_ble_eq_true rfl) (mc := 0) (ms := 0) (Nat.zero_le _) (Nat.zero_le _) (P := fun v u => _) ?_ (fun e u h => h) (fun v u h => h)
    intro po10x3 xx10x3 hp10x3 hx10x3
    refine g_enter2 (k := 270) (N := 300) (by omega) rfl (Nat.le_of_ble_eq_true rfl) ?_
    refine g_aload_n 1 (gd rfl) rfl rfl ?_
    refine g_iload_n 2 (gd rfl) rfl rfl ?_
    refine g_if_ne 5 9 (gd rfl) rfl rfl (fun c10x3x2 => ?_) (fun c10x3x2 => ?_)
    · skip
      refine g_iload_n 10 (gd rfl) rfl rfl ?_
      refine g_if_ne 13 17 (gd rfl) rfl rfl (fun c10x3x10 => ?_) (fun c10x3x10 => ?_)
      · skip
        refine g_iconst 0 18 (gd rfl) rfl rfl ?_
        refine g_putI 21 (gd rfl) rfl rfl rfl rfl ?_
        have hI10x3x18 := inv_sF (q := 109) (j := 0) hI rfl (in_w 0 2 (in_c 0 rfl) rfl)
        refine g_aload_n 22 (gd rfl) rfl rfl ?_
        refine g_getI 25 (gd rfl) rfl rfl rfl (fun z10x3x22 e10x3x22 => ?_)
        have q10x3x22 : (Int32.ofInt 0) = z10x3x22 := (sF_get).trans e10x3x22.symm
        subst q10x3x22
        refine g_if_le 28 32 (gd rfl) rfl rfl (fun c10x3x25 => ?_) (fun c10x3x25 => ?_)
        · skip
          refine g_iconst 0 33 (gd rfl) rfl rfl ?_
          refine g_ireturn (gd rfl) rfl (nb01 (in_w 0 1 (in_c 0 rfl) rfl)) (hp10x3 _ _ ?_)
          show GG _ _ _ _ _ _ _ _ [.int (Int32.ofInt 0)] _ _ _
          refine g_ireturn (gd rfl) rfl (nb01 (in_w 0 1 (in_c 0 rfl) rfl)) (hp10 _ _ ?_)
          show GG _ _ _ _ _ _ _ _ [.int (Int32.ofInt 0)] _ _ _
          refine g_if_eq 16 18 (gd rfl) rfl rfl (fun c13 => ?_) (fun c13 => ?_)
          · skip
            refine g_aload_n 19 (gd rfl) rfl rfl ?_
            refine g_callv (X := _) (As := []) (r := []) (b := A 109) (q := 109) 22 (gd rfl) rfl rfl rfl rfl rfl (ww_o rfl) (Nat.le_of_ble_eq_true rfl) (Nat.zero_le _) (Nat.zero_le _) (k_337 (by omega) hI10x3x18 ) (fun e u h => h) (fun v u h => ?_)
            obtain ⟨s19, hI19, hF19, z19, rfl, rfl, i19, p19⟩ := h
            show GG _ _ _ _ _ _ _ _ [.int z19] _ _ _
            refine g_istore_n 23 (gd rfl) rfl (Nat.le_of_ble_eq_true rfl) ?_
            refine g_iconst 0 24 (gd rfl) rfl rfl ?_
            refine g_istore_n 25 (gd rfl) rfl (Nat.le_of_ble_eq_true rfl) ?_
            refine g_iconst 0 26 (gd rfl) rfl rfl ?_
            refine g_istore 28 (gd rfl) rfl (Nat.le_of_ble_eq_true rfl) ?_
            have l28 := rl_in 0 (in_c 0 rfl) (in_c 0 rfl) rfl
            exact gg_w (by omega) (gg_f (gf_cons rfl (gf_cons rfl (gf_cons rfl (gf_cons rfl (gf_cons rfl gf_nil))))) (ct28 33 s19 z19 (Int32.ofInt 0) (Int32.ofInt 0) hI19 (fr_tr rfl (fr_sF rfl fr_rf) hF19) (in_w 0 2147483647 i2 rfl) (rl_w 0 32 l28 (in_c 0 rfl) (in_w 0 32 (in_c 0 rfl) rfl) rfl) (in_w 0 32 (in_c 0 rfl) rfl) l28 (m_in 33 (in_w 0 32 (in_c 0 rfl) rfl) rfl)))
          · skip
            exact zn_ne c13 (in_c 0 rfl) rfl
        · skip
          exact zn_gt c10x3x25 (in_c 0 rfl) rfl
      · skip
        exact zn_eq c10x3x10 (in_c 1 rfl) rfl
    · skip
      exact zn_eq c10x3x2 (in_c 1 rfl) rfl
