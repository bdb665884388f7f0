section
/-! FUNCTIONAL CONTRACTS, by fgen.py -/
theorem oc_302_109 : (Int32.ofInt (-4)).toInt = (-4) ∧ (Int32.ofInt (-1)).toInt = (-1) ∧ (Int32.ofInt 0).toInt = 0 ∧ (Int32.ofInt 1).toInt = 1 ∧ (Int32.ofInt 2).toInt = 2 ∧ (Int32.ofInt 3).toInt = 3 ∧ (Int32.ofInt 4).toInt = 4 ∧ (Int32.ofInt 5).toInt = 5 := ⟨rfl, rfl, rfl, rfl, rfl, rfl, rfl, rfl⟩
/-- GraphHouseModel.load -/
theorem f_302 {Z : AmZ} {A : Nat → Nat} {s : GS} {ex : va_W} {d : Nat} {X : AmX} {u_109_22 : Int32} (hd : 6 ≤ d) (hI : Inv s) (e_109_22 : u_109_22 = s.2.2.1 109 22) : GC Z d 302 [.ref (A 109)] (WW Z A s ++ ex) 0 0 (fun v u => ∃ t : GS, Inv t ∧ Fr fm_302 s t ∧ ∃ z : Int32, v = some (.int z) ∧ u = WW Z A t ++ ex ∧ In z (-4) 500 ∧ (LOT (s.1 125) (s.2.2.1 109 22).toInt.toNat (gvR s) (z).toInt (t.2.2.1 109 23).toInt (t.2.2.1 109 24).toInt (gvR t)) ∧ (LDO s t z) ∧ (G1S s t)) X := by
  intro post xp hP hX
  have ro_109_22 := inv_F hI 0 1000 rfl e_109_22
  have ct72 : ∀ (k72 : Nat) (sc72 : GS) (y72_1 : Int32) (w72_109_9 : Int32) (w72_109_32 : Int32), Inv sc72 → Fr fm_302 s sc72 → (In y72_1 0 500) → (w72_109_9 = sc72.2.2.1 109 9) → (w72_109_32 = sc72.2.2.1 109 32) → ((w72_109_9).toInt + (w72_109_32).toInt - (y72_1).toInt ≤ 4000) → (LDK sc72 (sc72.2.2.1 109 32).toNatClampNeg (y72_1).toNatClampNeg) → (LD3 s sc72 (y72_1).toNatClampNeg) → (LDL s sc72 (y72_1).toNatClampNeg) → (LDB s sc72) → (G1S s sc72) → 500 - (y72_1).toInt < (k72 : Int) → GG Z (d - 1) 302 post (gx xp) (1 + k72 * 900) 72 (fun j => xlook j [(0, .ref (A 109)), (1, .int y72_1)]) [] (WW Z A sc72 ++ ex) 0 0 := by
    intro k72
    induction k72 with
    | zero => intro sc72 y72_1 w72_109_9 w72_109_32 hIc72 hFc72 j72_1 v72_109_9 v72_109_32 n72_0 g72_0 g72_1 g72_2 g72_3 g72_4 mm72; exact m_no mm72 j72_1 rfl
    | succ k72 ih72 =>
      intro sc72 y72_1 w72_109_9 w72_109_32 hIc72 hFc72 j72_1 v72_109_9 v72_109_32 n72_0 g72_0 g72_1 g72_2 g72_3 g72_4 mm72
      refine gg_w (M := 1 + k72 * 900 + 900) gws ?_
      refine g_iload_n 73 (gd rfl) rfl rfl ?_
      refine g_aload_n 74 (gd rfl) rfl rfl ?_
      refine g_getI 77 (gd rfl) rfl rfl rfl (fun z74 e74 => ?_)
      have q74 : w72_109_32 = z74 := (v72_109_32).trans e74.symm
      subst q74
      refine g_cmp_ge 80 242 (gd rfl) rfl rfl (fun c77 => ?_) (fun c77 => ?_)
      · skip
        refine g_aload_n 243 (gd rfl) rfl rfl ?_
        refine g_getI 246 (gd rfl) rfl rfl rfl (fun z243 e243 => ?_)
        have q243 : w72_109_32 = z243 := (v72_109_32).trans e243.symm
        subst q243
        have n246 : LOT (s.1 125) (s.2.2.1 109 22).toInt.toNat (gvR s) (w72_109_32).toInt (sc72.2.2.1 109 23).toInt (sc72.2.2.1 109 24).toInt (gvR sc72) := by exact ld3_e g72_1 (by rw [← v72_109_32]; show w72_109_32.toInt.toNat ≤ y72_1.toInt.toNat; have a0 := oa4 ro_109_22 ((inv_F hIc72 0 500 rfl v72_109_32)) ((inv_F hIc72 0 4000 rfl v72_109_9)) j72_1; have oc := oc_302_109; (first | exact zt_v (by omega) | omega)) (by rw [← v72_109_32]; show w72_109_32.toInt = ((w72_109_32.toInt.toNat : Nat) : Int); have a0 := oa4 ro_109_22 ((inv_F hIc72 0 500 rfl v72_109_32)) ((inv_F hIc72 0 4000 rfl v72_109_9)) j72_1; have oc := oc_302_109; omega) rfl
        have n246a : LDO s sc72 w72_109_32 := by exact ⟨fun _ => ⟨(by have q := g72_2; rw [show y72_1.toNatClampNeg = w72_109_32.toNatClampNeg from (by have a := g72_1.2.2.2.2; rw [← v72_109_32] at a; have b : w72_109_32.toNatClampNeg = w72_109_32.toInt.toNat := rfl; have c : y72_1.toNatClampNeg = y72_1.toInt.toNat := rfl; have a0 := oa4 ro_109_22 ((inv_F hIc72 0 500 rfl v72_109_32)) ((inv_F hIc72 0 4000 rfl v72_109_9)) j72_1; have oc := oc_302_109; omega)] at q; exact q), g72_3, by rw [← v72_109_32]⟩, fun h => (by exfalso; have a0 := oa4 ro_109_22 ((inv_F hIc72 0 500 rfl v72_109_32)) ((inv_F hIc72 0 4000 rfl v72_109_9)) j72_1; have oc := oc_302_109; omega)⟩
        have n246b : G1S s sc72 := by exact g72_4
        exact g_ireturn (gd rfl) rfl rfl (hP _ _ ⟨sc72, hIc72, hFc72, w72_109_32, rfl, rfl, in_w (-4) 500 (inv_F hIc72 0 500 rfl v72_109_32) rfl, n246, n246a, n246b⟩)
      · skip
        have i77 := r_lt1 0 499 c77 j72_1 (inv_F hIc72 0 500 rfl v72_109_32) rfl
        have i77a := r_lt2 1 500 c77 j72_1 (inv_F hIc72 0 500 rfl v72_109_32) rfl
        have i80 : In w72_109_9 0 3999 := by exact ⟨(inv_F hIc72 0 4000 rfl v72_109_9).1, by have a0 := oa4 ro_109_22 i77a ((inv_F hIc72 0 4000 rfl v72_109_9)) i77; have oc := oc_302_109; omega⟩
        refine g_iconst 5 81 (gd rfl) rfl rfl ?_
        refine g_iload_n 82 (gd rfl) rfl rfl ?_
        refine g_imul 83 (gd rfl) rfl (fun z82 e82 => ?_)
        have i82 := in_mulc 5 0 2495 (Or.inl e82) i77 rfl rfl
        refine g_istore_n 84 (gd rfl) rfl (Nat.le_of_ble_eq_true rfl) ?_
        have hr := ldk_r g72_0 (show y72_1.toNatClampNeg < (sc72.2.2.1 109 32).toNatClampNeg from (by rw [← v72_109_32]; show y72_1.toInt.toNat < w72_109_32.toInt.toNat; have a0 := oa5 ro_109_22 i77a i80 i77 i82; have a5 := (t_mulc 5 (Or.inl e82) i77 rfl).1; have oc := oc_302_109; (first | exact zt_t (by omega) (by omega) | omega))); have hn0 := inv_n0 hIc72
        refine g_aload_n 85 (gd rfl) rfl rfl ?_
        refine g_getA (q2 := 127) 88 (gd rfl) rfl rfl rfl rfl ?_
        refine g_iload_n 89 (gd rfl) rfl rfl ?_
        refine g_iaload 90 (gd rfl) rfl (n := 500) rfl (in_ix i77 rfl) (fun z89 e89 => ?_)
        refine g_lsw [(97, 143), (110, 124), (116, 194)] 213 (gd rfl) rfl rfl rfl ⟨fun c90 => ?_, fun c90_0 => ⟨fun c90 => ?_, fun c90_1 => ⟨fun c90 => ?_, fun c90_2 => ?_⟩⟩⟩
        · skip
          have i90 := sw_eq c90
          refine g_aload_n 144 (gd rfl) rfl rfl ?_
          refine g_iconst 1 145 (gd rfl) rfl rfl ?_
          refine g_aload_n 146 (gd rfl) rfl rfl ?_
          refine g_iconst 0 147 (gd rfl) rfl rfl ?_
          refine g_callv (X := _) (As := [.int (Int32.ofInt 0)]) (r := [.int (Int32.ofInt 1), .ref (A 109)]) (b := A 109) (q := 109) 150 (gd rfl) rfl rfl rfl rfl rfl (ww_o rfl) (Nat.le_of_ble_eq_true rfl) (Nat.zero_le _) (Nat.zero_le _) (k_280 (by first | exact dq1 hd rfl | exact dq0 hd rfl | exact dq2 hd rfl | exact dq3 hd rfl | omega) hIc72 (in_w 0 2 (in_c 0 rfl) rfl)) (fun e u h => h) (fun v u h => ?_)
          obtain ⟨z147, rfl, rfl, i147, p147⟩ := h
          show GG _ _ _ _ _ _ _ _ [.int z147, .int (Int32.ofInt 1), .ref (A 109)] _ _ _
          have i150 : In z147 0 159 := by have q := (hr.2.1 (show (sc72.1 127 y72_1.toNatClampNeg).toInt = 97 from (by rw [← e89]; exact c90))).1; have p := p147; have r := i147; unfold In at r; have e : z147.toNatClampNeg = z147.toInt.toNat := rfl; have p2 : z147.toNatClampNeg = fpl (thg sc72 0) := p; exact ⟨r.1, by omega⟩
          refine g_aload_n 151 (gd rfl) rfl rfl ?_
          refine g_getA (q2 := 128) 154 (gd rfl) rfl rfl rfl rfl ?_
          refine g_iload_n 155 (gd rfl) rfl rfl ?_
          refine g_iaload 156 (gd rfl) rfl (n := 2500) rfl (in_ix i82 rfl) (fun z155 e155 => ?_)
          have i156 : In z155 0 31 := by have q := (hr.2.1 (show (sc72.1 127 y72_1.toNatClampNeg).toInt = 97 from (by rw [← e89]; exact c90))).2.1; rw [show 5 * y72_1.toNatClampNeg = z82.toNatClampNeg from (by show 5 * y72_1.toInt.toNat = z82.toInt.toNat; have a0 := oa5 ro_109_22 i77a i80 i77 i82; have a5 := (t_mulc 5 (Or.inl e82) i77 rfl).1; have oc := oc_302_109; omega), ← e155] at q; obtain ⟨q1, q2⟩ := q; exact ⟨q1, by omega⟩
          refine g_aload_n 157 (gd rfl) rfl rfl ?_
          refine g_getA (q2 := 128) 160 (gd rfl) rfl rfl rfl rfl ?_
          refine g_iload_n 161 (gd rfl) rfl rfl ?_
          refine g_iconst 1 162 (gd rfl) rfl rfl ?_
          refine g_iadd 163 (gd rfl) rfl (fun z162 e162 => ?_)
          have i162 := in_add 1 2496 e162 i82 (in_c 1 rfl) rfl rfl
          refine g_iaload 164 (gd rfl) rfl (n := 2500) rfl (in_ix i162 rfl) (fun z163 e163 => ?_)
          have i164 : In z163 0 31 := by have q := (hr.2.1 (show (sc72.1 127 y72_1.toNatClampNeg).toInt = 97 from (by rw [← e89]; exact c90))).2.2.1; rw [show 5 * y72_1.toNatClampNeg + 1 = z162.toNatClampNeg from (by show 5 * y72_1.toInt.toNat + 1 = z162.toInt.toNat; have a0 := oa5 ro_109_22 i77a i80 i77 i82; have a5 := (t_mulc 5 (Or.inl e82) i77 rfl).1; have a6 := in_u i162; have a7 := t_add e162 i82 (in_c 1 rfl) rfl; have a8 := in_u ((in_c 1 rfl)); have oc := oc_302_109; omega), ← e163] at q; obtain ⟨q1, q2⟩ := q; exact ⟨q1, by omega⟩
          refine g_aload_n 165 (gd rfl) rfl rfl ?_
          refine g_getA (q2 := 128) 168 (gd rfl) rfl rfl rfl rfl ?_
          refine g_iload_n 169 (gd rfl) rfl rfl ?_
          refine g_iconst 2 170 (gd rfl) rfl rfl ?_
          refine g_iadd 171 (gd rfl) rfl (fun z170 e170 => ?_)
          have i170 := in_add 2 2497 e170 i82 (in_c 2 rfl) rfl rfl
          refine g_iaload 172 (gd rfl) rfl (n := 2500) rfl (in_ix i170 rfl) (fun z171 e171 => ?_)
          have i172 : In z171 (-1000000) 1000000 := by have q := (hr.2.1 (show (sc72.1 127 y72_1.toNatClampNeg).toInt = 97 from (by rw [← e89]; exact c90))).2.2.2.1; rw [show 5 * y72_1.toNatClampNeg + 2 = z170.toNatClampNeg from (by show 5 * y72_1.toInt.toNat + 2 = z170.toInt.toNat; have a0 := oa5 ro_109_22 i77a i80 i77 i82; have a5 := (t_mulc 5 (Or.inl e82) i77 rfl).1; have a6 := in_u i170; have a7 := t_add e170 i82 (in_c 2 rfl) rfl; have a8 := oa2 ((in_c 2 rfl)) i162; have a10 := t_add e162 i82 (in_c 1 rfl) rfl; have a11 := in_u ((in_c 1 rfl)); have oc := oc_302_109; omega), ← e171] at q; exact q
          refine g_aload_n 173 (gd rfl) rfl rfl ?_
          refine g_getA (q2 := 128) 176 (gd rfl) rfl rfl rfl rfl ?_
          refine g_iload_n 177 (gd rfl) rfl rfl ?_
          refine g_iconst 3 178 (gd rfl) rfl rfl ?_
          refine g_iadd 179 (gd rfl) rfl (fun z178 e178 => ?_)
          have i178 := in_add 3 2498 e178 i82 (in_c 3 rfl) rfl rfl
          refine g_iaload 180 (gd rfl) rfl (n := 2500) rfl (in_ix i178 rfl) (fun z179 e179 => ?_)
          have i180 : In z179 0 1000000 := by have q := (hr.2.1 (show (sc72.1 127 y72_1.toNatClampNeg).toInt = 97 from (by rw [← e89]; exact c90))).2.2.2.2.1; rw [show 5 * y72_1.toNatClampNeg + 3 = z178.toNatClampNeg from (by show 5 * y72_1.toInt.toNat + 3 = z178.toInt.toNat; have a0 := oa5 ro_109_22 i77a i80 i77 i82; have a5 := (t_mulc 5 (Or.inl e82) i77 rfl).1; have a6 := in_u i178; have a7 := t_add e178 i82 (in_c 3 rfl) rfl; have a8 := oa2 ((in_c 3 rfl)) i170; have a10 := t_add e170 i82 (in_c 2 rfl) rfl; have a11 := oa2 ((in_c 2 rfl)) i162; have a13 := t_add e162 i82 (in_c 1 rfl) rfl; have a14 := in_u ((in_c 1 rfl)); have oc := oc_302_109; omega), ← e179] at q; exact q
          refine g_aload_n 181 (gd rfl) rfl rfl ?_
          refine g_getA (q2 := 128) 184 (gd rfl) rfl rfl rfl rfl ?_
          refine g_iload_n 185 (gd rfl) rfl rfl ?_
          refine g_iconst 4 186 (gd rfl) rfl rfl ?_
          refine g_iadd 187 (gd rfl) rfl (fun z186 e186 => ?_)
          have i186 := in_add 4 2499 e186 i82 (in_c 4 rfl) rfl rfl
          refine g_iaload 188 (gd rfl) rfl (n := 2500) rfl (in_ix i186 rfl) (fun z187 e187 => ?_)
          have i188 : In z187 0 25 := by have q := (hr.2.1 (show (sc72.1 127 y72_1.toNatClampNeg).toInt = 97 from (by rw [← e89]; exact c90))).2.2.2.2.2; rw [show 5 * y72_1.toNatClampNeg + 4 = z186.toNatClampNeg from (by show 5 * y72_1.toInt.toNat + 4 = z186.toInt.toNat; have a0 := oa5 ro_109_22 i77a i80 i77 i82; have a5 := (t_mulc 5 (Or.inl e82) i77 rfl).1; have a6 := in_u i186; have a7 := t_add e186 i82 (in_c 4 rfl) rfl; have a8 := oa2 ((in_c 4 rfl)) i178; have a10 := t_add e178 i82 (in_c 3 rfl) rfl; have a11 := oa2 ((in_c 3 rfl)) i170; have a13 := t_add e170 i82 (in_c 2 rfl) rfl; have a14 := oa2 ((in_c 2 rfl)) i162; have a16 := t_add e162 i82 (in_c 1 rfl) rfl; have a17 := in_u ((in_c 1 rfl)); have oc := oc_302_109; omega), ← e187] at q; exact q
          have p188 : MK sc72 (Int32.ofInt 1) z147 z155 z163 := by have q1 := (hr.2.1 (show (sc72.1 127 y72_1.toNatClampNeg).toInt = 97 from (by rw [← e89]; exact c90))).2.1; have q2 := (hr.2.1 (show (sc72.1 127 y72_1.toNatClampNeg).toInt = 97 from (by rw [← e89]; exact c90))).2.2.1; rw [show 5 * y72_1.toNatClampNeg = z82.toNatClampNeg from (by show 5 * y72_1.toInt.toNat = z82.toInt.toNat; have a0 := in_u ro_109_22; have a1 := in_u i77a; have a2 := in_u i80; have a3 := in_u i77; have a4 := in_u i82; have a5 := (t_mulc 5 (Or.inl e82) i77 rfl).1; have a6 := in_u i186; have a7 := t_add e186 i82 (in_c 4 rfl) rfl; have a8 := in_u ((in_c 4 rfl)); have a9 := in_u i178; have a10 := t_add e178 i82 (in_c 3 rfl) rfl; have a11 := in_u ((in_c 3 rfl)); have a12 := in_u i170; have a13 := t_add e170 i82 (in_c 2 rfl) rfl; have a14 := in_u ((in_c 2 rfl)); have a15 := in_u i162; have a16 := t_add e162 i82 (in_c 1 rfl) rfl; have a17 := in_u ((in_c 1 rfl)); have oc := oc_302_109; omega), ← e155] at q1; rw [show 5 * y72_1.toNatClampNeg + 1 = z162.toNatClampNeg from (by show 5 * y72_1.toInt.toNat + 1 = z162.toInt.toNat; have a0 := in_u ro_109_22; have a1 := in_u i77a; have a2 := in_u i80; have a3 := in_u i77; have a4 := in_u i82; have a5 := (t_mulc 5 (Or.inl e82) i77 rfl).1; have a6 := in_u i186; have a7 := t_add e186 i82 (in_c 4 rfl) rfl; have a8 := in_u ((in_c 4 rfl)); have a9 := in_u i178; have a10 := t_add e178 i82 (in_c 3 rfl) rfl; have a11 := in_u ((in_c 3 rfl)); have a12 := in_u i170; have a13 := t_add e170 i82 (in_c 2 rfl) rfl; have a14 := in_u ((in_c 2 rfl)); have a15 := in_u i162; have a16 := t_add e162 i82 (in_c 1 rfl) rfl; have a17 := in_u ((in_c 1 rfl)); have oc := oc_302_109; omega), ← e163] at q2; obtain ⟨a1, a2⟩ := q1; obtain ⟨a3, a4⟩ := q2; exact ⟨fun h => absurd h (by decide), fun _ => ⟨by omega, a3, by omega⟩, fun h => absurd h (by decide), fun h => absurd h (by decide), fun h => absurd h (by decide)⟩
          refine g_callv (X := _) (As := [.int (Int32.ofInt 1), .int z147, .int z155, .int z163, .int z171, .int z179, .int z187]) (r := []) (b := A 109) (q := 109) 191 (gd rfl) rfl rfl rfl rfl rfl (ww_o rfl) (Nat.le_of_ble_eq_true rfl) (Nat.zero_le _) (Nat.zero_le _) (f_274 (by first | exact dq1 hd rfl | exact dq0 hd rfl | exact dq2 hd rfl | exact dq3 hd rfl | omega) hIc72 (in_w 0 4 (in_c 1 rfl) rfl) (in_w 0 159 i150 rfl) (in_w 0 31 i156 rfl) (in_w (-1000000) 1000000 i164 rfl) (in_w (-1000000) 1000000 i172 rfl) (in_w 0 1000000 i180 rfl) (in_w 0 25 i188 rfl) v72_109_9 (in_w 0 3999 i80 rfl) p188) (fun e u h => h) (fun v u h => ?_)
          obtain ⟨s188, hI188, hF188, n188, rfl, rfl, p188a, p188b, p188c, p188d, p188e⟩ := h
          obtain ⟨z188a, e188⟩ : ∃ w, w = s188.2.2.1 109 9 := ⟨_, rfl⟩
          have i188b := inv_F hI188 0 4000 rfl e188
          rw [← (show w72_109_9 = sc72.2.2.1 109 9 from v72_109_9)] at n188
          rw [← (show z188a = s188.2.2.1 109 9 from e188)] at n188
          show GG _ _ _ _ _ _ _ _ [] _ _ _
          refine g_goto 236 (gd rfl) rfl ?_
          refine g_iinc 239 (gd rfl) rfl rfl (Nat.le_of_ble_eq_true rfl) (fun z236 e236 => ?_)
          have i236 := in_add 1 500 e236 i77 (in_c 1 rfl) rfl rfl
          refine g_goto 72 (gd rfl) rfl ?_
          have v72 : w72_109_32 = s188.2.2.1 109 32 := fr_F (v72_109_32) hF188 rfl
          have n72 : (z188a).toInt + (w72_109_32).toInt - (z236).toInt ≤ 4000 := by have a0 := oa5 ro_109_22 i77a i80 i77 i82; have a5 := (t_mulc 5 (Or.inl e82) i77 rfl).1; have a6 := in_u i236; have a7 := t_add e236 i77 (in_c 1 rfl) rfl; have a8 := oa3 ((in_c 1 rfl)) i188b i186; have a11 := t_add e186 i82 (in_c 4 rfl) rfl; have a12 := oa2 ((in_c 4 rfl)) i178; have a14 := t_add e178 i82 (in_c 3 rfl) rfl; have a15 := oa2 ((in_c 3 rfl)) i170; have a17 := t_add e170 i82 (in_c 2 rfl) rfl; have a18 := oa2 ((in_c 2 rfl)) i162; have a20 := t_add e162 i82 (in_c 1 rfl) rfl; have oc := oc_302_109; omega
          have n72a : LDK s188 (s188.2.2.1 109 32).toNatClampNeg (z236).toNatClampNeg := by rw [hF188.2.2.1 109 32 rfl, show z236.toNatClampNeg = y72_1.toNatClampNeg + 1 from (by show z236.toInt.toNat = y72_1.toInt.toNat + 1; have a0 := oa5 ro_109_22 i77a i80 i77 i82; have a5 := (t_mulc 5 (Or.inl e82) i77 rfl).1; have a6 := in_u i236; have a7 := t_add e236 i77 (in_c 1 rfl) rfl; have a8 := oa3 ((in_c 1 rfl)) i188b i186; have a11 := t_add e186 i82 (in_c 4 rfl) rfl; have a12 := oa2 ((in_c 4 rfl)) i178; have a14 := t_add e178 i82 (in_c 3 rfl) rfl; have a15 := oa2 ((in_c 3 rfl)) i170; have a17 := t_add e170 i82 (in_c 2 rfl) rfl; have a18 := oa2 ((in_c 2 rfl)) i162; have a20 := t_add e162 i82 (in_c 1 rfl) rfl; have oc := oc_302_109; (first | exact zt_s (by omega) (by omega) | omega))]; exact ldk_s g72_0 p188a (hF188.1 127 rfl) (hF188.1 128 rfl) (by have hw := (show (sc72.1 127 y72_1.toNatClampNeg).toInt = 97 from (by rw [← e89]; exact c90)); exact ⟨fun h => (by omega), fun _ => ⟨by decide, p147⟩, fun h => (by omega), fun _ h _ => absurd hw h⟩)
          have n72b : LD3 s s188 (z236).toNatClampNeg := by rw [show z236.toNatClampNeg = y72_1.toNatClampNeg + 1 from (by show z236.toInt.toNat = y72_1.toInt.toNat + 1; have a0 := oa5 ro_109_22 i77a i80 i77 i82; have a5 := (t_mulc 5 (Or.inl e82) i77 rfl).1; have a6 := in_u i236; have a7 := t_add e236 i77 (in_c 1 rfl) rfl; have a8 := oa3 ((in_c 1 rfl)) i188b i186; have a11 := t_add e186 i82 (in_c 4 rfl) rfl; have a12 := oa2 ((in_c 4 rfl)) i178; have a14 := t_add e178 i82 (in_c 3 rfl) rfl; have a15 := oa2 ((in_c 3 rfl)) i170; have a17 := t_add e170 i82 (in_c 2 rfl) rfl; have a18 := oa2 ((in_c 2 rfl)) i162; have a20 := t_add e162 i82 (in_c 1 rfl) rfl; have oc := oc_302_109; (first | exact zt_s (by omega) (by omega) | omega))]; exact ld3_s g72_1 (by rw [← v72_109_32]; show y72_1.toInt.toNat < w72_109_32.toInt.toNat; have a0 := oa5 ro_109_22 i77a i80 i77 i82; have a5 := (t_mulc 5 (Or.inl e82) i77 rfl).1; have a6 := in_u i236; have a7 := t_add e236 i77 (in_c 1 rfl) rfl; have a8 := oa3 ((in_c 1 rfl)) i188b i186; have a11 := t_add e186 i82 (in_c 4 rfl) rfl; have a12 := oa2 ((in_c 4 rfl)) i178; have a14 := t_add e178 i82 (in_c 3 rfl) rfl; have a15 := oa2 ((in_c 3 rfl)) i170; have a17 := t_add e170 i82 (in_c 2 rfl) rfl; have a18 := oa2 ((in_c 2 rfl)) i162; have a20 := t_add e162 i82 (in_c 1 rfl) rfl; have oc := oc_302_109; (first | exact zt_t (by omega) (by omega) | omega)) ((p188b.2.1 rfl).trans (oR_a hIc72 (by rw [← e89]; omega) p147 (by show (sc72.1 128 (5 * y72_1.toNatClampNeg + 0)).toInt = _; rw [show 5 * y72_1.toNatClampNeg + 0 = z82.toNatClampNeg from (by show 5 * y72_1.toInt.toNat + 0 = z82.toInt.toNat; have a0 := oa5 ro_109_22 i77a i80 i77 i82; have a5 := (t_mulc 5 (Or.inl e82) i77 rfl).1; have a6 := in_u i236; have a7 := t_add e236 i77 (in_c 1 rfl) rfl; have a8 := oa3 ((in_c 1 rfl)) i188b i186; have a11 := t_add e186 i82 (in_c 4 rfl) rfl; have a12 := oa2 ((in_c 4 rfl)) i178; have a14 := t_add e178 i82 (in_c 3 rfl) rfl; have a15 := oa2 ((in_c 3 rfl)) i170; have a17 := t_add e170 i82 (in_c 2 rfl) rfl; have a18 := oa2 ((in_c 2 rfl)) i162; have a20 := t_add e162 i82 (in_c 1 rfl) rfl; have oc := oc_302_109; omega), ← e155]) (by show (sc72.1 128 (5 * y72_1.toNatClampNeg + 1)).toInt = _; rw [show 5 * y72_1.toNatClampNeg + 1 = z162.toNatClampNeg from (by show 5 * y72_1.toInt.toNat + 1 = z162.toInt.toNat; have a0 := oa5 ro_109_22 i77a i80 i77 i82; have a5 := (t_mulc 5 (Or.inl e82) i77 rfl).1; have a6 := in_u i236; have a7 := t_add e236 i77 (in_c 1 rfl) rfl; have a8 := oa3 ((in_c 1 rfl)) i188b i186; have a11 := t_add e186 i82 (in_c 4 rfl) rfl; have a12 := oa2 ((in_c 4 rfl)) i178; have a14 := t_add e178 i82 (in_c 3 rfl) rfl; have a15 := oa2 ((in_c 3 rfl)) i170; have a17 := t_add e170 i82 (in_c 2 rfl) rfl; have a18 := oa2 ((in_c 2 rfl)) i162; have a20 := t_add e162 i82 (in_c 1 rfl) rfl; have oc := oc_302_109; omega), ← e163]) (by show (sc72.1 128 (5 * y72_1.toNatClampNeg + 2)).toInt = _; rw [show 5 * y72_1.toNatClampNeg + 2 = z170.toNatClampNeg from (by show 5 * y72_1.toInt.toNat + 2 = z170.toInt.toNat; have a0 := oa5 ro_109_22 i77a i80 i77 i82; have a5 := (t_mulc 5 (Or.inl e82) i77 rfl).1; have a6 := in_u i236; have a7 := t_add e236 i77 (in_c 1 rfl) rfl; have a8 := oa3 ((in_c 1 rfl)) i188b i186; have a11 := t_add e186 i82 (in_c 4 rfl) rfl; have a12 := oa2 ((in_c 4 rfl)) i178; have a14 := t_add e178 i82 (in_c 3 rfl) rfl; have a15 := oa2 ((in_c 3 rfl)) i170; have a17 := t_add e170 i82 (in_c 2 rfl) rfl; have a18 := oa2 ((in_c 2 rfl)) i162; have a20 := t_add e162 i82 (in_c 1 rfl) rfl; have oc := oc_302_109; omega), ← e171]) (by show (sc72.1 128 (5 * y72_1.toNatClampNeg + 3)).toInt = _; rw [show 5 * y72_1.toNatClampNeg + 3 = z178.toNatClampNeg from (by show 5 * y72_1.toInt.toNat + 3 = z178.toInt.toNat; have a0 := oa5 ro_109_22 i77a i80 i77 i82; have a5 := (t_mulc 5 (Or.inl e82) i77 rfl).1; have a6 := in_u i236; have a7 := t_add e236 i77 (in_c 1 rfl) rfl; have a8 := oa3 ((in_c 1 rfl)) i188b i186; have a11 := t_add e186 i82 (in_c 4 rfl) rfl; have a12 := oa2 ((in_c 4 rfl)) i178; have a14 := t_add e178 i82 (in_c 3 rfl) rfl; have a15 := oa2 ((in_c 3 rfl)) i170; have a17 := t_add e170 i82 (in_c 2 rfl) rfl; have a18 := oa2 ((in_c 2 rfl)) i162; have a20 := t_add e162 i82 (in_c 1 rfl) rfl; have oc := oc_302_109; omega), ← e179]) (by show (sc72.1 128 (5 * y72_1.toNatClampNeg + 4)).toInt = _; rw [show 5 * y72_1.toNatClampNeg + 4 = z186.toNatClampNeg from (by show 5 * y72_1.toInt.toNat + 4 = z186.toInt.toNat; have a0 := oa5 ro_109_22 i77a i80 i77 i82; have a5 := (t_mulc 5 (Or.inl e82) i77 rfl).1; have a6 := in_u i236; have a7 := t_add e236 i77 (in_c 1 rfl) rfl; have a8 := oa3 ((in_c 1 rfl)) i188b i186; have a11 := t_add e186 i82 (in_c 4 rfl) rfl; have a12 := oa2 ((in_c 4 rfl)) i178; have a14 := t_add e178 i82 (in_c 3 rfl) rfl; have a15 := oa2 ((in_c 3 rfl)) i170; have a17 := t_add e170 i82 (in_c 2 rfl) rfl; have a18 := oa2 ((in_c 2 rfl)) i162; have a20 := t_add e162 i82 (in_c 1 rfl) rfl; have oc := oc_302_109; omega), ← e187])).symm) (hF188.1 127 rfl) (hF188.1 128 rfl) (hF188.2.2.1 109 32 rfl) (hF188.2.2.1 109 23 rfl)
          have n72c : LDL s s188 (z236).toNatClampNeg := by have n3 : LD3 s s188 (y72_1.toNatClampNeg + 1) := (by have q := n72b; rw [show z236.toNatClampNeg = y72_1.toNatClampNeg + 1 from (by show z236.toInt.toNat = y72_1.toInt.toNat + 1; have a0 := oa5 ro_109_22 i77a i80 i77 i82; have a5 := (t_mulc 5 (Or.inl e82) i77 rfl).1; have a6 := in_u i236; have a7 := t_add e236 i77 (in_c 1 rfl) rfl; have a8 := oa3 ((in_c 1 rfl)) i188b i186; have a11 := t_add e186 i82 (in_c 4 rfl) rfl; have a12 := oa2 ((in_c 4 rfl)) i178; have a14 := t_add e178 i82 (in_c 3 rfl) rfl; have a15 := oa2 ((in_c 3 rfl)) i170; have a17 := t_add e170 i82 (in_c 2 rfl) rfl; have a18 := oa2 ((in_c 2 rfl)) i162; have a20 := t_add e162 i82 (in_c 1 rfl) rfl; have oc := oc_302_109; (first | exact zt_s (by omega) (by omega) | omega))] at q; exact q); rw [show z236.toNatClampNeg = y72_1.toNatClampNeg + 1 from (by show z236.toInt.toNat = y72_1.toInt.toNat + 1; have a0 := oa5 ro_109_22 i77a i80 i77 i82; have a5 := (t_mulc 5 (Or.inl e82) i77 rfl).1; have a6 := in_u i236; have a7 := t_add e236 i77 (in_c 1 rfl) rfl; have a8 := oa3 ((in_c 1 rfl)) i188b i186; have a11 := t_add e186 i82 (in_c 4 rfl) rfl; have a12 := oa2 ((in_c 4 rfl)) i178; have a14 := t_add e178 i82 (in_c 3 rfl) rfl; have a15 := oa2 ((in_c 3 rfl)) i170; have a17 := t_add e170 i82 (in_c 2 rfl) rfl; have a18 := oa2 ((in_c 2 rfl)) i162; have a20 := t_add e162 i82 (in_c 1 rfl) rfl; have oc := oc_302_109; (first | exact zt_s (by omega) (by omega) | omega))]; exact ldl_s g72_2 g72_1 n3 (inv_F hI (z := s.2.2.1 109 9) 0 4000 rfl rfl).1 (by rw [← e188, ← v72_109_9]; have a0 := oa5 ro_109_22 i77a i80 i77 i82; have a5 := (t_mulc 5 (Or.inl e82) i77 rfl).1; have a6 := in_u i236; have a7 := t_add e236 i77 (in_c 1 rfl) rfl; have a8 := oa3 ((in_c 1 rfl)) i188b i186; have a11 := t_add e186 i82 (in_c 4 rfl) rfl; have a12 := oa2 ((in_c 4 rfl)) i178; have a14 := t_add e178 i82 (in_c 3 rfl) rfl; have a15 := oa2 ((in_c 3 rfl)) i170; have a17 := t_add e170 i82 (in_c 2 rfl) rfl; have a18 := oa2 ((in_c 2 rfl)) i162; have a20 := t_add e162 i82 (in_c 1 rfl) rfl; have oc := oc_302_109; omega) (Or.inr p188c) (by rw [if_neg (by decide), if_pos (by decide)]; exact p188b.2.1 rfl) (hF188.1 127 rfl) (hF188.1 128 rfl) p188d
          have n72d : LDB s s188 := by exact ldb_cg g72_3 (hF188.1 127 rfl) (hF188.1 128 rfl) (hF188.2.2.1 109 32 rfl)
          have n72e : G1S s s188 := by exact g1_tr g72_4 p188e
          exact gg_w (by first | exact Nat.le_add_right _ _ | exact gw2 | exact gw3 | exact gwe rfl | exact gwf rfl | exact gwg rfl | exact gwh rfl | omega) (gg_f (gf_cons rfl (gf_cons rfl gf_nil)) (ih72 s188 z236 z188a w72_109_32 hI188 (fr_tr rfl hFc72 hF188) (in_w 0 500 i236 rfl) e188 v72 n72 n72a n72b n72c n72d n72e (m_up mm72 (t_add e236 i77 (in_c 1 rfl) rfl) (in_w 1 1 (in_c 1 rfl) rfl))))
        · skip
          have i90 := sw_eq c90
          refine g_aload_n 125 (gd rfl) rfl rfl ?_
          refine g_iconst 0 126 (gd rfl) rfl rfl ?_
          refine g_aload_n 127 (gd rfl) rfl rfl ?_
          refine g_getA (q2 := 128) 130 (gd rfl) rfl rfl rfl rfl ?_
          refine g_iload_n 131 (gd rfl) rfl rfl ?_
          refine g_iaload 132 (gd rfl) rfl (n := 2500) rfl (in_ix i82 rfl) (fun z131 e131 => ?_)
          have i132 : In z131 0 25 := by have q := (hr.1 (show (sc72.1 127 y72_1.toNatClampNeg).toInt = 110 from (by rw [← e89]; exact c90))).1; rw [show 5 * y72_1.toNatClampNeg = z82.toNatClampNeg from (by show 5 * y72_1.toInt.toNat = z82.toInt.toNat; have a0 := oa5 ro_109_22 i77a i80 i77 i82; have a5 := (t_mulc 5 (Or.inl e82) i77 rfl).1; have oc := oc_302_109; omega), ← e131] at q; exact q
          refine g_iconst 0 133 (gd rfl) rfl rfl ?_
          refine g_iconst 0 134 (gd rfl) rfl rfl ?_
          refine g_iconst 0 135 (gd rfl) rfl rfl ?_
          refine g_iconst 0 136 (gd rfl) rfl rfl ?_
          refine g_iconst 0 137 (gd rfl) rfl rfl ?_
          have p137 : MK sc72 (Int32.ofInt 0) z131 (Int32.ofInt 0) (Int32.ofInt 0) := by refine ⟨fun _ => ⟨(by have q := (hr.1 (show (sc72.1 127 y72_1.toNatClampNeg).toInt = 110 from (by rw [← e89]; exact c90))).1; rw [show 5 * y72_1.toNatClampNeg = z82.toNatClampNeg from (by show 5 * y72_1.toInt.toNat = z82.toInt.toNat; have a0 := oa5 ro_109_22 i77a i80 i77 i82; have a5 := (t_mulc 5 (Or.inl e82) i77 rfl).1; have oc := oc_302_109; omega), ← e131] at q; exact q.2), (hr.1 (show (sc72.1 127 y72_1.toNatClampNeg).toInt = 110 from (by rw [← e89]; exact c90))).2⟩, fun h => absurd h (by decide), fun h => absurd h (by decide), fun h => absurd h (by decide), fun h => absurd h (by decide)⟩
          refine g_callv (X := _) (As := [.int (Int32.ofInt 0), .int z131, .int (Int32.ofInt 0), .int (Int32.ofInt 0), .int (Int32.ofInt 0), .int (Int32.ofInt 0), .int (Int32.ofInt 0)]) (r := []) (b := A 109) (q := 109) 140 (gd rfl) rfl rfl rfl rfl rfl (ww_o rfl) (Nat.le_of_ble_eq_true rfl) (Nat.zero_le _) (Nat.zero_le _) (f_274 (by first | exact dq1 hd rfl | exact dq0 hd rfl | exact dq2 hd rfl | exact dq3 hd rfl | omega) hIc72 (in_w 0 4 (in_c 0 rfl) rfl) (in_w 0 159 i132 rfl) (in_w 0 31 (in_c 0 rfl) rfl) (in_w (-1000000) 1000000 (in_c 0 rfl) rfl) (in_w (-1000000) 1000000 (in_c 0 rfl) rfl) (in_w 0 1000000 (in_c 0 rfl) rfl) (in_w 0 25 (in_c 0 rfl) rfl) v72_109_9 (in_w 0 3999 i80 rfl) p137) (fun e u h => h) (fun v u h => ?_)
          obtain ⟨s137, hI137, hF137, n137, rfl, rfl, p137a, p137b, p137c, p137d, p137e⟩ := h
          obtain ⟨z137a, e137⟩ : ∃ w, w = s137.2.2.1 109 9 := ⟨_, rfl⟩
          have i137a := inv_F hI137 0 4000 rfl e137
          rw [← (show w72_109_9 = sc72.2.2.1 109 9 from v72_109_9)] at n137
          rw [← (show z137a = s137.2.2.1 109 9 from e137)] at n137
          show GG _ _ _ _ _ _ _ _ [] _ _ _
          refine g_goto 236 (gd rfl) rfl ?_
          refine g_iinc 239 (gd rfl) rfl rfl (Nat.le_of_ble_eq_true rfl) (fun z236 e236 => ?_)
          have i236 := in_add 1 500 e236 i77 (in_c 1 rfl) rfl rfl
          refine g_goto 72 (gd rfl) rfl ?_
          have v72 : w72_109_32 = s137.2.2.1 109 32 := fr_F (v72_109_32) hF137 rfl
          have n72 : (z137a).toInt + (w72_109_32).toInt - (z236).toInt ≤ 4000 := by have a0 := oa5 ro_109_22 i77a i80 i77 i82; have a5 := (t_mulc 5 (Or.inl e82) i77 rfl).1; have a6 := in_u i236; have a7 := t_add e236 i77 (in_c 1 rfl) rfl; have a8 := oa2 ((in_c 1 rfl)) i137a; have oc := oc_302_109; omega
          have n72a : LDK s137 (s137.2.2.1 109 32).toNatClampNeg (z236).toNatClampNeg := by rw [hF137.2.2.1 109 32 rfl, show z236.toNatClampNeg = y72_1.toNatClampNeg + 1 from (by show z236.toInt.toNat = y72_1.toInt.toNat + 1; have a0 := oa5 ro_109_22 i77a i80 i77 i82; have a5 := (t_mulc 5 (Or.inl e82) i77 rfl).1; have a6 := in_u i236; have a7 := t_add e236 i77 (in_c 1 rfl) rfl; have a8 := oa2 ((in_c 1 rfl)) i137a; have oc := oc_302_109; (first | exact zt_s (by omega) (by omega) | omega))]; exact ldk_s g72_0 p137a (hF137.1 127 rfl) (hF137.1 128 rfl) (by have hw := (show (sc72.1 127 y72_1.toNatClampNeg).toInt = 110 from (by rw [← e89]; exact c90)); exact ⟨fun _ => (by decide), fun h => (by omega), fun h => (by omega), fun h _ _ => absurd hw h⟩)
          have n72b : LD3 s s137 (z236).toNatClampNeg := by rw [show z236.toNatClampNeg = y72_1.toNatClampNeg + 1 from (by show z236.toInt.toNat = y72_1.toInt.toNat + 1; have a0 := oa5 ro_109_22 i77a i80 i77 i82; have a5 := (t_mulc 5 (Or.inl e82) i77 rfl).1; have a6 := in_u i236; have a7 := t_add e236 i77 (in_c 1 rfl) rfl; have a8 := oa2 ((in_c 1 rfl)) i137a; have oc := oc_302_109; (first | exact zt_s (by omega) (by omega) | omega))]; exact ld3_s g72_1 (by rw [← v72_109_32]; show y72_1.toInt.toNat < w72_109_32.toInt.toNat; have a0 := oa5 ro_109_22 i77a i80 i77 i82; have a5 := (t_mulc 5 (Or.inl e82) i77 rfl).1; have a6 := in_u i236; have a7 := t_add e236 i77 (in_c 1 rfl) rfl; have a8 := oa2 ((in_c 1 rfl)) i137a; have oc := oc_302_109; (first | exact zt_t (by omega) (by omega) | omega)) ((p137b.1 rfl).trans (oR_n (by rw [← e89]; omega) (by show (sc72.1 128 (5 * y72_1.toNatClampNeg + 0)).toInt = _; rw [show 5 * y72_1.toNatClampNeg + 0 = z82.toNatClampNeg from (by show 5 * y72_1.toInt.toNat + 0 = z82.toInt.toNat; have a0 := oa5 ro_109_22 i77a i80 i77 i82; have a5 := (t_mulc 5 (Or.inl e82) i77 rfl).1; have a6 := in_u i236; have a7 := t_add e236 i77 (in_c 1 rfl) rfl; have a8 := oa2 ((in_c 1 rfl)) i137a; have oc := oc_302_109; omega), ← e131])).symm) (hF137.1 127 rfl) (hF137.1 128 rfl) (hF137.2.2.1 109 32 rfl) (hF137.2.2.1 109 23 rfl)
          have n72c : LDL s s137 (z236).toNatClampNeg := by have n3 : LD3 s s137 (y72_1.toNatClampNeg + 1) := (by have q := n72b; rw [show z236.toNatClampNeg = y72_1.toNatClampNeg + 1 from (by show z236.toInt.toNat = y72_1.toInt.toNat + 1; have a0 := oa5 ro_109_22 i77a i80 i77 i82; have a5 := (t_mulc 5 (Or.inl e82) i77 rfl).1; have a6 := in_u i236; have a7 := t_add e236 i77 (in_c 1 rfl) rfl; have a8 := oa2 ((in_c 1 rfl)) i137a; have oc := oc_302_109; (first | exact zt_s (by omega) (by omega) | omega))] at q; exact q); rw [show z236.toNatClampNeg = y72_1.toNatClampNeg + 1 from (by show z236.toInt.toNat = y72_1.toInt.toNat + 1; have a0 := oa5 ro_109_22 i77a i80 i77 i82; have a5 := (t_mulc 5 (Or.inl e82) i77 rfl).1; have a6 := in_u i236; have a7 := t_add e236 i77 (in_c 1 rfl) rfl; have a8 := oa2 ((in_c 1 rfl)) i137a; have oc := oc_302_109; (first | exact zt_s (by omega) (by omega) | omega))]; exact ldl_s g72_2 g72_1 n3 (inv_F hI (z := s.2.2.1 109 9) 0 4000 rfl rfl).1 (by rw [← e137, ← v72_109_9]; have a0 := oa5 ro_109_22 i77a i80 i77 i82; have a5 := (t_mulc 5 (Or.inl e82) i77 rfl).1; have a6 := in_u i236; have a7 := t_add e236 i77 (in_c 1 rfl) rfl; have a8 := oa2 ((in_c 1 rfl)) i137a; have oc := oc_302_109; omega) (Or.inr p137c) (by rw [if_pos (by decide)]; exact p137b.1 rfl) (hF137.1 127 rfl) (hF137.1 128 rfl) p137d
          have n72d : LDB s s137 := by exact ldb_cg g72_3 (hF137.1 127 rfl) (hF137.1 128 rfl) (hF137.2.2.1 109 32 rfl)
          have n72e : G1S s s137 := by exact g1_tr g72_4 p137e
          exact gg_w (by first | exact Nat.le_add_right _ _ | exact gw2 | exact gw3 | exact gwe rfl | exact gwf rfl | exact gwg rfl | exact gwh rfl | omega) (gg_f (gf_cons rfl (gf_cons rfl gf_nil)) (ih72 s137 z236 z137a w72_109_32 hI137 (fr_tr rfl hFc72 hF137) (in_w 0 500 i236 rfl) e137 v72 n72 n72a n72b n72c n72d n72e (m_up mm72 (t_add e236 i77 (in_c 1 rfl) rfl) (in_w 1 1 (in_c 1 rfl) rfl))))
        · skip
          have i90 := sw_eq c90
          refine g_aload_n 195 (gd rfl) rfl rfl ?_
          refine g_iconst 2 196 (gd rfl) rfl rfl ?_
          refine g_aload_n 197 (gd rfl) rfl rfl ?_
          refine g_getA (q2 := 128) 200 (gd rfl) rfl rfl rfl rfl ?_
          refine g_iload_n 201 (gd rfl) rfl rfl ?_
          refine g_iaload 202 (gd rfl) rfl (n := 2500) rfl (in_ix i82 rfl) (fun z201 e201 => ?_)
          have i202 : In z201 0 159 := by have q := hr.2.2.1 (show (sc72.1 127 y72_1.toNatClampNeg).toInt = 116 from (by rw [← e89]; exact c90)); rw [show 5 * y72_1.toNatClampNeg = z82.toNatClampNeg from (by show 5 * y72_1.toInt.toNat = z82.toInt.toNat; have a0 := oa5 ro_109_22 i77a i80 i77 i82; have a5 := (t_mulc 5 (Or.inl e82) i77 rfl).1; have oc := oc_302_109; omega), ← e201] at q; exact q
          refine g_iconst 0 203 (gd rfl) rfl rfl ?_
          refine g_iconst 0 204 (gd rfl) rfl rfl ?_
          refine g_iconst 0 205 (gd rfl) rfl rfl ?_
          refine g_iconst 0 206 (gd rfl) rfl rfl ?_
          refine g_iconst 0 207 (gd rfl) rfl rfl ?_
          have p207 : MK sc72 (Int32.ofInt 2) z201 (Int32.ofInt 0) (Int32.ofInt 0) := by exact ⟨fun h => absurd h (by decide), fun h => absurd h (by decide), fun h => absurd h (by decide), fun h => absurd h (by decide), fun h => absurd h (by decide)⟩
          refine g_callv (X := _) (As := [.int (Int32.ofInt 2), .int z201, .int (Int32.ofInt 0), .int (Int32.ofInt 0), .int (Int32.ofInt 0), .int (Int32.ofInt 0), .int (Int32.ofInt 0)]) (r := []) (b := A 109) (q := 109) 210 (gd rfl) rfl rfl rfl rfl rfl (ww_o rfl) (Nat.le_of_ble_eq_true rfl) (Nat.zero_le _) (Nat.zero_le _) (f_274 (by first | exact dq1 hd rfl | exact dq0 hd rfl | exact dq2 hd rfl | exact dq3 hd rfl | omega) hIc72 (in_w 0 4 (in_c 2 rfl) rfl) (in_w 0 159 i202 rfl) (in_w 0 31 (in_c 0 rfl) rfl) (in_w (-1000000) 1000000 (in_c 0 rfl) rfl) (in_w (-1000000) 1000000 (in_c 0 rfl) rfl) (in_w 0 1000000 (in_c 0 rfl) rfl) (in_w 0 25 (in_c 0 rfl) rfl) v72_109_9 (in_w 0 3999 i80 rfl) p207) (fun e u h => h) (fun v u h => ?_)
          obtain ⟨s207, hI207, hF207, n207, rfl, rfl, p207a, p207b, p207c, p207d, p207e⟩ := h
          obtain ⟨z207a, e207⟩ : ∃ w, w = s207.2.2.1 109 9 := ⟨_, rfl⟩
          have i207a := inv_F hI207 0 4000 rfl e207
          rw [← (show w72_109_9 = sc72.2.2.1 109 9 from v72_109_9)] at n207
          rw [← (show z207a = s207.2.2.1 109 9 from e207)] at n207
          show GG _ _ _ _ _ _ _ _ [] _ _ _
          refine g_goto 236 (gd rfl) rfl ?_
          refine g_iinc 239 (gd rfl) rfl rfl (Nat.le_of_ble_eq_true rfl) (fun z236 e236 => ?_)
          have i236 := in_add 1 500 e236 i77 (in_c 1 rfl) rfl rfl
          refine g_goto 72 (gd rfl) rfl ?_
          have v72 : w72_109_32 = s207.2.2.1 109 32 := fr_F (v72_109_32) hF207 rfl
          have n72 : (z207a).toInt + (w72_109_32).toInt - (z236).toInt ≤ 4000 := by have a0 := oa5 ro_109_22 i77a i80 i77 i82; have a5 := (t_mulc 5 (Or.inl e82) i77 rfl).1; have a6 := in_u i236; have a7 := t_add e236 i77 (in_c 1 rfl) rfl; have a8 := oa2 ((in_c 1 rfl)) i207a; have oc := oc_302_109; omega
          have n72a : LDK s207 (s207.2.2.1 109 32).toNatClampNeg (z236).toNatClampNeg := by rw [hF207.2.2.1 109 32 rfl, show z236.toNatClampNeg = y72_1.toNatClampNeg + 1 from (by show z236.toInt.toNat = y72_1.toInt.toNat + 1; have a0 := oa5 ro_109_22 i77a i80 i77 i82; have a5 := (t_mulc 5 (Or.inl e82) i77 rfl).1; have a6 := in_u i236; have a7 := t_add e236 i77 (in_c 1 rfl) rfl; have a8 := oa2 ((in_c 1 rfl)) i207a; have oc := oc_302_109; (first | exact zt_s (by omega) (by omega) | omega))]; exact ldk_s g72_0 p207a (hF207.1 127 rfl) (hF207.1 128 rfl) (by have hw := (show (sc72.1 127 y72_1.toNatClampNeg).toInt = 116 from (by rw [← e89]; exact c90)); exact ⟨fun h => (by omega), fun h => (by omega), fun _ => ⟨by decide, by rw [show 5 * y72_1.toNatClampNeg = z82.toNatClampNeg from (by show 5 * y72_1.toInt.toNat = z82.toInt.toNat; have a0 := oa5 ro_109_22 i77a i80 i77 i82; have a5 := (t_mulc 5 (Or.inl e82) i77 rfl).1; have a6 := in_u i236; have a7 := t_add e236 i77 (in_c 1 rfl) rfl; have a8 := oa2 ((in_c 1 rfl)) i207a; have oc := oc_302_109; omega), ← e201]⟩, fun _ _ h => absurd hw h⟩)
          have n72b : LD3 s s207 (z236).toNatClampNeg := by rw [show z236.toNatClampNeg = y72_1.toNatClampNeg + 1 from (by show z236.toInt.toNat = y72_1.toInt.toNat + 1; have a0 := oa5 ro_109_22 i77a i80 i77 i82; have a5 := (t_mulc 5 (Or.inl e82) i77 rfl).1; have a6 := in_u i236; have a7 := t_add e236 i77 (in_c 1 rfl) rfl; have a8 := oa2 ((in_c 1 rfl)) i207a; have oc := oc_302_109; (first | exact zt_s (by omega) (by omega) | omega))]; exact ld3_s g72_1 (by rw [← v72_109_32]; show y72_1.toInt.toNat < w72_109_32.toInt.toNat; have a0 := oa5 ro_109_22 i77a i80 i77 i82; have a5 := (t_mulc 5 (Or.inl e82) i77 rfl).1; have a6 := in_u i236; have a7 := t_add e236 i77 (in_c 1 rfl) rfl; have a8 := oa2 ((in_c 1 rfl)) i207a; have oc := oc_302_109; (first | exact zt_t (by omega) (by omega) | omega)) ((p207b.2.2.1 rfl).trans (oR_t (by rw [← e89]; omega) (by show (sc72.1 128 (5 * y72_1.toNatClampNeg + 0)).toInt = _; rw [show 5 * y72_1.toNatClampNeg + 0 = z82.toNatClampNeg from (by show 5 * y72_1.toInt.toNat + 0 = z82.toInt.toNat; have a0 := oa5 ro_109_22 i77a i80 i77 i82; have a5 := (t_mulc 5 (Or.inl e82) i77 rfl).1; have a6 := in_u i236; have a7 := t_add e236 i77 (in_c 1 rfl) rfl; have a8 := oa2 ((in_c 1 rfl)) i207a; have oc := oc_302_109; omega), ← e201])).symm) (hF207.1 127 rfl) (hF207.1 128 rfl) (hF207.2.2.1 109 32 rfl) (hF207.2.2.1 109 23 rfl)
          have n72c : LDL s s207 (z236).toNatClampNeg := by have n3 : LD3 s s207 (y72_1.toNatClampNeg + 1) := (by have q := n72b; rw [show z236.toNatClampNeg = y72_1.toNatClampNeg + 1 from (by show z236.toInt.toNat = y72_1.toInt.toNat + 1; have a0 := oa5 ro_109_22 i77a i80 i77 i82; have a5 := (t_mulc 5 (Or.inl e82) i77 rfl).1; have a6 := in_u i236; have a7 := t_add e236 i77 (in_c 1 rfl) rfl; have a8 := oa2 ((in_c 1 rfl)) i207a; have oc := oc_302_109; (first | exact zt_s (by omega) (by omega) | omega))] at q; exact q); rw [show z236.toNatClampNeg = y72_1.toNatClampNeg + 1 from (by show z236.toInt.toNat = y72_1.toInt.toNat + 1; have a0 := oa5 ro_109_22 i77a i80 i77 i82; have a5 := (t_mulc 5 (Or.inl e82) i77 rfl).1; have a6 := in_u i236; have a7 := t_add e236 i77 (in_c 1 rfl) rfl; have a8 := oa2 ((in_c 1 rfl)) i207a; have oc := oc_302_109; (first | exact zt_s (by omega) (by omega) | omega))]; exact ldl_s g72_2 g72_1 n3 (inv_F hI (z := s.2.2.1 109 9) 0 4000 rfl rfl).1 (by rw [← e207, ← v72_109_9]; have a0 := oa5 ro_109_22 i77a i80 i77 i82; have a5 := (t_mulc 5 (Or.inl e82) i77 rfl).1; have a6 := in_u i236; have a7 := t_add e236 i77 (in_c 1 rfl) rfl; have a8 := oa2 ((in_c 1 rfl)) i207a; have oc := oc_302_109; omega) (Or.inr p207c) (by rw [if_neg (by decide), if_neg (by decide), if_pos (by decide)]; exact p207b.2.2.1 rfl) (hF207.1 127 rfl) (hF207.1 128 rfl) p207d
          have n72d : LDB s s207 := by exact ldb_cg g72_3 (hF207.1 127 rfl) (hF207.1 128 rfl) (hF207.2.2.1 109 32 rfl)
          have n72e : G1S s s207 := by exact g1_tr g72_4 p207e
          exact gg_w (by first | exact Nat.le_add_right _ _ | exact gw2 | exact gw3 | exact gwe rfl | exact gwf rfl | exact gwg rfl | exact gwh rfl | omega) (gg_f (gf_cons rfl (gf_cons rfl gf_nil)) (ih72 s207 z236 z207a w72_109_32 hI207 (fr_tr rfl hFc72 hF207) (in_w 0 500 i236 rfl) e207 v72 n72 n72a n72b n72c n72d n72e (m_up mm72 (t_add e236 i77 (in_c 1 rfl) rfl) (in_w 1 1 (in_c 1 rfl) rfl))))
        · skip
          refine g_aload_n 214 (gd rfl) rfl rfl ?_
          refine g_iconst 3 215 (gd rfl) rfl rfl ?_
          refine g_aload_n 216 (gd rfl) rfl rfl ?_
          refine g_getA (q2 := 128) 219 (gd rfl) rfl rfl rfl rfl ?_
          refine g_iload_n 220 (gd rfl) rfl rfl ?_
          refine g_iaload 221 (gd rfl) rfl (n := 2500) rfl (in_ix i82 rfl) (fun z220 e220 => ?_)
          have i221 : In z220 0 159 := by have q := (hr.2.2.2 (by rw [← e89]; exact c90_1) (by rw [← e89]; exact c90_0) (by rw [← e89]; exact c90_2)).1; rw [show 5 * y72_1.toNatClampNeg = z82.toNatClampNeg from (by show 5 * y72_1.toInt.toNat = z82.toInt.toNat; have a0 := oa5 ro_109_22 i77a i80 i77 i82; have a5 := (t_mulc 5 (Or.inl e82) i77 rfl).1; have oc := oc_302_109; omega), ← e220] at q; exact q
          refine g_iconst 0 222 (gd rfl) rfl rfl ?_
          refine g_aload_n 223 (gd rfl) rfl rfl ?_
          refine g_getA (q2 := 128) 226 (gd rfl) rfl rfl rfl rfl ?_
          refine g_iload_n 227 (gd rfl) rfl rfl ?_
          refine g_iconst 1 228 (gd rfl) rfl rfl ?_
          refine g_iadd 229 (gd rfl) rfl (fun z228 e228 => ?_)
          have i228 := in_add 1 2496 e228 i82 (in_c 1 rfl) rfl rfl
          refine g_iaload 230 (gd rfl) rfl (n := 2500) rfl (in_ix i228 rfl) (fun z229 e229 => ?_)
          have i230 : In z229 (-1000000) 1000000 := by have q := (hr.2.2.2 (by rw [← e89]; exact c90_1) (by rw [← e89]; exact c90_0) (by rw [← e89]; exact c90_2)).2; rw [show 5 * y72_1.toNatClampNeg + 1 = z228.toNatClampNeg from (by show 5 * y72_1.toInt.toNat + 1 = z228.toInt.toNat; have a0 := oa5 ro_109_22 i77a i80 i77 i82; have a5 := (t_mulc 5 (Or.inl e82) i77 rfl).1; have a6 := in_u i228; have a7 := t_add e228 i82 (in_c 1 rfl) rfl; have a8 := in_u ((in_c 1 rfl)); have oc := oc_302_109; omega), ← e229] at q; exact q
          refine g_iconst 0 231 (gd rfl) rfl rfl ?_
          refine g_iconst 0 232 (gd rfl) rfl rfl ?_
          refine g_iconst 0 233 (gd rfl) rfl rfl ?_
          have p233 : MK sc72 (Int32.ofInt 3) z220 (Int32.ofInt 0) z229 := by exact ⟨fun h => absurd h (by decide), fun h => absurd h (by decide), fun _ h => absurd h (by decide), fun _ h _ => absurd (by decide) h, fun h => absurd h (by decide)⟩
          refine g_callv (X := _) (As := [.int (Int32.ofInt 3), .int z220, .int (Int32.ofInt 0), .int z229, .int (Int32.ofInt 0), .int (Int32.ofInt 0), .int (Int32.ofInt 0)]) (r := []) (b := A 109) (q := 109) 236 (gd rfl) rfl rfl rfl rfl rfl (ww_o rfl) (Nat.le_of_ble_eq_true rfl) (Nat.zero_le _) (Nat.zero_le _) (f_274 (by first | exact dq1 hd rfl | exact dq0 hd rfl | exact dq2 hd rfl | exact dq3 hd rfl | omega) hIc72 (in_w 0 4 (in_c 3 rfl) rfl) (in_w 0 159 i221 rfl) (in_w 0 31 (in_c 0 rfl) rfl) (in_w (-1000000) 1000000 i230 rfl) (in_w (-1000000) 1000000 (in_c 0 rfl) rfl) (in_w 0 1000000 (in_c 0 rfl) rfl) (in_w 0 25 (in_c 0 rfl) rfl) v72_109_9 (in_w 0 3999 i80 rfl) p233) (fun e u h => h) (fun v u h => ?_)
          obtain ⟨s233, hI233, hF233, n233, rfl, rfl, p233a, p233b, p233c, p233d, p233e⟩ := h
          obtain ⟨z233a, e233⟩ : ∃ w, w = s233.2.2.1 109 9 := ⟨_, rfl⟩
          have i233a := inv_F hI233 0 4000 rfl e233
          rw [← (show w72_109_9 = sc72.2.2.1 109 9 from v72_109_9)] at n233
          rw [← (show z233a = s233.2.2.1 109 9 from e233)] at n233
          show GG _ _ _ _ _ _ _ _ [] _ _ _
          refine g_iinc 239 (gd rfl) rfl rfl (Nat.le_of_ble_eq_true rfl) (fun z236 e236 => ?_)
          have i236 := in_add 1 500 e236 i77 (in_c 1 rfl) rfl rfl
          refine g_goto 72 (gd rfl) rfl ?_
          have v72 : w72_109_32 = s233.2.2.1 109 32 := fr_F (v72_109_32) hF233 rfl
          have n72 : (z233a).toInt + (w72_109_32).toInt - (z236).toInt ≤ 4000 := by have a0 := oa5 ro_109_22 i77a i80 i77 i82; have a5 := (t_mulc 5 (Or.inl e82) i77 rfl).1; have a6 := in_u i236; have a7 := t_add e236 i77 (in_c 1 rfl) rfl; have a8 := oa3 ((in_c 1 rfl)) i233a i228; have a11 := t_add e228 i82 (in_c 1 rfl) rfl; have oc := oc_302_109; omega
          have n72a : LDK s233 (s233.2.2.1 109 32).toNatClampNeg (z236).toNatClampNeg := by rw [hF233.2.2.1 109 32 rfl, show z236.toNatClampNeg = y72_1.toNatClampNeg + 1 from (by show z236.toInt.toNat = y72_1.toInt.toNat + 1; have a0 := oa5 ro_109_22 i77a i80 i77 i82; have a5 := (t_mulc 5 (Or.inl e82) i77 rfl).1; have a6 := in_u i236; have a7 := t_add e236 i77 (in_c 1 rfl) rfl; have a8 := oa3 ((in_c 1 rfl)) i233a i228; have a11 := t_add e228 i82 (in_c 1 rfl) rfl; have oc := oc_302_109; (first | exact zt_s (by omega) (by omega) | omega))]; exact ldk_s g72_0 p233a (hF233.1 127 rfl) (hF233.1 128 rfl) (by rw [← e89]; exact ⟨fun h => absurd h c90_1, fun h => absurd h c90_0, fun h => absurd h c90_2, fun _ _ _ => (by decide)⟩)
          have n72b : LD3 s s233 (z236).toNatClampNeg := by rw [show z236.toNatClampNeg = y72_1.toNatClampNeg + 1 from (by show z236.toInt.toNat = y72_1.toInt.toNat + 1; have a0 := oa5 ro_109_22 i77a i80 i77 i82; have a5 := (t_mulc 5 (Or.inl e82) i77 rfl).1; have a6 := in_u i236; have a7 := t_add e236 i77 (in_c 1 rfl) rfl; have a8 := oa3 ((in_c 1 rfl)) i233a i228; have a11 := t_add e228 i82 (in_c 1 rfl) rfl; have oc := oc_302_109; (first | exact zt_s (by omega) (by omega) | omega))]; exact ld3_s g72_1 (by rw [← v72_109_32]; show y72_1.toInt.toNat < w72_109_32.toInt.toNat; have a0 := oa5 ro_109_22 i77a i80 i77 i82; have a5 := (t_mulc 5 (Or.inl e82) i77 rfl).1; have a6 := in_u i236; have a7 := t_add e236 i77 (in_c 1 rfl) rfl; have a8 := oa3 ((in_c 1 rfl)) i233a i228; have a11 := t_add e228 i82 (in_c 1 rfl) rfl; have oc := oc_302_109; (first | exact zt_t (by omega) (by omega) | omega)) ((p233b.2.2.2.1 rfl).trans (oR_w (by rw [← e89]; omega) (by rw [← e89]; omega) (by rw [← e89]; omega) (by show (sc72.1 128 (5 * y72_1.toNatClampNeg + 0)).toInt = _; rw [show 5 * y72_1.toNatClampNeg + 0 = z82.toNatClampNeg from (by show 5 * y72_1.toInt.toNat + 0 = z82.toInt.toNat; have a0 := oa5 ro_109_22 i77a i80 i77 i82; have a5 := (t_mulc 5 (Or.inl e82) i77 rfl).1; have a6 := in_u i236; have a7 := t_add e236 i77 (in_c 1 rfl) rfl; have a8 := oa3 ((in_c 1 rfl)) i233a i228; have a11 := t_add e228 i82 (in_c 1 rfl) rfl; have oc := oc_302_109; omega), ← e220]) (by show (sc72.1 128 (5 * y72_1.toNatClampNeg + 1)).toInt = _; rw [show 5 * y72_1.toNatClampNeg + 1 = z228.toNatClampNeg from (by show 5 * y72_1.toInt.toNat + 1 = z228.toInt.toNat; have a0 := oa5 ro_109_22 i77a i80 i77 i82; have a5 := (t_mulc 5 (Or.inl e82) i77 rfl).1; have a6 := in_u i236; have a7 := t_add e236 i77 (in_c 1 rfl) rfl; have a8 := oa3 ((in_c 1 rfl)) i233a i228; have a11 := t_add e228 i82 (in_c 1 rfl) rfl; have oc := oc_302_109; omega), ← e229])).symm) (hF233.1 127 rfl) (hF233.1 128 rfl) (hF233.2.2.1 109 32 rfl) (hF233.2.2.1 109 23 rfl)
          have n72c : LDL s s233 (z236).toNatClampNeg := by have n3 : LD3 s s233 (y72_1.toNatClampNeg + 1) := (by have q := n72b; rw [show z236.toNatClampNeg = y72_1.toNatClampNeg + 1 from (by show z236.toInt.toNat = y72_1.toInt.toNat + 1; have a0 := oa5 ro_109_22 i77a i80 i77 i82; have a5 := (t_mulc 5 (Or.inl e82) i77 rfl).1; have a6 := in_u i236; have a7 := t_add e236 i77 (in_c 1 rfl) rfl; have a8 := oa3 ((in_c 1 rfl)) i233a i228; have a11 := t_add e228 i82 (in_c 1 rfl) rfl; have oc := oc_302_109; (first | exact zt_s (by omega) (by omega) | omega))] at q; exact q); rw [show z236.toNatClampNeg = y72_1.toNatClampNeg + 1 from (by show z236.toInt.toNat = y72_1.toInt.toNat + 1; have a0 := oa5 ro_109_22 i77a i80 i77 i82; have a5 := (t_mulc 5 (Or.inl e82) i77 rfl).1; have a6 := in_u i236; have a7 := t_add e236 i77 (in_c 1 rfl) rfl; have a8 := oa3 ((in_c 1 rfl)) i233a i228; have a11 := t_add e228 i82 (in_c 1 rfl) rfl; have oc := oc_302_109; (first | exact zt_s (by omega) (by omega) | omega))]; exact ldl_s g72_2 g72_1 n3 (inv_F hI (z := s.2.2.1 109 9) 0 4000 rfl rfl).1 (by rw [← e233, ← v72_109_9]; have a0 := oa5 ro_109_22 i77a i80 i77 i82; have a5 := (t_mulc 5 (Or.inl e82) i77 rfl).1; have a6 := in_u i236; have a7 := t_add e236 i77 (in_c 1 rfl) rfl; have a8 := oa3 ((in_c 1 rfl)) i233a i228; have a11 := t_add e228 i82 (in_c 1 rfl) rfl; have oc := oc_302_109; omega) (Or.inr p233c) (by rw [if_neg (by decide), if_neg (by decide), if_neg (by decide), if_pos (by decide)]; exact p233b.2.2.2.1 rfl) (hF233.1 127 rfl) (hF233.1 128 rfl) p233d
          have n72d : LDB s s233 := by exact ldb_cg g72_3 (hF233.1 127 rfl) (hF233.1 128 rfl) (hF233.2.2.1 109 32 rfl)
          have n72e : G1S s s233 := by exact g1_tr g72_4 p233e
          exact gg_w (by first | exact Nat.le_add_right _ _ | exact gw2 | exact gw3 | exact gwe rfl | exact gwf rfl | exact gwg rfl | exact gwh rfl | omega) (gg_f (gf_cons rfl (gf_cons rfl gf_nil)) (ih72 s233 z236 z233a w72_109_32 hI233 (fr_tr rfl hFc72 hF233) (in_w 0 500 i236 rfl) e233 v72 n72 n72a n72b n72c n72d n72e (m_up mm72 (t_add e236 i77 (in_c 1 rfl) rfl) (in_w 1 1 (in_c 1 rfl) rfl))))
  have ct28 : ∀ (k28 : Nat) (sc28 : GS) (w28_109_27 : Int32) (w28_109_23 : Int32) (w28_109_32 : Int32) (w28_109_28 : Int32), Inv sc28 → Fr fm_302 s sc28 → (w28_109_27 = sc28.2.2.1 109 27) → (w28_109_23 = sc28.2.2.1 109 23) → (w28_109_32 = sc28.2.2.1 109 32) → (w28_109_28 = sc28.2.2.1 109 28) → ((w28_109_27).toInt ≤ (u_109_22).toInt) → ((w28_109_28).toInt ≠ 0 → (w28_109_23).toInt = 0 → 3 * (w28_109_32).toInt + 1 ≤ (w28_109_27).toInt) → ((w28_109_23).toInt = 0 → 3 * (w28_109_32).toInt ≤ (w28_109_27).toInt) → ((sc28.2.2.1 109 23).toInt = 0 → LDQ sc28 (sc28.2.2.1 109 32).toNatClampNeg) → ((sc28.2.2.1 109 23).toInt = 0 → (sc28.2.2.1 109 9).toInt + (sc28.2.2.1 109 32).toInt ≤ 4000) → (0 ≤ (sc28.2.2.1 109 23).toInt ∧ (sc28.2.2.1 109 23).toInt ≤ 9) → (LD1 s sc28) → (L28 s sc28) → ((sc28.2.2.1 109 23).toInt = 0 → LDB s sc28) → (G1S s sc28) → 10 * ((u_109_22).toInt - (w28_109_27).toInt) + 9 - (w28_109_23).toInt < (k28 : Int) → GG Z (d - 1) 302 post (gx xp) (450902 + k28 * 900) 28 (fun j => xlook j [(0, .ref (A 109))]) [] (WW Z A sc28 ++ ex) 0 0 := by
    intro k28
    induction k28 with
    | zero => intro sc28 w28_109_27 w28_109_23 w28_109_32 w28_109_28 hIc28 hFc28 v28_109_27 v28_109_23 v28_109_32 v28_109_28 n28_0 n28_1 n28_2 g28_0 g28_1 g28_2 g28_3 g28_4 g28_5 g28_6 mm28; exfalso; have a0 := oa4 ro_109_22 ((inv_F hIc28 0 500 rfl v28_109_32)) ((inv_F hIc28 0 9 rfl v28_109_23)) ((inv_F hIc28 0 1000 rfl v28_109_27)); have oc := oc_302_109; omega
    | succ k28 ih28 =>
      intro sc28 w28_109_27 w28_109_23 w28_109_32 w28_109_28 hIc28 hFc28 v28_109_27 v28_109_23 v28_109_32 v28_109_28 n28_0 n28_1 n28_2 g28_0 g28_1 g28_2 g28_3 g28_4 g28_5 g28_6 mm28
      refine gg_w (M := 450902 + k28 * 900 + 900) gws ?_
      refine g_aload_n 29 (gd rfl) rfl rfl ?_
      refine g_getI 32 (gd rfl) rfl rfl rfl (fun z29 e29 => ?_)
      have q29 : w28_109_28 = z29 := (v28_109_28).trans e29.symm
      subst q29
      refine g_if_eq 35 60 (gd rfl) rfl rfl (fun c32 => ?_) (fun c32 => ?_)
      · skip
        have i32 := z_eq 0 0 c32 (inv_F hIc28 (-2147483648) 2147483647 rfl v28_109_28) rfl
        refine g_aload_n 61 (gd rfl) rfl rfl ?_
        refine g_getI 64 (gd rfl) rfl rfl rfl (fun z61 e61 => ?_)
        have q61 : w28_109_23 = z61 := (v28_109_23).trans e61.symm
        subst q61
        refine g_if_le 67 70 (gd rfl) rfl rfl (fun c64 => ?_) (fun c64 => ?_)
        · skip
          have i64 := z_le 0 0 c64 (inv_F hIc28 0 9 rfl v28_109_23) rfl
          have hfz : (sc28.2.2.1 109 23).toInt = 0 := (by have r := inv_F hIc28 0 9 rfl v28_109_23; unfold In at r; rw [← v28_109_23]; have h := c64; have h0 : (Int32.ofInt 0).toInt = 0 := rfl; omega); have hcc := g28_1 hfz; rw [← v28_109_32] at hcc
          refine g_iconst 0 71 (gd rfl) rfl rfl ?_
          refine g_istore_n 72 (gd rfl) rfl (Nat.le_of_ble_eq_true rfl) ?_
          have n72 : ((sc28.2.2.1 109 9)).toInt + (w28_109_32).toInt - ((Int32.ofInt 0)).toInt ≤ 4000 := by have a0 := oa7 ro_109_22 i32 ((inv_F hIc28 0 500 rfl v28_109_32)) i64 ((inv_F hIc28 0 1000 rfl v28_109_27)) ((in_c 0 rfl)) ((show In (sc28.2.2.1 109 9) 0 4000 from inv_F hIc28 0 4000 rfl rfl)); have oc := oc_302_109; omega
          have n72a : LDK sc28 (sc28.2.2.1 109 32).toNatClampNeg ((Int32.ofInt 0)).toNatClampNeg := by exact ldk_0 (g28_0 hfz)
          have n72b : LD3 s sc28 ((Int32.ofInt 0)).toNatClampNeg := by exact ld3_0 g28_3 hfz (by rw [← v28_109_28]; exact c32)
          have n72c : LDL s sc28 ((Int32.ofInt 0)).toNatClampNeg := by exact ldl_0 g28_4
          have n72d : LDB s sc28 := by exact g28_5 hfz
          have n72e : G1S s sc28 := by exact g28_6
          exact gg_w (by first | exact Nat.le_add_right _ _ | exact gw2 | exact gw3 | exact gwe rfl | exact gwf rfl | exact gwg rfl | exact gwh rfl | omega) (gg_f (gf_cons rfl (gf_cons rfl gf_nil)) (ct72 501 sc28 (Int32.ofInt 0) _ w28_109_32 hIc28 hFc28 (in_w 0 500 (in_c 0 rfl) rfl) rfl v28_109_32 n72 n72a n72b n72c n72d n72e (m_in 501 (in_w 0 500 (in_c 0 rfl) rfl) rfl)))
        · skip
          have i64 := z_gt 1 9 c64 (inv_F hIc28 0 9 rfl v28_109_23) rfl
          refine g_bipush (-4) 69 (gd rfl) rfl rfl ?_
          have n69 : LOT (s.1 125) (s.2.2.1 109 22).toInt.toNat (gvR s) ((Int32.ofInt (-4))).toInt (sc28.2.2.1 109 23).toInt (sc28.2.2.1 109 24).toInt (gvR sc28) := by exact ld1_x g28_3 (by rw [← v28_109_23]; have a0 := oa5 ro_109_22 i32 ((inv_F hIc28 0 500 rfl v28_109_32)) i64 ((inv_F hIc28 0 1000 rfl v28_109_27)); have oc := oc_302_109; omega) rfl
          have n69a : LDO s sc28 (Int32.ofInt (-4)) := by exact ⟨fun h => absurd rfl h, fun _ => g28_4⟩
          have n69b : G1S s sc28 := by exact g28_6
          exact g_ireturn (gd rfl) rfl rfl (hP _ _ ⟨sc28, hIc28, hFc28, (Int32.ofInt (-4)), rfl, rfl, in_w (-4) 500 (in_c (-4) rfl) rfl, n69, n69a, n69b⟩)
      · skip
        refine g_aload_n 36 (gd rfl) rfl rfl ?_
        refine g_getI 39 (gd rfl) rfl rfl rfl (fun z36 e36 => ?_)
        have q36 : w28_109_23 = z36 := (v28_109_23).trans e36.symm
        subst q36
        refine g_if_ne 42 60 (gd rfl) rfl rfl (fun c39 => ?_) (fun c39 => ?_)
        · skip
          have i39 := z_ne 1 9 c39 (inv_F hIc28 0 9 rfl v28_109_23) rfl
          refine g_aload_n 61 (gd rfl) rfl rfl ?_
          refine g_getI 64 (gd rfl) rfl rfl rfl (fun z61 e61 => ?_)
          have q61 : w28_109_23 = z61 := (v28_109_23).trans e61.symm
          subst q61
          refine g_if_le 67 70 (gd rfl) rfl rfl (fun c64 => ?_) (fun c64 => ?_)
          · skip
            exact zn_le c64 i39 rfl
          · skip
            refine g_bipush (-4) 69 (gd rfl) rfl rfl ?_
            have n69 : LOT (s.1 125) (s.2.2.1 109 22).toInt.toNat (gvR s) ((Int32.ofInt (-4))).toInt (sc28.2.2.1 109 23).toInt (sc28.2.2.1 109 24).toInt (gvR sc28) := by exact ld1_x g28_3 (by rw [← v28_109_23]; have a0 := oa4 ro_109_22 ((inv_F hIc28 0 500 rfl v28_109_32)) i39 ((inv_F hIc28 0 1000 rfl v28_109_27)); have oc := oc_302_109; omega) rfl
            have n69a : LDO s sc28 (Int32.ofInt (-4)) := by exact ⟨fun h => absurd rfl h, fun _ => g28_4⟩
            have n69b : G1S s sc28 := by exact g28_6
            exact g_ireturn (gd rfl) rfl rfl (hP _ _ ⟨sc28, hIc28, hFc28, (Int32.ofInt (-4)), rfl, rfl, in_w (-4) 500 (in_c (-4) rfl) rfl, n69, n69a, n69b⟩)
        · skip
          have i39 := z_eq 0 0 c39 (inv_F hIc28 0 9 rfl v28_109_23) rfl
          refine g_aload_n 43 (gd rfl) rfl rfl ?_
          have v43 : u_109_22 = sc28.2.2.1 109 22 := fr_F e_109_22 hFc28 rfl
          have n43 : (w28_109_27).toInt ≤ (u_109_22).toInt := by first | exact n28_0 | (have a0 := oa4 ro_109_22 ((inv_F hIc28 0 500 rfl v28_109_32)) i39 ((inv_F hIc28 0 1000 rfl v28_109_27)); have oc := oc_302_109; omega)
          have n43a : 3 * (w28_109_32).toInt + 1 ≤ (w28_109_27).toInt := by have a0 := oa4 ro_109_22 ((inv_F hIc28 0 500 rfl v28_109_32)) i39 ((inv_F hIc28 0 1000 rfl v28_109_27)); have oc := oc_302_109; omega
          have p43 : LDQ sc28 (sc28.2.2.1 109 32).toNatClampNeg := by exact g28_0 (by rw [← v28_109_23]; exact c39)
          have p43a : (sc28.2.2.1 109 23).toInt = 0 := by rw [← v28_109_23]; exact c39
          refine g_callv (X := _) (As := []) (r := []) (b := A 109) (q := 109) 46 (gd rfl) rfl rfl rfl rfl rfl (ww_o rfl) (Nat.le_of_ble_eq_true rfl) (Nat.zero_le _) (Nat.zero_le _) (f_304 (by first | exact dq1 hd rfl | exact dq0 hd rfl | exact dq2 hd rfl | exact dq3 hd rfl | omega) hIc28 v28_109_27 v43 v28_109_32 v28_109_28 rfl rfl v28_109_23 n43 n43a p43 p43a) (fun e u h => h) (fun v u h => ?_)
          obtain ⟨s43, hI43, hF43, n43b, n43c, n43d, n43e, n43f, rfl, rfl, p43b, p43c, p43d, p43e⟩ := h
          obtain ⟨z43a, e43⟩ : ∃ w, w = s43.2.2.1 109 27 := ⟨_, rfl⟩
          have i43a := inv_F hI43 0 1000 rfl e43
          obtain ⟨z43b, e43a⟩ : ∃ w, w = s43.2.2.1 109 23 := ⟨_, rfl⟩
          have i43b := inv_F hI43 0 9 rfl e43a
          obtain ⟨z43c, e43b⟩ : ∃ w, w = s43.2.2.1 109 32 := ⟨_, rfl⟩
          have i43c := inv_F hI43 0 500 rfl e43b
          obtain ⟨z43d, e43c⟩ : ∃ w, w = s43.2.2.1 109 9 := ⟨_, rfl⟩
          have i43d := inv_F hI43 0 4000 rfl e43c
          rw [← (show z43a = s43.2.2.1 109 27 from e43)] at n43b
          rw [← (show u_109_22 = s43.2.2.1 109 22 from fr_F (fr_F e_109_22 hFc28 rfl) hF43 rfl)] at n43b
          rw [← (show w28_109_27 = sc28.2.2.1 109 27 from v28_109_27)] at n43c
          rw [← (show z43a = s43.2.2.1 109 27 from e43)] at n43c
          rw [← (show z43a = s43.2.2.1 109 27 from e43)] at n43d
          rw [← (show z43b = s43.2.2.1 109 23 from e43a)] at n43d
          rw [← (show z43c = s43.2.2.1 109 32 from e43b)] at n43d
          rw [← (show w28_109_27 = sc28.2.2.1 109 27 from v28_109_27)] at n43e
          rw [← (show z43a = s43.2.2.1 109 27 from e43)] at n43e
          rw [← (show z43b = s43.2.2.1 109 23 from e43a)] at n43e
          rw [← (show z43b = s43.2.2.1 109 23 from e43a)] at n43f
          rw [← (show z43c = s43.2.2.1 109 32 from e43b)] at n43f
          rw [← (show z43d = s43.2.2.1 109 9 from e43c)] at n43f
          show GG _ _ _ _ _ _ _ _ [] _ _ _
          refine g_aload_n 47 (gd rfl) rfl rfl ?_
          refine g_getI 50 (gd rfl) rfl rfl rfl (fun z47 e47 => ?_)
          have q47 : z43b = z47 := (e43a).trans e47.symm
          subst q47
          refine g_if_ne 53 28 (gd rfl) rfl rfl (fun c50 => ?_) (fun c50 => ?_)
          · skip
            have i50 := z_ne 1 9 c50 i43b rfl
            have n28 : (z43a).toInt ≤ (u_109_22).toInt := by have a0 := oa8 ro_109_22 ((inv_F hIc28 0 500 rfl v28_109_32)) i39 ((inv_F hIc28 0 1000 rfl v28_109_27)) i43d i43c i50 i43a; have oc := oc_302_109; omega
            have n28a : ((s43.2.2.1 109 28)).toInt ≠ 0 → (z43b).toInt = 0 → 3 * (z43c).toInt + 1 ≤ (z43a).toInt := by have a0 := oa8 ro_109_22 ((inv_F hIc28 0 500 rfl v28_109_32)) i39 ((inv_F hIc28 0 1000 rfl v28_109_27)) i43d i43c i50 i43a; have oc := oc_302_109; omega
            have n28b : (z43b).toInt = 0 → 3 * (z43c).toInt ≤ (z43a).toInt := by have a0 := oa8 ro_109_22 ((inv_F hIc28 0 500 rfl v28_109_32)) i39 ((inv_F hIc28 0 1000 rfl v28_109_27)) i43d i43c i50 i43a; have oc := oc_302_109; omega
            have n28c : (s43.2.2.1 109 23).toInt = 0 → LDQ s43 (s43.2.2.1 109 32).toNatClampNeg := by exact p43b
            have n28d : (s43.2.2.1 109 23).toInt = 0 → (s43.2.2.1 109 9).toInt + (s43.2.2.1 109 32).toInt ≤ 4000 := by (intro hf; rw [← e43a] at hf; rw [← e43c, ← e43b]; exact n43f hf)
            have n28e : 0 ≤ (s43.2.2.1 109 23).toInt ∧ (s43.2.2.1 109 23).toInt ≤ 9 := by exact inv_F hI43 0 9 rfl rfl
            have n28f : LD1 s s43 := by exact ⟨(ld_cmd g28_3 (by rw [← v28_109_23]; exact c39) (by rw [← v28_109_28]; exact c32) p43c (geq_0 hF43 rfl p43d) (by have h := inv_F hIc28 0 500 rfl v28_109_32; rw [← v28_109_32]; exact h.1) (hFc28.1 125 rfl) (hFc28.2.2.1 109 22 rfl)).1, fun z => absurd z (by rw [← e43a]; exact c50), (ld_cmd g28_3 (by rw [← v28_109_23]; exact c39) (by rw [← v28_109_28]; exact c32) p43c (geq_0 hF43 rfl p43d) (by have h := inv_F hIc28 0 500 rfl v28_109_32; rw [← v28_109_32]; exact h.1) (hFc28.1 125 rfl) (hFc28.2.2.1 109 22 rfl)).2.2⟩
            have n28g : L28 s s43 := by exact l28_fr g28_4 hF43 rfl
            have n28h : (s43.2.2.1 109 23).toInt = 0 → LDB s s43 := by exact fun h => absurd h (by rw [← e43a]; exact c50)
            have n28i : G1S s s43 := by exact g1_tr g28_6 (g1_2 hF43 rfl p43e)
            have m28 : 10 * ((u_109_22).toInt - (z43a).toInt) + 9 - (z43b).toInt < ((k28 : Nat) : Int) := by have a0 := oa8 ro_109_22 ((inv_F hIc28 0 500 rfl v28_109_32)) i39 ((inv_F hIc28 0 1000 rfl v28_109_27)) i43d i43c i50 i43a; have oc := oc_302_109; omega
            exact gg_w (by first | exact Nat.le_add_right _ _ | exact gw2 | exact gw3 | exact gwe rfl | exact gwf rfl | exact gwg rfl | exact gwh rfl | omega) (gg_f (gf_cons rfl gf_nil) (ih28  s43 z43a z43b z43c _ hI43 (fr_tr rfl hFc28 hF43) e43 e43a e43b rfl n28 n28a n28b n28c n28d n28e n28f n28g n28h n28i m28))
          · skip
            have i50 := z_eq 0 0 c50 i43b rfl
            refine g_aload_n 54 (gd rfl) rfl rfl ?_
            have v54 : u_109_22 = s43.2.2.1 109 22 := fr_F (fr_F e_109_22 hFc28 rfl) hF43 rfl
            have n54 : (z43a).toInt ≤ (u_109_22).toInt := by have a0 := oa8 ro_109_22 ((inv_F hIc28 0 500 rfl v28_109_32)) i39 ((inv_F hIc28 0 1000 rfl v28_109_27)) i43d i43c i50 i43a; have oc := oc_302_109; omega
            refine g_callv (X := _) (As := []) (r := []) (b := A 109) (q := 109) 57 (gd rfl) rfl rfl rfl rfl rfl (ww_o rfl) (Nat.le_of_ble_eq_true rfl) (Nat.zero_le _) (Nat.zero_le _) (f_299 (by first | exact dq1 hd rfl | exact dq0 hd rfl | exact dq2 hd rfl | exact dq3 hd rfl | omega) hI43 e43 v54 n54) (fun e u h => h) (fun v u h => ?_)
            obtain ⟨s54, hI54, hF54, n54a, n54b, n54c, n54d, n54e, rfl, rfl, p54⟩ := h
            obtain ⟨z54a, e54⟩ : ∃ w, w = s54.2.2.1 109 27 := ⟨_, rfl⟩
            have i54a := inv_F hI54 0 1000 rfl e54
            obtain ⟨z54b, e54a⟩ : ∃ w, w = s54.2.2.1 109 28 := ⟨_, rfl⟩
            obtain ⟨z54c, e54b⟩ : ∃ w, w = s54.2.2.1 109 30 := ⟨_, rfl⟩
            rw [← (show z54a = s54.2.2.1 109 27 from e54)] at n54a
            rw [← (show u_109_22 = s54.2.2.1 109 22 from fr_F (fr_F (fr_F e_109_22 hFc28 rfl) hF43 rfl) hF54 rfl)] at n54a
            rw [← (show z43a = s43.2.2.1 109 27 from e43)] at n54b
            rw [← (show z54a = s54.2.2.1 109 27 from e54)] at n54b
            rw [← (show z43a = s43.2.2.1 109 27 from e43)] at n54c
            rw [← (show z54a = s54.2.2.1 109 27 from e54)] at n54c
            rw [← (show z54b = s54.2.2.1 109 28 from e54a)] at n54c
            rw [← (show z54b = s54.2.2.1 109 28 from e54a)] at n54d
            rw [← (show z54c = s54.2.2.1 109 30 from e54b)] at n54d
            rw [← (show z54b = s54.2.2.1 109 28 from e54a)] at n54e
            rw [← (show z54c = s54.2.2.1 109 30 from e54b)] at n54e
            show GG _ _ _ _ _ _ _ _ [] _ _ _
            refine g_goto 28 (gd rfl) rfl ?_
            have v28 : z43c = s54.2.2.1 109 32 := fr_F (e43b) hF54 rfl
            have n28 : (z54a).toInt ≤ (u_109_22).toInt := by have a0 := oa7 ro_109_22 ((inv_F hIc28 0 500 rfl v28_109_32)) i39 ((inv_F hIc28 0 1000 rfl v28_109_27)) i54a i43d i43c; have oc := oc_302_109; omega
            have n28a : (z54b).toInt ≠ 0 → ((s54.2.2.1 109 23)).toInt = 0 → 3 * (z43c).toInt + 1 ≤ (z54a).toInt := by have a0 := oa8 ro_109_22 ((inv_F hIc28 0 500 rfl v28_109_32)) i39 ((inv_F hIc28 0 1000 rfl v28_109_27)) i54a i43d i43c ((show In (s54.2.2.1 109 23) 0 9 from inv_F hI54 0 9 rfl rfl)); have oc := oc_302_109; omega
            have n28b : ((s54.2.2.1 109 23)).toInt = 0 → 3 * (z43c).toInt ≤ (z54a).toInt := by have a0 := oa8 ro_109_22 ((inv_F hIc28 0 500 rfl v28_109_32)) i39 ((inv_F hIc28 0 1000 rfl v28_109_27)) i54a i43d i43c ((show In (s54.2.2.1 109 23) 0 9 from inv_F hI54 0 9 rfl rfl)); have oc := oc_302_109; omega
            have n28c : (s54.2.2.1 109 23).toInt = 0 → LDQ s54 (s54.2.2.1 109 32).toNatClampNeg := by (intro _; rw [hF54.2.2.1 109 32 rfl]; exact ldq_cg (p43b (by rw [← e43a]; exact c50)) (hF54.1 110 rfl) (hF54.1 112 rfl) (fun j _ => by rw [hF54.1 127 rfl]) (fun j _ => by rw [hF54.1 128 rfl]))
            have n28d : (s54.2.2.1 109 23).toInt = 0 → (s54.2.2.1 109 9).toInt + (s54.2.2.1 109 32).toInt ≤ 4000 := by (intro _; rw [hF54.2.2.1 109 9 rfl, hF54.2.2.1 109 32 rfl, ← e43c, ← e43b]; exact n43f c50)
            have n28e : 0 ≤ (s54.2.2.1 109 23).toInt ∧ (s54.2.2.1 109 23).toInt ≤ 9 := by exact inv_F hI54 0 9 rfl rfl
            have n28f : LD1 s s54 := by exact ld_tok hI54 (ld_cmd g28_3 (by rw [← v28_109_23]; exact c39) (by rw [← v28_109_28]; exact c32) p43c (geq_0 hF43 rfl p43d) (by have h := inv_F hIc28 0 500 rfl v28_109_32; rw [← v28_109_32]; exact h.1) (hFc28.1 125 rfl) (hFc28.2.2.1 109 22 rfl)).1 ((ld_cmd g28_3 (by rw [← v28_109_23]; exact c39) (by rw [← v28_109_28]; exact c32) p43c (geq_0 hF43 rfl p43d) (by have h := inv_F hIc28 0 500 rfl v28_109_32; rw [← v28_109_32]; exact h.1) (hFc28.1 125 rfl) (hFc28.2.2.1 109 22 rfl)).2.1 (by rw [← e43a]; exact c50)) (by rw [← e43a]; exact c50) p54 ((hF43.1 125 rfl).trans (hFc28.1 125 rfl)) ((hF43.2.2.1 109 22 rfl).trans (hFc28.2.2.1 109 22 rfl)) (gvR_cg hF54 rfl) (hF54.1 110 rfl) (hF54.1 112 rfl) (hF54.1 127 rfl) (hF54.1 128 rfl) (hF54.2.2.1 109 9 rfl) (hF54.2.2.1 109 32 rfl)
            have n28g : L28 s s54 := by exact l28_fr (l28_fr g28_4 hF43 rfl) hF54 rfl
            have n28h : (s54.2.2.1 109 23).toInt = 0 → LDB s s54 := by exact fun _ => ldb_cg (ldb_cmd (g28_5 (by rw [← v28_109_23]; exact c39)) g28_3 (by rw [← v28_109_23]; exact c39) (by rw [← v28_109_28]; exact c32) p43c (by have h := inv_F hIc28 0 500 rfl v28_109_32; rw [← v28_109_32]; exact h.1) (hFc28.1 125 rfl) (hFc28.2.2.1 109 22 rfl) (by rw [← e43a]; exact c50) ((ld_cmd g28_3 (by rw [← v28_109_23]; exact c39) (by rw [← v28_109_28]; exact c32) p43c (geq_0 hF43 rfl p43d) (by have h := inv_F hIc28 0 500 rfl v28_109_32; rw [← v28_109_32]; exact h.1) (hFc28.1 125 rfl) (hFc28.2.2.1 109 22 rfl)).2.1 (by rw [← e43a]; exact c50))) (hF54.1 127 rfl) (hF54.1 128 rfl) (hF54.2.2.1 109 32 rfl)
            have n28i : G1S s s54 := by exact g1_tr (g1_tr g28_6 (g1_2 hF43 rfl p43e)) (g1_fr hF54 rfl)
            have m28 : 10 * ((u_109_22).toInt - (z54a).toInt) + 9 - ((s54.2.2.1 109 23)).toInt < ((k28 : Nat) : Int) := by have a0 := oa8 ro_109_22 ((inv_F hIc28 0 500 rfl v28_109_32)) i39 ((inv_F hIc28 0 1000 rfl v28_109_27)) i54a i43d i43c ((show In (s54.2.2.1 109 23) 0 9 from inv_F hI54 0 9 rfl rfl)); have oc := oc_302_109; omega
            exact gg_w (by first | exact Nat.le_add_right _ _ | exact gw2 | exact gw3 | exact gwe rfl | exact gwf rfl | exact gwg rfl | exact gwh rfl | omega) (gg_f (gf_cons rfl gf_nil) (ih28  s54 z54a _ z43c z54b hI54 (fr_tr rfl (fr_tr rfl hFc28 hF43) hF54) e54 rfl v28 e54a n28 n28a n28b n28c n28d n28e n28f n28g n28h n28i m28))
  refine g_enter2 (k := 302) (N := 9469802) (by first | exact dq1 hd rfl | exact dq0 hd rfl | exact dq2 hd rfl | exact dq3 hd rfl | omega) rfl (Nat.le_of_ble_eq_true rfl) ?_
  refine g_aload_n 1 (gd rfl) rfl rfl ?_
  refine g_iconst 0 2 (gd rfl) rfl rfl ?_
  refine g_putI 5 (gd rfl) rfl rfl rfl rfl ?_
  have hI2 := inv_sF (q := 109) (j := 0) hI rfl (in_w 0 2 (in_c 0 rfl) rfl)
  refine g_aload_n 6 (gd rfl) rfl rfl ?_
  refine g_iconst 0 7 (gd rfl) rfl rfl ?_
  refine g_putI 10 (gd rfl) rfl rfl rfl rfl ?_
  have hI7 := inv_sF (q := 109) (j := 23) hI2 rfl (in_w 0 9 (in_c 0 rfl) rfl)
  refine g_aload_n 11 (gd rfl) rfl rfl ?_
  refine g_iconst 0 12 (gd rfl) rfl rfl ?_
  refine g_putI 15 (gd rfl) rfl rfl rfl rfl ?_
  have hI12 := inv_sF (q := 109) (j := 32) hI7 rfl (in_w 0 500 (in_c 0 rfl) rfl)
  refine g_aload_n 16 (gd rfl) rfl rfl ?_
  refine g_iconst 0 17 (gd rfl) rfl rfl ?_
  refine g_putI 20 (gd rfl) rfl rfl rfl rfl ?_
  have hI17 := inv_sF (q := 109) (j := 27) hI12 rfl (in_w 0 1000 (in_c 0 rfl) rfl)
  refine g_aload_n 21 (gd rfl) rfl rfl ?_
  refine g_callv (X := _) (As := []) (r := []) (b := A 109) (q := 109) 24 (gd rfl) rfl rfl rfl rfl rfl (ww_o rfl) (Nat.le_of_ble_eq_true rfl) (Nat.zero_le _) (Nat.zero_le _) (f_303 (by first | exact dq1 hd rfl | exact dq0 hd rfl | exact dq2 hd rfl | exact dq3 hd rfl | omega) hI17 ) (fun e u h => h) (fun v u h => ?_)
  obtain ⟨s21, hI21, hF21, rfl, rfl, p21, p21a⟩ := h
  show GG _ _ _ _ _ _ _ _ [] _ _ _
  refine g_aload_n 25 (gd rfl) rfl rfl ?_
  have v25 : (Int32.ofInt 0) = s21.2.2.1 109 27 := fr_F (s := (sF (sF (sF (sF s 109 0 (Int32.ofInt 0)) 109 23 (Int32.ofInt 0)) 109 32 (Int32.ofInt 0)) 109 27 (Int32.ofInt 0))) (sF_get) hF21 rfl
  have v25a : u_109_22 = s21.2.2.1 109 22 := fr_F (s := (sF (sF (sF (sF s 109 0 (Int32.ofInt 0)) 109 23 (Int32.ofInt 0)) 109 32 (Int32.ofInt 0)) 109 27 (Int32.ofInt 0))) (sF_ne rfl (sF_ne rfl (sF_ne rfl (sF_ne rfl (e_109_22))))) hF21 rfl
  have n25 : ((Int32.ofInt 0)).toInt ≤ (u_109_22).toInt := by have a0 := oa2 ((inv_F hI 0 1000 rfl e_109_22)) ((in_c 0 rfl)); have oc := oc_302_109; omega
  refine g_callv (X := _) (As := []) (r := []) (b := A 109) (q := 109) 28 (gd rfl) rfl rfl rfl rfl rfl (ww_o rfl) (Nat.le_of_ble_eq_true rfl) (Nat.zero_le _) (Nat.zero_le _) (f_299 (by first | exact dq1 hd rfl | exact dq0 hd rfl | exact dq2 hd rfl | exact dq3 hd rfl | omega) hI21 v25 v25a n25) (fun e u h => h) (fun v u h => ?_)
  obtain ⟨s25, hI25, hF25, n25a, n25b, n25c, n25d, n25e, rfl, rfl, p25⟩ := h
  obtain ⟨z25a, e25⟩ : ∃ w, w = s25.2.2.1 109 27 := ⟨_, rfl⟩
  have i25a := inv_F hI25 0 1000 rfl e25
  obtain ⟨z25b, e25a⟩ : ∃ w, w = s25.2.2.1 109 28 := ⟨_, rfl⟩
  obtain ⟨z25c, e25b⟩ : ∃ w, w = s25.2.2.1 109 30 := ⟨_, rfl⟩
  rw [← (show z25a = s25.2.2.1 109 27 from e25)] at n25a
  rw [← (show u_109_22 = s25.2.2.1 109 22 from fr_F (fr_F (s := (sF (sF (sF (sF s 109 0 (Int32.ofInt 0)) 109 23 (Int32.ofInt 0)) 109 32 (Int32.ofInt 0)) 109 27 (Int32.ofInt 0))) (sF_ne rfl (sF_ne rfl (sF_ne rfl (sF_ne rfl (e_109_22))))) hF21 rfl) hF25 rfl)] at n25a
  rw [← (show (Int32.ofInt 0) = s21.2.2.1 109 27 from fr_F (s := (sF (sF (sF (sF s 109 0 (Int32.ofInt 0)) 109 23 (Int32.ofInt 0)) 109 32 (Int32.ofInt 0)) 109 27 (Int32.ofInt 0))) (sF_get) hF21 rfl)] at n25b
  rw [← (show z25a = s25.2.2.1 109 27 from e25)] at n25b
  rw [← (show (Int32.ofInt 0) = s21.2.2.1 109 27 from fr_F (s := (sF (sF (sF (sF s 109 0 (Int32.ofInt 0)) 109 23 (Int32.ofInt 0)) 109 32 (Int32.ofInt 0)) 109 27 (Int32.ofInt 0))) (sF_get) hF21 rfl)] at n25c
  rw [← (show z25a = s25.2.2.1 109 27 from e25)] at n25c
  rw [← (show z25b = s25.2.2.1 109 28 from e25a)] at n25c
  rw [← (show z25b = s25.2.2.1 109 28 from e25a)] at n25d
  rw [← (show z25c = s25.2.2.1 109 30 from e25b)] at n25d
  rw [← (show z25b = s25.2.2.1 109 28 from e25a)] at n25e
  rw [← (show z25c = s25.2.2.1 109 30 from e25b)] at n25e
  show GG _ _ _ _ _ _ _ _ [] _ _ _
  have v28 : (Int32.ofInt 0) = s25.2.2.1 109 32 := fr_F (fr_F (s := (sF (sF (sF (sF s 109 0 (Int32.ofInt 0)) 109 23 (Int32.ofInt 0)) 109 32 (Int32.ofInt 0)) 109 27 (Int32.ofInt 0))) (sF_ne rfl (sF_get)) hF21 rfl) hF25 rfl
  have n28 : (z25a).toInt ≤ (u_109_22).toInt := by have a0 := oa3 ((inv_F hI 0 1000 rfl e_109_22)) i25a ((in_c 0 rfl)); have oc := oc_302_109; omega
  have n28a : (z25b).toInt ≠ 0 → ((s25.2.2.1 109 23)).toInt = 0 → 3 * ((Int32.ofInt 0)).toInt + 1 ≤ (z25a).toInt := by have a0 := oa4 ((inv_F hI 0 1000 rfl e_109_22)) i25a ((in_c 0 rfl)) ((show In (s25.2.2.1 109 23) 0 9 from inv_F hI25 0 9 rfl rfl)); have oc := oc_302_109; omega
  have n28b : ((s25.2.2.1 109 23)).toInt = 0 → 3 * ((Int32.ofInt 0)).toInt ≤ (z25a).toInt := by have a0 := oa4 ((inv_F hI 0 1000 rfl e_109_22)) i25a ((in_c 0 rfl)) ((show In (s25.2.2.1 109 23) 0 9 from inv_F hI25 0 9 rfl rfl)); have oc := oc_302_109; omega
  have n28c : (s25.2.2.1 109 23).toInt = 0 → LDQ s25 (s25.2.2.1 109 32).toNatClampNeg := by (intro _; rw [show s25.2.2.1 109 32 = Int32.ofInt 0 from ((hF25.2.2.1 109 32 rfl).trans ((hF21.2.2.1 109 32 rfl).trans (by simp [sF])))]; exact ldq_cg (ldq_0 p21.1 p21.2.1 p21.2.2) (hF25.1 110 rfl) (hF25.1 112 rfl) (fun j _ => by rw [hF25.1 127 rfl]) (fun j _ => by rw [hF25.1 128 rfl]))
  have n28d : (s25.2.2.1 109 23).toInt = 0 → (s25.2.2.1 109 9).toInt + (s25.2.2.1 109 32).toInt ≤ 4000 := by (intro _; rw [show s25.2.2.1 109 32 = Int32.ofInt 0 from ((hF25.2.2.1 109 32 rfl).trans ((hF21.2.2.1 109 32 rfl).trans (by simp [sF])))]; have h := inv_F hI25 (z := s25.2.2.1 109 9) 0 4000 rfl rfl; unfold In at h; have h0 : (Int32.ofInt 0).toInt = 0 := rfl; omega)
  have n28e : 0 ≤ (s25.2.2.1 109 23).toInt ∧ (s25.2.2.1 109 23).toInt ≤ 9 := by exact inv_F hI25 0 9 rfl rfl
  have n28f : LD1 s s25 := by have hG0 := geq_0 hF21 rfl ⟨p21.2.1, fun i hi => (p21.2.2 i hi).2⟩; exact ld_tok hI25 (show GEQ (gvR s21) (gvR s) from hG0) (ldg_0 hI p21.1 p21.2.2 ((hF21.2.2.1 109 9 rfl).trans (by simp [sF])) ((hF21.2.2.1 109 32 rfl).trans (by simp [sF])) ((hF21.2.2.1 109 27 rfl).trans (by simp [sF]))) (by rw [show s21.2.2.1 109 23 = Int32.ofInt 0 from ((hF21.2.2.1 109 23 rfl).trans (by simp [sF]))]; rfl) p25 (hF21.1 125 rfl) ((hF21.2.2.1 109 22 rfl).trans (by simp [sF])) (gvR_cg hF25 rfl) (hF25.1 110 rfl) (hF25.1 112 rfl) (hF25.1 127 rfl) (hF25.1 128 rfl) (hF25.2.2.1 109 9 rfl) (hF25.2.2.1 109 32 rfl)
  have n28g : L28 s s25 := by exact l28_fr (l28_fr (l28_fr (L := ([], [], [(109, 0), (109, 23), (109, 32), (109, 27)], [])) l28_r (fr_sF rfl (fr_sF rfl (fr_sF rfl (fr_sF rfl fr_rf)))) rfl) hF21 rfl) hF25 rfl
  have n28h : (s25.2.2.1 109 23).toInt = 0 → LDB s s25 := by exact fun _ => ldb_cg (u := s21) (ldb_0 ((hF21.2.2.1 109 32 rfl).trans (by simp [sF]))) (hF25.1 127 rfl) (hF25.1 128 rfl) (hF25.2.2.1 109 32 rfl)
  have n28i : G1S s s25 := by exact g1_tr (g1_tr (g1_fr (L := ([], [], [(109, 0), (109, 23), (109, 32), (109, 27)], [])) (fr_sF rfl (fr_sF rfl (fr_sF rfl (fr_sF rfl fr_rf)))) rfl) (g1_2 hF21 rfl p21a)) (g1_fr hF25 rfl)
  have m28 : 10 * ((u_109_22).toInt - (z25a).toInt) + 9 - ((s25.2.2.1 109 23)).toInt < ((10020 : Nat) : Int) := by have a0 := oa4 ((inv_F hI 0 1000 rfl e_109_22)) i25a ((in_c 0 rfl)) ((show In (s25.2.2.1 109 23) 0 9 from inv_F hI25 0 9 rfl rfl)); have oc := oc_302_109; omega
  exact gg_w (by first | exact Nat.le_of_ble_eq_true rfl | omega) (gg_f (gf_cons rfl gf_nil) (ct28 10020 s25 z25a _ (Int32.ofInt 0) z25b hI25 (fr_tr rfl (fr_tr rfl (fr_sF rfl (fr_sF rfl (fr_sF rfl (fr_sF rfl fr_rf)))) hF21) hF25) e25 rfl v28 e25a n28 n28a n28b n28c n28d n28e n28f n28g n28h n28i m28))

theorem oc_138_1 : (Int32.ofInt (-1000000)).toInt = (-1000000) ∧ (Int32.ofInt (-3)).toInt = (-3) ∧ (Int32.ofInt (-1)).toInt = (-1) ∧ (Int32.ofInt 0).toInt = 0 ∧ (Int32.ofInt 1).toInt = 1 ∧ (Int32.ofInt 2).toInt = 2 ∧ (Int32.ofInt 3).toInt = 3 ∧ (Int32.ofInt 4).toInt = 4 ∧ (Int32.ofInt 13).toInt = 13 ∧ (Int32.ofInt 19).toInt = 19 ∧ (Int32.ofInt 26).toInt = 26 ∧ (Int32.ofInt 32).toInt = 32 ∧ (Int32.ofInt 4000).toInt = 4000 ∧ (Int32.ofInt 1000000).toInt = 1000000 := ⟨rfl, rfl, rfl, rfl, rfl, rfl, rfl, rfl, rfl, rfl, rfl, rfl, rfl, rfl⟩
/-- GraphHouse$Ledger.doCommand -/
theorem f_138_1 {Z : AmZ} {A : Nat → Nat} {s : GS} {ex : va_W} {d : Nat} {X : AmX} {x1 : Int32} {u_2_0 : Int32} {u_2_1 : Int32} {u_30_0 : Int32} {u_2_3 : Int32} (hd : 8 ≤ d) (hI : Inv s) (h1 : In x1 (-1) 25) (e_2_0 : u_2_0 = s.2.2.1 2 0) (e_2_1 : u_2_1 = s.2.2.1 2 1) (e_30_0 : u_30_0 = s.2.2.1 30 0) (e_2_3 : u_2_3 = s.2.2.1 2 3) (q_0 : KL s) (q_1 : (x1).toInt = 13 → In (s.1 31 0) 0 25) (q_2 : cmI (x1).toInt) (q_3 : TQ s) (q_4 : (x1).toInt = 0 → In (s.1 31 4) 0 25) : GC Z d 138 [.ref (A 1), .int x1] (WW Z A s ++ ex) (lc s) (lsl s) (fun v u => ∃ a : Nat, ∃ t : GS, Inv t ∧ Fr fm_138_1 s t ∧ ((s.2.2.1 2 0).toInt ≤ (t.2.2.1 2 0).toInt) ∧ ∃ z : Int32, v = some (.int z) ∧ u = WW Z (ax A 30 a) t ++ ex ∧ In z 0 1 ∧ (KL t) ∧ ((z).toInt ≠ 0 → (t.2.2.1 30 0).toInt = nln s) ∧ ((z).toInt ≠ 0 → (s.2.2.1 2 0).toInt ≤ 3999) ∧ (∀ k : Nat, (k : Int) < 7 * (s.2.2.1 2 0).toInt → t.1 30 k = s.1 30 k) ∧ ((z).toInt ≠ 0 → dkC (gvC s) (x1).toInt (V31 s) ∧ gvC t = opC (gvC s) (x1).toInt (V31 s) ∧ TQ t) ∧ ((z).toInt = 0 → ¬ dkC (gvC s) (x1).toInt (V31 s)) ∧ ((z).toInt ≠ 0 → LGC s t)) X := by
  intro post xp hP hX
  refine g_enter2 (k := 138) (N := 900) (by first | exact dq1 hd rfl | exact dq0 hd rfl | exact dq2 hd rfl | exact dq3 hd rfl | omega) rfl (Nat.le_of_ble_eq_true rfl) ?_
  refine g_aload_n 1 (gd rfl) rfl rfl ?_
  refine g_callv (X := _) (As := []) (r := []) (b := A 1) (q := 1) 4 (gd rfl) rfl rfl rfl rfl rfl (ww_o rfl) (Nat.le_of_ble_eq_true rfl) (mc := 0) (ms := 0) (Nat.zero_le _) (Nat.zero_le _) (P := fun v u => _) ?_ (fun e u h => h) (fun v u h => h)
  intro po1 xx1 hp1 hx1
  refine g_enter2 (k := 122) (N := 300) (by first | exact dq1 hd rfl | exact dq0 hd rfl | exact dq2 hd rfl | exact dq3 hd rfl | omega) rfl (Nat.le_of_ble_eq_true rfl) ?_
  refine g_aload_n 1 (gd rfl) rfl rfl ?_
  refine g_getA (q2 := 2) 4 (gd rfl) rfl rfl rfl rfl ?_
  refine g_getI 7 (gd rfl) rfl rfl rfl (fun z1x4 e1x4 => ?_)
  have q1x4 : u_2_0 = z1x4 := (e_2_0).trans e1x4.symm
  subst q1x4
  refine g_sipush 4000 10 (gd rfl) rfl rfl ?_
  refine g_cmp_lt 13 17 (gd rfl) rfl rfl (fun c1x10 => ?_) (fun c1x10 => ?_)
  · skip
    have i1x10 := r_lt1 0 3999 c1x10 (inv_F hI 0 4000 rfl e_2_0) (in_c 4000 rfl) rfl
    refine g_iconst 0 18 (gd rfl) rfl rfl ?_
    refine g_ireturn (gd rfl) rfl (nb01 (in_w 0 1 (in_c 0 rfl) rfl)) (hp1 _ _ ?_)
    show GG _ _ _ _ _ _ _ _ [.int (Int32.ofInt 0)] _ _ _
    refine g_if_eq 7 9 (gd rfl) rfl rfl (fun c4 => ?_) (fun c4 => ?_)
    · skip
      refine g_iload_n 10 (gd rfl) rfl rfl ?_
      refine g_bipush 13 12 (gd rfl) rfl rfl ?_
      refine g_cmp_ne 15 46 (gd rfl) rfl rfl (fun c12 => ?_) (fun c12 => ?_)
      · skip
        refine g_iload_n 47 (gd rfl) rfl rfl ?_
        refine g_if_ne 50 132 (gd rfl) rfl rfl (fun c47 => ?_) (fun c47 => ?_)
        · skip
          refine g_aload_n 133 (gd rfl) rfl rfl ?_
          refine g_getA (q2 := 2) 136 (gd rfl) rfl rfl rfl rfl ?_
          refine g_aload_n 137 (gd rfl) rfl rfl ?_
          refine g_getA (q2 := 31) 140 (gd rfl) rfl rfl rfl rfl ?_
          refine g_iconst 0 141 (gd rfl) rfl rfl ?_
          refine g_iaload 142 (gd rfl) rfl (n := 5) rfl (in_ix (in_c 0 rfl) rfl) (fun z141 e141 => ?_)
          refine g_callv (X := _) (As := [.int z141]) (r := []) (b := A 2) (q := 2) 145 (gd rfl) rfl rfl rfl rfl rfl (ww_o rfl) (Nat.le_of_ble_eq_true rfl) (mc := 0) (ms := 0) (Nat.zero_le _) (Nat.zero_le _) (P := fun v u => _) ?_ (fun e u h => h) (fun v u h => h)
          intro po142 xx142 hp142 hx142
          refine g_enter2 (k := 96) (N := 300) (by first | exact dq1 hd rfl | exact dq0 hd rfl | exact dq2 hd rfl | exact dq3 hd rfl | omega) rfl (Nat.le_of_ble_eq_true rfl) ?_
          refine g_iload_n 1 (gd rfl) rfl rfl ?_
          refine g_if_lt 4 26 (gd rfl) rfl rfl (fun c142x1 => ?_) (fun c142x1 => ?_)
          · skip
            have i142x1 := z_lt (-2147483648) (-1) c142x1 (i_rng z141) rfl
            refine g_iconst 0 27 (gd rfl) rfl rfl ?_
            refine g_ireturn (gd rfl) rfl (nb01 (in_w 0 1 (in_c 0 rfl) rfl)) (hp142 _ _ ?_)
            show GG _ _ _ _ _ _ _ _ [.int (Int32.ofInt 0)] _ _ _
            refine g_if_ne 148 150 (gd rfl) rfl rfl (fun c145 => ?_) (fun c145 => ?_)
            · skip
              exact zn_ne c145 (in_c 0 rfl) rfl
            · skip
              refine g_iconst 0 149 (gd rfl) rfl rfl ?_
              have n149 : KL s := by exact q_0
              have n149a : ((Int32.ofInt 0)).toInt ≠ 0 → (s.2.2.1 30 0).toInt = nln s := by intro h; exact absurd rfl h
              have n149b : ((Int32.ofInt 0)).toInt ≠ 0 → (s.2.2.1 2 0).toInt ≤ 3999 := by exact fun h => absurd rfl h
              have n149c : ∀ k : Nat, (k : Int) < 7 * (s.2.2.1 2 0).toInt → s.1 30 k = s.1 30 k := by exact fun k _ => rfl
              have n149d : ((Int32.ofInt 0)).toInt ≠ 0 → dkC (gvC s) (x1).toInt (V31 s) ∧ gvC s = opC (gvC s) (x1).toInt (V31 s) ∧ TQ s := by intro h; exact absurd rfl h
              have n149e : ((Int32.ofInt 0)).toInt = 0 → ¬ dkC (gvC s) (x1).toInt (V31 s) := by intro _ h; have hg := dk_t q_2 (by have a0 := oa5 ((inv_F hI 0 160 rfl e_2_3)) ((inv_F hI 448 28000 rfl e_30_0)) ((inv_F hI 0 32 rfl e_2_1)) i1x10 h1; have oc := oc_138_1; omega) (by have a0 := oa5 ((inv_F hI 0 160 rfl e_2_3)) ((inv_F hI 448 28000 rfl e_30_0)) ((inv_F hI 0 32 rfl e_2_1)) i1x10 h1; have oc := oc_138_1; omega) h; have h7 : 0 ≤ (s.1 31 0).toInt := hg.1; have h8 : (s.1 31 0).toInt ≤ 159 := hg.2.1; have h9 : (s.1 4 (s.1 31 0).toInt.toNat).toInt ≠ -1 := hg.2.2; rw [show s.1 31 0 = z141 from e141.symm] at h7 h8 h9; have h6 := q_3 z141.toInt.toNat (by omega) h9; rw [← e_2_3] at h6; have a0 := oa5 ((inv_F hI 0 160 rfl e_2_3)) ((inv_F hI 448 28000 rfl e_30_0)) ((inv_F hI 0 32 rfl e_2_1)) i1x10 h1; have oc := oc_138_1; omega
              have n149f : ((Int32.ofInt 0)).toInt ≠ 0 → LGC s s := by intro h; exact absurd rfl h
              have n149g : (u_2_0).toInt ≤ (u_2_0).toInt := by exact Int.le_refl _
              have n149h : (s.2.2.1 2 0).toInt ≤ (s.2.2.1 2 0).toInt := by have b0 : u_2_0 = s.2.2.1 2 0 := e_2_0; first | (rw [← b0, ← e_2_0]; exact n149g) | (rw [← b0]; exact n149g)
              exact g_ireturn (gd rfl) rfl (nb01 (in_w 0 1 (in_c 0 rfl) rfl)) (hP _ _ ⟨(A 30), s, hI, fr_rf, n149h, (Int32.ofInt 0), rfl, (by rw [ax_id]), in_w 0 1 (in_c 0 rfl) rfl, n149, n149a, n149b, n149c, n149d, n149e, n149f⟩)
          · skip
            have i142x1 := z_ge 0 2147483647 c142x1 (i_rng z141) rfl
            refine g_iload_n 5 (gd rfl) rfl rfl ?_
            refine g_aload_n 6 (gd rfl) rfl rfl ?_
            refine g_getI 9 (gd rfl) rfl rfl rfl (fun z142x6 e142x6 => ?_)
            have q142x6 : u_2_3 = z142x6 := (e_2_3).trans e142x6.symm
            subst q142x6
            refine g_cmp_ge 12 26 (gd rfl) rfl rfl (fun c142x9 => ?_) (fun c142x9 => ?_)
            · skip
              refine g_iconst 0 27 (gd rfl) rfl rfl ?_
              refine g_ireturn (gd rfl) rfl (nb01 (in_w 0 1 (in_c 0 rfl) rfl)) (hp142 _ _ ?_)
              show GG _ _ _ _ _ _ _ _ [.int (Int32.ofInt 0)] _ _ _
              refine g_if_ne 148 150 (gd rfl) rfl rfl (fun c145 => ?_) (fun c145 => ?_)
              · skip
                exact zn_ne c145 (in_c 0 rfl) rfl
              · skip
                refine g_iconst 0 149 (gd rfl) rfl rfl ?_
                have n149 : KL s := by exact q_0
                have n149a : ((Int32.ofInt 0)).toInt ≠ 0 → (s.2.2.1 30 0).toInt = nln s := by intro h; exact absurd rfl h
                have n149b : ((Int32.ofInt 0)).toInt ≠ 0 → (s.2.2.1 2 0).toInt ≤ 3999 := by exact fun h => absurd rfl h
                have n149c : ∀ k : Nat, (k : Int) < 7 * (s.2.2.1 2 0).toInt → s.1 30 k = s.1 30 k := by exact fun k _ => rfl
                have n149d : ((Int32.ofInt 0)).toInt ≠ 0 → dkC (gvC s) (x1).toInt (V31 s) ∧ gvC s = opC (gvC s) (x1).toInt (V31 s) ∧ TQ s := by intro h; exact absurd rfl h
                have n149e : ((Int32.ofInt 0)).toInt = 0 → ¬ dkC (gvC s) (x1).toInt (V31 s) := by intro _ h; have hg := dk_t q_2 (by have a0 := oa5 ((inv_F hI 0 160 rfl e_2_3)) ((inv_F hI 448 28000 rfl e_30_0)) ((inv_F hI 0 32 rfl e_2_1)) i1x10 h1; have oc := oc_138_1; omega) (by have a0 := oa5 ((inv_F hI 0 160 rfl e_2_3)) ((inv_F hI 448 28000 rfl e_30_0)) ((inv_F hI 0 32 rfl e_2_1)) i1x10 h1; have oc := oc_138_1; omega) h; have h7 : 0 ≤ (s.1 31 0).toInt := hg.1; have h8 : (s.1 31 0).toInt ≤ 159 := hg.2.1; have h9 : (s.1 4 (s.1 31 0).toInt.toNat).toInt ≠ -1 := hg.2.2; rw [show s.1 31 0 = z141 from e141.symm] at h7 h8 h9; have h6 := q_3 z141.toInt.toNat (by omega) h9; rw [← e_2_3] at h6; have a0 := oa5 ((inv_F hI 0 160 rfl e_2_3)) ((inv_F hI 448 28000 rfl e_30_0)) ((inv_F hI 0 32 rfl e_2_1)) i1x10 h1; have oc := oc_138_1; omega
                have n149f : ((Int32.ofInt 0)).toInt ≠ 0 → LGC s s := by intro h; exact absurd rfl h
                have n149g : (u_2_0).toInt ≤ (u_2_0).toInt := by exact Int.le_refl _
                have n149h : (s.2.2.1 2 0).toInt ≤ (s.2.2.1 2 0).toInt := by have b0 : u_2_0 = s.2.2.1 2 0 := e_2_0; first | (rw [← b0, ← e_2_0]; exact n149g) | (rw [← b0]; exact n149g)
                exact g_ireturn (gd rfl) rfl (nb01 (in_w 0 1 (in_c 0 rfl) rfl)) (hP _ _ ⟨(A 30), s, hI, fr_rf, n149h, (Int32.ofInt 0), rfl, (by rw [ax_id]), in_w 0 1 (in_c 0 rfl) rfl, n149, n149a, n149b, n149c, n149d, n149e, n149f⟩)
            · skip
              have i142x9 := r_lt1 0 159 c142x9 i142x1 (inv_F hI 0 160 rfl e_2_3) rfl
              have i142x9a := r_lt2 1 160 c142x9 i142x1 (inv_F hI 0 160 rfl e_2_3) rfl
              refine g_aload_n 13 (gd rfl) rfl rfl ?_
              refine g_getA (q2 := 4) 16 (gd rfl) rfl rfl rfl rfl ?_
              refine g_iload_n 17 (gd rfl) rfl rfl ?_
              refine g_iaload 18 (gd rfl) rfl (n := 160) rfl (in_ix i142x9 rfl) (fun z142x17 e142x17 => ?_)
              have i142x17 := inv_I hI (n := 160) (t := 0) (-1) 31 rfl (in_ix i142x9 rfl) rfl e142x17
              refine g_iconst (-1) 19 (gd rfl) rfl rfl ?_
              refine g_cmp_eq 22 26 (gd rfl) rfl rfl (fun c142x19 => ?_) (fun c142x19 => ?_)
              · skip
                have i142x19 := r_eq1 (-1) (-1) c142x19 i142x17 (in_c (-1) rfl) rfl
                refine g_iconst 0 27 (gd rfl) rfl rfl ?_
                refine g_ireturn (gd rfl) rfl (nb01 (in_w 0 1 (in_c 0 rfl) rfl)) (hp142 _ _ ?_)
                show GG _ _ _ _ _ _ _ _ [.int (Int32.ofInt 0)] _ _ _
                refine g_if_ne 148 150 (gd rfl) rfl rfl (fun c145 => ?_) (fun c145 => ?_)
                · skip
                  exact zn_ne c145 (in_c 0 rfl) rfl
                · skip
                  refine g_iconst 0 149 (gd rfl) rfl rfl ?_
                  have n149 : KL s := by exact q_0
                  have n149a : ((Int32.ofInt 0)).toInt ≠ 0 → (s.2.2.1 30 0).toInt = nln s := by intro h; exact absurd rfl h
                  have n149b : ((Int32.ofInt 0)).toInt ≠ 0 → (s.2.2.1 2 0).toInt ≤ 3999 := by exact fun h => absurd rfl h
                  have n149c : ∀ k : Nat, (k : Int) < 7 * (s.2.2.1 2 0).toInt → s.1 30 k = s.1 30 k := by exact fun k _ => rfl
                  have n149d : ((Int32.ofInt 0)).toInt ≠ 0 → dkC (gvC s) (x1).toInt (V31 s) ∧ gvC s = opC (gvC s) (x1).toInt (V31 s) ∧ TQ s := by intro h; exact absurd rfl h
                  have n149e : ((Int32.ofInt 0)).toInt = 0 → ¬ dkC (gvC s) (x1).toInt (V31 s) := by intro _ h; have hg := dk_t q_2 (by have a0 := oa5 i142x9a ((inv_F hI 448 28000 rfl e_30_0)) ((inv_F hI 0 32 rfl e_2_1)) i1x10 h1; have oc := oc_138_1; omega) (by have a0 := oa5 i142x9a ((inv_F hI 448 28000 rfl e_30_0)) ((inv_F hI 0 32 rfl e_2_1)) i1x10 h1; have oc := oc_138_1; omega) h; have h7 : 0 ≤ (s.1 31 0).toInt := hg.1; have h8 : (s.1 31 0).toInt ≤ 159 := hg.2.1; have h9 : (s.1 4 (s.1 31 0).toInt.toNat).toInt ≠ -1 := hg.2.2; rw [show s.1 31 0 = z141 from e141.symm] at h7 h8 h9; rw [show s.1 4 z141.toInt.toNat = z142x17 from e142x17.symm] at h9; have a0 := oa5 i142x9a ((inv_F hI 448 28000 rfl e_30_0)) ((inv_F hI 0 32 rfl e_2_1)) i1x10 h1; have oc := oc_138_1; omega
                  have n149f : ((Int32.ofInt 0)).toInt ≠ 0 → LGC s s := by intro h; exact absurd rfl h
                  have n149g : (u_2_0).toInt ≤ (u_2_0).toInt := by exact Int.le_refl _
                  have n149h : (s.2.2.1 2 0).toInt ≤ (s.2.2.1 2 0).toInt := by have b0 : u_2_0 = s.2.2.1 2 0 := e_2_0; first | (rw [← b0, ← e_2_0]; exact n149g) | (rw [← b0]; exact n149g)
                  exact g_ireturn (gd rfl) rfl (nb01 (in_w 0 1 (in_c 0 rfl) rfl)) (hP _ _ ⟨(A 30), s, hI, fr_rf, n149h, (Int32.ofInt 0), rfl, (by rw [ax_id]), in_w 0 1 (in_c 0 rfl) rfl, n149, n149a, n149b, n149c, n149d, n149e, n149f⟩)
              · skip
                have i142x19 := r_ne1 0 31 c142x19 i142x17 (in_c (-1) rfl) rfl
                refine g_iconst 1 23 (gd rfl) rfl rfl ?_
                refine g_goto 27 (gd rfl) rfl ?_
                refine g_ireturn (gd rfl) rfl (nb01 (in_w 0 1 (in_c 1 rfl) rfl)) (hp142 _ _ ?_)
                show GG _ _ _ _ _ _ _ _ [.int (Int32.ofInt 1)] _ _ _
                refine g_if_ne 148 150 (gd rfl) rfl rfl (fun c145 => ?_) (fun c145 => ?_)
                · skip
                  refine g_iload_n 151 (gd rfl) rfl rfl ?_
                  refine g_bipush 19 153 (gd rfl) rfl rfl ?_
                  refine g_cmp_ne 156 168 (gd rfl) rfl rfl (fun c153 => ?_) (fun c153 => ?_)
                  · skip
                    refine g_aload_n 169 (gd rfl) rfl rfl ?_
                    refine g_getA (q2 := 31) 172 (gd rfl) rfl rfl rfl rfl ?_
                    refine g_iconst 1 173 (gd rfl) rfl rfl ?_
                    refine g_iaload 174 (gd rfl) rfl (n := 5) rfl (in_ix (in_c 1 rfl) rfl) (fun z173 e173 => ?_)
                    refine g_calls (As := [.int z173]) (r := []) 177 (gd rfl) rfl rfl rfl rfl rfl (Nat.le_of_ble_eq_true rfl) (mc := 0) (ms := 0) (Nat.zero_le _) (Nat.zero_le _) (P := fun v u => _) ?_ (fun v u h => h)
                    intro po174 xx174 hp174 hx174
                    refine g_enter2 (k := 261) (N := 300) (by first | exact dq1 hd rfl | exact dq0 hd rfl | exact dq2 hd rfl | exact dq3 hd rfl | omega) rfl (Nat.le_of_ble_eq_true rfl) ?_
                    refine g_iload_n 1 (gd rfl) rfl rfl ?_
                    refine g_ldc_w (-1000000) 4 (gd rfl) rfl rfl ?_
                    refine g_cmp_lt 7 18 (gd rfl) rfl rfl (fun c174x4 => ?_) (fun c174x4 => ?_)
                    · skip
                      have i174x4 := r_lt1 (-2147483648) (-1000001) c174x4 (i_rng z173) (in_c (-1000000) rfl) rfl
                      refine g_iconst 0 19 (gd rfl) rfl rfl ?_
                      refine g_ireturn (gd rfl) rfl (nb01 (in_w 0 1 (in_c 0 rfl) rfl)) (hp174 _ _ ?_)
                      show GG _ _ _ _ _ _ _ _ [.int (Int32.ofInt 0)] _ _ _
                      refine g_if_ne 180 182 (gd rfl) rfl rfl (fun c177 => ?_) (fun c177 => ?_)
                      · skip
                        exact zn_ne c177 (in_c 0 rfl) rfl
                      · skip
                        refine g_iconst 0 181 (gd rfl) rfl rfl ?_
                        have n181 : KL s := by exact q_0
                        have n181a : ((Int32.ofInt 0)).toInt ≠ 0 → (s.2.2.1 30 0).toInt = nln s := by intro h; exact absurd rfl h
                        have n181b : ((Int32.ofInt 0)).toInt ≠ 0 → (s.2.2.1 2 0).toInt ≤ 3999 := by exact fun h => absurd rfl h
                        have n181c : ∀ k : Nat, (k : Int) < 7 * (s.2.2.1 2 0).toInt → s.1 30 k = s.1 30 k := by exact fun k _ => rfl
                        have n181d : ((Int32.ofInt 0)).toInt ≠ 0 → dkC (gvC s) (x1).toInt (V31 s) ∧ gvC s = opC (gvC s) (x1).toInt (V31 s) ∧ TQ s := by intro h; exact absurd rfl h
                        have n181e : ((Int32.ofInt 0)).toInt = 0 → ¬ dkC (gvC s) (x1).toInt (V31 s) := by intro _ h; have h9 : -1000000 ≤ (s.1 31 1).toInt ∧ (s.1 31 1).toInt ≤ 1000000 := (h.2.2.2.2 (by rcases q_2 with e | e | e | e; (have a0 := oa5 i142x9a ((inv_F hI 448 28000 rfl e_30_0)) ((inv_F hI 0 32 rfl e_2_1)) i1x10 h1; have oc := oc_138_1; omega); (have a0 := oa5 i142x9a ((inv_F hI 448 28000 rfl e_30_0)) ((inv_F hI 0 32 rfl e_2_1)) i1x10 h1; have oc := oc_138_1; omega); (have a0 := oa5 i142x9a ((inv_F hI 448 28000 rfl e_30_0)) ((inv_F hI 0 32 rfl e_2_1)) i1x10 h1; have oc := oc_138_1; omega); (exact e))).2; rw [show s.1 31 1 = z173 from e173.symm] at h9; have a0 := oa5 i142x9a ((inv_F hI 448 28000 rfl e_30_0)) ((inv_F hI 0 32 rfl e_2_1)) i1x10 h1; have oc := oc_138_1; omega
                        have n181f : ((Int32.ofInt 0)).toInt ≠ 0 → LGC s s := by intro h; exact absurd rfl h
                        have n181g : (u_2_0).toInt ≤ (u_2_0).toInt := by exact Int.le_refl _
                        have n181h : (s.2.2.1 2 0).toInt ≤ (s.2.2.1 2 0).toInt := by have b0 : u_2_0 = s.2.2.1 2 0 := e_2_0; first | (rw [← b0, ← e_2_0]; exact n181g) | (rw [← b0]; exact n181g)
                        exact g_ireturn (gd rfl) rfl (nb01 (in_w 0 1 (in_c 0 rfl) rfl)) (hP _ _ ⟨(A 30), s, hI, fr_rf, n181h, (Int32.ofInt 0), rfl, (by rw [ax_id]), in_w 0 1 (in_c 0 rfl) rfl, n181, n181a, n181b, n181c, n181d, n181e, n181f⟩)
                    · skip
                      have i174x4 := r_le2 (-1000000) 2147483647 c174x4 (in_c (-1000000) rfl) (i_rng z173) rfl
                      refine g_iload_n 8 (gd rfl) rfl rfl ?_
                      refine g_ldc_w 1000000 11 (gd rfl) rfl rfl ?_
                      refine g_cmp_gt 14 18 (gd rfl) rfl rfl (fun c174x11 => ?_) (fun c174x11 => ?_)
                      · skip
                        have i174x11 := r_lt2 1000001 2147483647 c174x11 (in_c 1000000 rfl) i174x4 rfl
                        refine g_iconst 0 19 (gd rfl) rfl rfl ?_
                        refine g_ireturn (gd rfl) rfl (nb01 (in_w 0 1 (in_c 0 rfl) rfl)) (hp174 _ _ ?_)
                        show GG _ _ _ _ _ _ _ _ [.int (Int32.ofInt 0)] _ _ _
                        refine g_if_ne 180 182 (gd rfl) rfl rfl (fun c177 => ?_) (fun c177 => ?_)
                        · skip
                          exact zn_ne c177 (in_c 0 rfl) rfl
                        · skip
                          refine g_iconst 0 181 (gd rfl) rfl rfl ?_
                          have n181 : KL s := by exact q_0
                          have n181a : ((Int32.ofInt 0)).toInt ≠ 0 → (s.2.2.1 30 0).toInt = nln s := by intro h; exact absurd rfl h
                          have n181b : ((Int32.ofInt 0)).toInt ≠ 0 → (s.2.2.1 2 0).toInt ≤ 3999 := by exact fun h => absurd rfl h
                          have n181c : ∀ k : Nat, (k : Int) < 7 * (s.2.2.1 2 0).toInt → s.1 30 k = s.1 30 k := by exact fun k _ => rfl
                          have n181d : ((Int32.ofInt 0)).toInt ≠ 0 → dkC (gvC s) (x1).toInt (V31 s) ∧ gvC s = opC (gvC s) (x1).toInt (V31 s) ∧ TQ s := by intro h; exact absurd rfl h
                          have n181e : ((Int32.ofInt 0)).toInt = 0 → ¬ dkC (gvC s) (x1).toInt (V31 s) := by intro _ h; have h9 : -1000000 ≤ (s.1 31 1).toInt ∧ (s.1 31 1).toInt ≤ 1000000 := (h.2.2.2.2 (by rcases q_2 with e | e | e | e; (have a0 := oa5 i142x9a ((inv_F hI 448 28000 rfl e_30_0)) ((inv_F hI 0 32 rfl e_2_1)) i1x10 h1; have oc := oc_138_1; omega); (have a0 := oa5 i142x9a ((inv_F hI 448 28000 rfl e_30_0)) ((inv_F hI 0 32 rfl e_2_1)) i1x10 h1; have oc := oc_138_1; omega); (have a0 := oa5 i142x9a ((inv_F hI 448 28000 rfl e_30_0)) ((inv_F hI 0 32 rfl e_2_1)) i1x10 h1; have oc := oc_138_1; omega); (exact e))).2; rw [show s.1 31 1 = z173 from e173.symm] at h9; have a0 := oa5 i142x9a ((inv_F hI 448 28000 rfl e_30_0)) ((inv_F hI 0 32 rfl e_2_1)) i1x10 h1; have oc := oc_138_1; omega
                          have n181f : ((Int32.ofInt 0)).toInt ≠ 0 → LGC s s := by intro h; exact absurd rfl h
                          have n181g : (u_2_0).toInt ≤ (u_2_0).toInt := by exact Int.le_refl _
                          have n181h : (s.2.2.1 2 0).toInt ≤ (s.2.2.1 2 0).toInt := by have b0 : u_2_0 = s.2.2.1 2 0 := e_2_0; first | (rw [← b0, ← e_2_0]; exact n181g) | (rw [← b0]; exact n181g)
                          exact g_ireturn (gd rfl) rfl (nb01 (in_w 0 1 (in_c 0 rfl) rfl)) (hP _ _ ⟨(A 30), s, hI, fr_rf, n181h, (Int32.ofInt 0), rfl, (by rw [ax_id]), in_w 0 1 (in_c 0 rfl) rfl, n181, n181a, n181b, n181c, n181d, n181e, n181f⟩)
                      · skip
                        have i174x11 := r_le1 (-1000000) 1000000 c174x11 i174x4 (in_c 1000000 rfl) rfl
                        refine g_iconst 1 15 (gd rfl) rfl rfl ?_
                        refine g_goto 19 (gd rfl) rfl ?_
                        refine g_ireturn (gd rfl) rfl (nb01 (in_w 0 1 (in_c 1 rfl) rfl)) (hp174 _ _ ?_)
                        show GG _ _ _ _ _ _ _ _ [.int (Int32.ofInt 1)] _ _ _
                        refine g_if_ne 180 182 (gd rfl) rfl rfl (fun c177 => ?_) (fun c177 => ?_)
                        · skip
                          refine g_aload_n 183 (gd rfl) rfl rfl ?_
                          refine g_aload_n 184 (gd rfl) rfl rfl ?_
                          refine g_getA (q2 := 31) 187 (gd rfl) rfl rfl rfl rfl ?_
                          refine g_iconst 0 188 (gd rfl) rfl rfl ?_
                          refine g_iaload 189 (gd rfl) rfl (n := 5) rfl (in_ix (in_c 0 rfl) rfl) (fun z188 e188 => ?_)
                          have q188 : z141 = z188 := (e141).trans e188.symm
                          subst q188
                          refine g_iconst 0 190 (gd rfl) rfl rfl ?_
                          refine g_aload_n 191 (gd rfl) rfl rfl ?_
                          refine g_getA (q2 := 31) 194 (gd rfl) rfl rfl rfl rfl ?_
                          refine g_iconst 1 195 (gd rfl) rfl rfl ?_
                          refine g_iaload 196 (gd rfl) rfl (n := 5) rfl (in_ix (in_c 1 rfl) rfl) (fun z195 e195 => ?_)
                          have q195 : z173 = z195 := (e173).trans e195.symm
                          subst q195
                          have p196 : KL s := by exact q_0
                          have p196a : ((Int32.ofInt 0)).toInt = 0 → In z173 (-1000000) 1000000 := by intro _; exact in_w (-1000000) 1000000 i174x11 rfl
                          have p196b : ((Int32.ofInt 0)).toInt = 1 → In z173 0 1000000 := by intro h; exact absurd h (by decide)
                          have p196c : ((Int32.ofInt 0)).toInt ≠ 0 → ((Int32.ofInt 0)).toInt ≠ 1 → In z173 0 25 := by intro h; exact absurd rfl h
                          refine g_callv (X := _) (As := [.int z141, .int (Int32.ofInt 0), .int z173]) (r := []) (b := A 1) (q := 1) 199 (gd rfl) rfl rfl rfl rfl rfl (ww_o rfl) (Nat.le_of_ble_eq_true rfl) (Nat.le_of_eq (lc_cg ((show Fr ([], [], [], []) s s from fr_rf).2.2.1 30 0 rfl) ((show Fr ([], [], [], []) s s from fr_rf).2.2.1 2 0 rfl)).1) (Nat.le_of_eq (lc_cg ((show Fr ([], [], [], []) s s from fr_rf).2.2.1 30 0 rfl) ((show Fr ([], [], [], []) s s from fr_rf).2.2.1 2 0 rfl)).2.1) (f_127_1 (by first | exact dq1 hd rfl | exact dq0 hd rfl | exact dq2 hd rfl | exact dq3 hd rfl | omega) hI (in_w 0 159 i142x9 rfl) e_2_0 e_2_1 e_30_0 (in_w 0 3999 i1x10 rfl) p196 p196a p196b p196c) (fun e u h => h) (fun v u h => ?_)
                          obtain ⟨a196, s196, hI196, hF196, n196, rfl, rfl, p196d, p196e, p196f, p196g, p196h, p196i⟩ := h
                          obtain ⟨z196a, e196⟩ : ∃ w, w = s196.2.2.1 2 0 := ⟨_, rfl⟩
                          have i196a := inv_F hI196 0 4000 rfl e196
                          rw [← (show u_2_0 = s.2.2.1 2 0 from e_2_0)] at n196
                          rw [← (show z196a = s196.2.2.1 2 0 from e196)] at n196
                          show GG _ _ _ _ _ _ _ _ [] _ _ _
                          refine g_iconst 1 200 (gd rfl) rfl rfl ?_
                          have n200 : KL s196 := by exact p196d
                          have n200a : ((Int32.ofInt 1)).toInt ≠ 0 → (s196.2.2.1 30 0).toInt = nln s := by intro _; exact p196e
                          have n200b : ((Int32.ofInt 1)).toInt ≠ 0 → (s.2.2.1 2 0).toInt ≤ 3999 := by first | (intro h; exact absurd rfl h) | (intro _; rw [← e_2_0]; have a0 := oa6 i142x9a ((inv_F hI 448 28000 rfl e_30_0)) ((inv_F hI 0 32 rfl e_2_1)) i1x10 h1 i196a; have oc := oc_138_1; omega)
                          have n200c : ∀ k : Nat, (k : Int) < 7 * (s.2.2.1 2 0).toInt → s196.1 30 k = s.1 30 k := by exact p196f
                          have n200d : ((Int32.ofInt 1)).toInt ≠ 0 → dkC (gvC s) (x1).toInt (V31 s) ∧ gvC s196 = opC (gvC s) (x1).toInt (V31 s) ∧ TQ s196 := by intro _; exact ⟨dk_22 (by rcases q_2 with e | e | e | e; (have a0 := oa6 i142x9a ((inv_F hI 448 28000 rfl e_30_0)) ((inv_F hI 0 32 rfl e_2_1)) i1x10 h1 i196a; have oc := oc_138_1; omega); (have a0 := oa6 i142x9a ((inv_F hI 448 28000 rfl e_30_0)) ((inv_F hI 0 32 rfl e_2_1)) i1x10 h1 i196a; have oc := oc_138_1; omega); (have a0 := oa6 i142x9a ((inv_F hI 448 28000 rfl e_30_0)) ((inv_F hI 0 32 rfl e_2_1)) i1x10 h1 i196a; have oc := oc_138_1; omega); (exact e)) (show (s.2.2.1 2 0).toInt ≤ 3999 from by rw [← e_2_0]; have a0 := oa6 i142x9a ((inv_F hI 448 28000 rfl e_30_0)) ((inv_F hI 0 32 rfl e_2_1)) i1x10 h1 i196a; have oc := oc_138_1; omega) (show gvT (gvC s) (V31 s 0) from ⟨show 0 ≤ (s.1 31 0).toInt from by rw [show s.1 31 0 = z141 from e141.symm]; have a0 := oa6 i142x9a ((inv_F hI 448 28000 rfl e_30_0)) ((inv_F hI 0 32 rfl e_2_1)) i1x10 h1 i196a; have oc := oc_138_1; omega, show (s.1 31 0).toInt ≤ 159 from by rw [show s.1 31 0 = z141 from e141.symm]; have a0 := oa6 i142x9a ((inv_F hI 448 28000 rfl e_30_0)) ((inv_F hI 0 32 rfl e_2_1)) i1x10 h1 i196a; have oc := oc_138_1; omega, show (s.1 4 (s.1 31 0).toInt.toNat).toInt ≠ -1 from by rw [show s.1 31 0 = z141 from e141.symm, show s.1 4 z141.toInt.toNat = z142x17 from e142x17.symm]; have a0 := oa6 i142x9a ((inv_F hI 448 28000 rfl e_30_0)) ((inv_F hI 0 32 rfl e_2_1)) i1x10 h1 i196a; have oc := oc_138_1; omega⟩) (show -1000000 ≤ (s.1 31 1).toInt ∧ (s.1 31 1).toInt ≤ 1000000 from by rw [show s.1 31 1 = z173 from e173.symm]; exact ⟨by have a0 := oa6 i142x9a ((inv_F hI 448 28000 rfl e_30_0)) ((inv_F hI 0 32 rfl e_2_1)) i1x10 h1 i196a; have oc := oc_138_1; omega, by have a0 := oa6 i142x9a ((inv_F hI 448 28000 rfl e_30_0)) ((inv_F hI 0 32 rfl e_2_1)) i1x10 h1 i196a; have oc := oc_138_1; omega⟩), by rw [p196g, opC_22 (by rcases q_2 with e | e | e | e; (have a0 := oa6 i142x9a ((inv_F hI 448 28000 rfl e_30_0)) ((inv_F hI 0 32 rfl e_2_1)) i1x10 h1 i196a; have oc := oc_138_1; omega); (have a0 := oa6 i142x9a ((inv_F hI 448 28000 rfl e_30_0)) ((inv_F hI 0 32 rfl e_2_1)) i1x10 h1 i196a; have oc := oc_138_1; omega); (have a0 := oa6 i142x9a ((inv_F hI 448 28000 rfl e_30_0)) ((inv_F hI 0 32 rfl e_2_1)) i1x10 h1 i196a; have oc := oc_138_1; omega); (exact e)), show s.1 31 0 = z141 from e141.symm, show s.1 31 1 = z173 from e173.symm], p196h q_3⟩
                          have n200e : ((Int32.ofInt 1)).toInt = 0 → ¬ dkC (gvC s) (x1).toInt (V31 s) := by intro h; exact absurd h (by decide)
                          have n200f : ((Int32.ofInt 1)).toInt ≠ 0 → LGC s s196 := by intro _; exact lgc_w p196f p196g p196i
                          have n200g : (u_2_0).toInt ≤ (z196a).toInt := by have a0 := oa6 i142x9a ((inv_F hI 448 28000 rfl e_30_0)) ((inv_F hI 0 32 rfl e_2_1)) i1x10 h1 i196a; have oc := oc_138_1; omega
                          have n200h : (s.2.2.1 2 0).toInt ≤ (s196.2.2.1 2 0).toInt := by have b0 : z196a = s196.2.2.1 2 0 := e196; first | (rw [← b0, ← e_2_0]; exact n200g) | (rw [← b0]; exact n200g)
                          exact g_ireturn (gd rfl) rfl (nb01 (in_w 0 1 (in_c 1 rfl) rfl)) (hP _ _ ⟨a196, s196, hI196, (fr_tr rfl fr_rf hF196), n200h, (Int32.ofInt 1), rfl, rfl, in_w 0 1 (in_c 1 rfl) rfl, n200, n200a, n200b, n200c, n200d, n200e, n200f⟩)
                        · skip
                          exact zn_eq c177 (in_c 1 rfl) rfl
                  · skip
                    have i153 := r_eq1 19 19 c153 h1 (in_c 19 rfl) rfl
                    refine g_aload_n 157 (gd rfl) rfl rfl ?_
                    refine g_aload_n 158 (gd rfl) rfl rfl ?_
                    refine g_getA (q2 := 31) 161 (gd rfl) rfl rfl rfl rfl ?_
                    refine g_iconst 0 162 (gd rfl) rfl rfl ?_
                    refine g_iaload 163 (gd rfl) rfl (n := 5) rfl (in_ix (in_c 0 rfl) rfl) (fun z162 e162 => ?_)
                    have q162 : z141 = z162 := (e141).trans e162.symm
                    subst q162
                    have p163 : KL s := by exact q_0
                    refine g_callv (X := _) (As := [.int z141]) (r := []) (b := A 1) (q := 1) 166 (gd rfl) rfl rfl rfl rfl rfl (ww_o rfl) (Nat.le_of_ble_eq_true rfl) (Nat.le_of_eq (lc_cg ((show Fr ([], [], [], []) s s from fr_rf).2.2.1 30 0 rfl) ((show Fr ([], [], [], []) s s from fr_rf).2.2.1 2 0 rfl)).1) (Nat.le_of_eq (lc_cg ((show Fr ([], [], [], []) s s from fr_rf).2.2.1 30 0 rfl) ((show Fr ([], [], [], []) s s from fr_rf).2.2.1 2 0 rfl)).2.1) (f_126_1 (by first | exact dq1 hd rfl | exact dq0 hd rfl | exact dq2 hd rfl | exact dq3 hd rfl | omega) hI (in_w 0 159 i142x9 rfl) e_2_0 e_2_1 e_30_0 (in_w 0 3999 i1x10 rfl) p163) (fun e u h => h) (fun v u h => ?_)
                    obtain ⟨a163, s163, hI163, hF163, n163, rfl, rfl, p163a, p163b, p163c, p163d, p163e, p163f⟩ := h
                    obtain ⟨z163a, e163⟩ : ∃ w, w = s163.2.2.1 2 0 := ⟨_, rfl⟩
                    have i163a := inv_F hI163 0 4000 rfl e163
                    rw [← (show u_2_0 = s.2.2.1 2 0 from e_2_0)] at n163
                    rw [← (show z163a = s163.2.2.1 2 0 from e163)] at n163
                    show GG _ _ _ _ _ _ _ _ [] _ _ _
                    refine g_iconst 1 167 (gd rfl) rfl rfl ?_
                    have n167 : KL s163 := by exact p163a
                    have n167a : ((Int32.ofInt 1)).toInt ≠ 0 → (s163.2.2.1 30 0).toInt = nln s := by intro _; exact p163b
                    have n167b : ((Int32.ofInt 1)).toInt ≠ 0 → (s.2.2.1 2 0).toInt ≤ 3999 := by first | (intro h; exact absurd rfl h) | (intro _; rw [← e_2_0]; have a0 := oa6 i142x9a ((inv_F hI 448 28000 rfl e_30_0)) ((inv_F hI 0 32 rfl e_2_1)) i1x10 i153 i163a; have oc := oc_138_1; omega)
                    have n167c : ∀ k : Nat, (k : Int) < 7 * (s.2.2.1 2 0).toInt → s163.1 30 k = s.1 30 k := by exact p163c
                    have n167d : ((Int32.ofInt 1)).toInt ≠ 0 → dkC (gvC s) (x1).toInt (V31 s) ∧ gvC s163 = opC (gvC s) (x1).toInt (V31 s) ∧ TQ s163 := by intro _; exact ⟨dk_19 (by have a0 := oa6 i142x9a ((inv_F hI 448 28000 rfl e_30_0)) ((inv_F hI 0 32 rfl e_2_1)) i1x10 i153 i163a; have oc := oc_138_1; omega) (show (s.2.2.1 2 0).toInt ≤ 3999 from by rw [← e_2_0]; have a0 := oa6 i142x9a ((inv_F hI 448 28000 rfl e_30_0)) ((inv_F hI 0 32 rfl e_2_1)) i1x10 i153 i163a; have oc := oc_138_1; omega) (show gvT (gvC s) (V31 s 0) from ⟨show 0 ≤ (s.1 31 0).toInt from by rw [show s.1 31 0 = z141 from e141.symm]; have a0 := oa6 i142x9a ((inv_F hI 448 28000 rfl e_30_0)) ((inv_F hI 0 32 rfl e_2_1)) i1x10 i153 i163a; have oc := oc_138_1; omega, show (s.1 31 0).toInt ≤ 159 from by rw [show s.1 31 0 = z141 from e141.symm]; have a0 := oa6 i142x9a ((inv_F hI 448 28000 rfl e_30_0)) ((inv_F hI 0 32 rfl e_2_1)) i1x10 i153 i163a; have oc := oc_138_1; omega, show (s.1 4 (s.1 31 0).toInt.toNat).toInt ≠ -1 from by rw [show s.1 31 0 = z141 from e141.symm, show s.1 4 z141.toInt.toNat = z142x17 from e142x17.symm]; have a0 := oa6 i142x9a ((inv_F hI 448 28000 rfl e_30_0)) ((inv_F hI 0 32 rfl e_2_1)) i1x10 i153 i163a; have oc := oc_138_1; omega⟩), by rw [p163d, opC_19 (by have a0 := oa6 i142x9a ((inv_F hI 448 28000 rfl e_30_0)) ((inv_F hI 0 32 rfl e_2_1)) i1x10 i153 i163a; have oc := oc_138_1; omega), show s.1 31 0 = z141 from e141.symm], p163e q_3⟩
                    have n167e : ((Int32.ofInt 1)).toInt = 0 → ¬ dkC (gvC s) (x1).toInt (V31 s) := by intro h; exact absurd h (by decide)
                    have n167f : ((Int32.ofInt 1)).toInt ≠ 0 → LGC s s163 := by intro _; exact lgc_d p163c p163d p163f
                    have n167g : (u_2_0).toInt ≤ (z163a).toInt := by have a0 := oa6 i142x9a ((inv_F hI 448 28000 rfl e_30_0)) ((inv_F hI 0 32 rfl e_2_1)) i1x10 i153 i163a; have oc := oc_138_1; omega
                    have n167h : (s.2.2.1 2 0).toInt ≤ (s163.2.2.1 2 0).toInt := by have b0 : z163a = s163.2.2.1 2 0 := e163; first | (rw [← b0, ← e_2_0]; exact n167g) | (rw [← b0]; exact n167g)
                    exact g_ireturn (gd rfl) rfl (nb01 (in_w 0 1 (in_c 1 rfl) rfl)) (hP _ _ ⟨a163, s163, hI163, (fr_tr rfl fr_rf hF163), n167h, (Int32.ofInt 1), rfl, rfl, in_w 0 1 (in_c 1 rfl) rfl, n167, n167a, n167b, n167c, n167d, n167e, n167f⟩)
                · skip
                  exact zn_eq c145 (in_c 1 rfl) rfl
        · skip
          have i47 := z_eq 0 0 c47 h1 rfl
          refine g_aload_n 51 (gd rfl) rfl rfl ?_
          refine g_aload_n 52 (gd rfl) rfl rfl ?_
          refine g_getA (q2 := 31) 55 (gd rfl) rfl rfl rfl rfl ?_
          refine g_iconst 0 56 (gd rfl) rfl rfl ?_
          refine g_iaload 57 (gd rfl) rfl (n := 5) rfl (in_ix (in_c 0 rfl) rfl) (fun z56 e56 => ?_)
          refine g_aload_n 58 (gd rfl) rfl rfl ?_
          refine g_getA (q2 := 31) 61 (gd rfl) rfl rfl rfl rfl ?_
          refine g_iconst 1 62 (gd rfl) rfl rfl ?_
          refine g_iaload 63 (gd rfl) rfl (n := 5) rfl (in_ix (in_c 1 rfl) rfl) (fun z62 e62 => ?_)
          refine g_aload_n 64 (gd rfl) rfl rfl ?_
          refine g_getA (q2 := 31) 67 (gd rfl) rfl rfl rfl rfl ?_
          refine g_iconst 2 68 (gd rfl) rfl rfl ?_
          refine g_iaload 69 (gd rfl) rfl (n := 5) rfl (in_ix (in_c 2 rfl) rfl) (fun z68 e68 => ?_)
          refine g_aload_n 70 (gd rfl) rfl rfl ?_
          refine g_getA (q2 := 31) 73 (gd rfl) rfl rfl rfl rfl ?_
          refine g_iconst 3 74 (gd rfl) rfl rfl ?_
          refine g_iaload 75 (gd rfl) rfl (n := 5) rfl (in_ix (in_c 3 rfl) rfl) (fun z74 e74 => ?_)
          refine g_aload_n 76 (gd rfl) rfl rfl ?_
          refine g_getA (q2 := 31) 79 (gd rfl) rfl rfl rfl rfl ?_
          refine g_iconst 4 80 (gd rfl) rfl rfl ?_
          refine g_iaload 81 (gd rfl) rfl (n := 5) rfl (in_ix (in_c 4 rfl) rfl) (fun z80 e80 => ?_)
          refine g_callv (X := _) (As := [.int z56, .int z62, .int z68, .int z74, .int z80]) (r := []) (b := A 1) (q := 1) 84 (gd rfl) rfl rfl rfl rfl rfl (ww_o rfl) (Nat.le_of_ble_eq_true rfl) (mc := 0) (ms := 0) (Nat.zero_le _) (Nat.zero_le _) (P := fun v u => _) ?_ (fun e u h => h) (fun v u h => h)
          intro po81 xx81 hp81 hx81
          refine g_enter2 (k := 123) (N := 300) (by first | exact dq1 hd rfl | exact dq0 hd rfl | exact dq2 hd rfl | exact dq3 hd rfl | omega) rfl (Nat.le_of_ble_eq_true rfl) ?_
          refine g_aload_n 1 (gd rfl) rfl rfl ?_
          refine g_getA (q2 := 2) 4 (gd rfl) rfl rfl rfl rfl ?_
          refine g_iload_n 5 (gd rfl) rfl rfl ?_
          refine g_callv (X := _) (As := [.int z56]) (r := []) (b := A 2) (q := 2) 8 (gd rfl) rfl rfl rfl rfl rfl (ww_o rfl) (Nat.le_of_ble_eq_true rfl) (mc := 0) (ms := 0) (Nat.zero_le _) (Nat.zero_le _) (P := fun v u => _) ?_ (fun e u h => h) (fun v u h => h)
          intro po81x5 xx81x5 hp81x5 hx81x5
          refine g_enter2 (k := 94) (N := 300) (by first | exact dq1 hd rfl | exact dq0 hd rfl | exact dq2 hd rfl | exact dq3 hd rfl | omega) rfl (Nat.le_of_ble_eq_true rfl) ?_
          refine g_iload_n 1 (gd rfl) rfl rfl ?_
          refine g_if_lt 4 16 (gd rfl) rfl rfl (fun c81x5x1 => ?_) (fun c81x5x1 => ?_)
          · skip
            have i81x5x1 := z_lt (-2147483648) (-1) c81x5x1 (i_rng z56) rfl
            refine g_iconst 0 17 (gd rfl) rfl rfl ?_
            refine g_ireturn (gd rfl) rfl (nb01 (in_w 0 1 (in_c 0 rfl) rfl)) (hp81x5 _ _ ?_)
            show GG _ _ _ _ _ _ _ _ [.int (Int32.ofInt 0)] _ _ _
            refine g_if_eq 11 49 (gd rfl) rfl rfl (fun c81x8 => ?_) (fun c81x8 => ?_)
            · skip
              refine g_iconst 0 50 (gd rfl) rfl rfl ?_
              refine g_ireturn (gd rfl) rfl (nb01 (in_w 0 1 (in_c 0 rfl) rfl)) (hp81 _ _ ?_)
              show GG _ _ _ _ _ _ _ _ [.int (Int32.ofInt 0)] _ _ _
              refine g_if_eq 87 130 (gd rfl) rfl rfl (fun c84 => ?_) (fun c84 => ?_)
              · skip
                refine g_iconst 0 131 (gd rfl) rfl rfl ?_
                have n131 : KL s := by exact q_0
                have n131a : ((Int32.ofInt 0)).toInt ≠ 0 → (s.2.2.1 30 0).toInt = nln s := by intro h; exact absurd rfl h
                have n131b : ((Int32.ofInt 0)).toInt ≠ 0 → (s.2.2.1 2 0).toInt ≤ 3999 := by exact fun h => absurd rfl h
                have n131c : ∀ k : Nat, (k : Int) < 7 * (s.2.2.1 2 0).toInt → s.1 30 k = s.1 30 k := by exact fun k _ => rfl
                have n131d : ((Int32.ofInt 0)).toInt ≠ 0 → dkC (gvC s) (x1).toInt (V31 s) ∧ gvC s = opC (gvC s) (x1).toInt (V31 s) ∧ TQ s := by intro h; exact absurd rfl h
                have n131e : ((Int32.ofInt 0)).toInt = 0 → ¬ dkC (gvC s) (x1).toInt (V31 s) := by intro _ h; have h8 : (0 ≤ (s.1 31 0).toInt ∧ (s.1 31 0).toInt < (s.2.2.1 2 1).toInt) ∧ (0 ≤ (s.1 31 1).toInt ∧ (s.1 31 1).toInt < (s.2.2.1 2 1).toInt) ∧ (-1000000 ≤ (s.1 31 2).toInt ∧ (s.1 31 2).toInt ≤ 1000000) ∧ (0 ≤ (s.1 31 3).toInt ∧ (s.1 31 3).toInt ≤ 1000000) ∧ fpl (ctg (s.1 4)) < 160 := h.2.2.1 (by have a0 := oa5 ((inv_F hI 0 160 rfl e_2_3)) ((inv_F hI 448 28000 rfl e_30_0)) ((inv_F hI 0 32 rfl e_2_1)) i1x10 i47; have oc := oc_138_1; omega); rw [show s.1 31 0 = z56 from e56.symm, show s.1 31 1 = z62 from e62.symm, show s.1 31 2 = z68 from e68.symm, show s.1 31 3 = z74 from e74.symm] at h8; rw [← e_2_1] at h8; have h5 := q_4 (by have a0 := oa5 ((inv_F hI 0 160 rfl e_2_3)) ((inv_F hI 448 28000 rfl e_30_0)) ((inv_F hI 0 32 rfl e_2_1)) i1x10 i47; have oc := oc_138_1; omega); rw [show s.1 31 4 = z80 from e80.symm] at h5; unfold In at h5; have a0 := oa5 ((inv_F hI 0 160 rfl e_2_3)) ((inv_F hI 448 28000 rfl e_30_0)) ((inv_F hI 0 32 rfl e_2_1)) i1x10 i47; have oc := oc_138_1; omega
                have n131f : ((Int32.ofInt 0)).toInt ≠ 0 → LGC s s := by intro h; exact absurd rfl h
                have n131g : (u_2_0).toInt ≤ (u_2_0).toInt := by exact Int.le_refl _
                have n131h : (s.2.2.1 2 0).toInt ≤ (s.2.2.1 2 0).toInt := by have b0 : u_2_0 = s.2.2.1 2 0 := e_2_0; first | (rw [← b0, ← e_2_0]; exact n131g) | (rw [← b0]; exact n131g)
                exact g_ireturn (gd rfl) rfl (nb01 (in_w 0 1 (in_c 0 rfl) rfl)) (hP _ _ ⟨(A 30), s, hI, fr_rf, n131h, (Int32.ofInt 0), rfl, (by rw [ax_id]), in_w 0 1 (in_c 0 rfl) rfl, n131, n131a, n131b, n131c, n131d, n131e, n131f⟩)
              · skip
                exact zn_ne c84 (in_c 0 rfl) rfl
            · skip
              exact zn_ne c81x8 (in_c 0 rfl) rfl
          · skip
            have i81x5x1 := z_ge 0 2147483647 c81x5x1 (i_rng z56) rfl
            refine g_iload_n 5 (gd rfl) rfl rfl ?_
            refine g_aload_n 6 (gd rfl) rfl rfl ?_
            refine g_getI 9 (gd rfl) rfl rfl rfl (fun z81x5x6 e81x5x6 => ?_)
            have q81x5x6 : u_2_1 = z81x5x6 := (e_2_1).trans e81x5x6.symm
            subst q81x5x6
            refine g_cmp_ge 12 16 (gd rfl) rfl rfl (fun c81x5x9 => ?_) (fun c81x5x9 => ?_)
            · skip
              refine g_iconst 0 17 (gd rfl) rfl rfl ?_
              refine g_ireturn (gd rfl) rfl (nb01 (in_w 0 1 (in_c 0 rfl) rfl)) (hp81x5 _ _ ?_)
              show GG _ _ _ _ _ _ _ _ [.int (Int32.ofInt 0)] _ _ _
              refine g_if_eq 11 49 (gd rfl) rfl rfl (fun c81x8 => ?_) (fun c81x8 => ?_)
              · skip
                refine g_iconst 0 50 (gd rfl) rfl rfl ?_
                refine g_ireturn (gd rfl) rfl (nb01 (in_w 0 1 (in_c 0 rfl) rfl)) (hp81 _ _ ?_)
                show GG _ _ _ _ _ _ _ _ [.int (Int32.ofInt 0)] _ _ _
                refine g_if_eq 87 130 (gd rfl) rfl rfl (fun c84 => ?_) (fun c84 => ?_)
                · skip
                  refine g_iconst 0 131 (gd rfl) rfl rfl ?_
                  have n131 : KL s := by exact q_0
                  have n131a : ((Int32.ofInt 0)).toInt ≠ 0 → (s.2.2.1 30 0).toInt = nln s := by intro h; exact absurd rfl h
                  have n131b : ((Int32.ofInt 0)).toInt ≠ 0 → (s.2.2.1 2 0).toInt ≤ 3999 := by exact fun h => absurd rfl h
                  have n131c : ∀ k : Nat, (k : Int) < 7 * (s.2.2.1 2 0).toInt → s.1 30 k = s.1 30 k := by exact fun k _ => rfl
                  have n131d : ((Int32.ofInt 0)).toInt ≠ 0 → dkC (gvC s) (x1).toInt (V31 s) ∧ gvC s = opC (gvC s) (x1).toInt (V31 s) ∧ TQ s := by intro h; exact absurd rfl h
                  have n131e : ((Int32.ofInt 0)).toInt = 0 → ¬ dkC (gvC s) (x1).toInt (V31 s) := by intro _ h; have h8 : (0 ≤ (s.1 31 0).toInt ∧ (s.1 31 0).toInt < (s.2.2.1 2 1).toInt) ∧ (0 ≤ (s.1 31 1).toInt ∧ (s.1 31 1).toInt < (s.2.2.1 2 1).toInt) ∧ (-1000000 ≤ (s.1 31 2).toInt ∧ (s.1 31 2).toInt ≤ 1000000) ∧ (0 ≤ (s.1 31 3).toInt ∧ (s.1 31 3).toInt ≤ 1000000) ∧ fpl (ctg (s.1 4)) < 160 := h.2.2.1 (by have a0 := oa5 ((inv_F hI 0 160 rfl e_2_3)) ((inv_F hI 448 28000 rfl e_30_0)) ((inv_F hI 0 32 rfl e_2_1)) i1x10 i47; have oc := oc_138_1; omega); rw [show s.1 31 0 = z56 from e56.symm, show s.1 31 1 = z62 from e62.symm, show s.1 31 2 = z68 from e68.symm, show s.1 31 3 = z74 from e74.symm] at h8; rw [← e_2_1] at h8; have h5 := q_4 (by have a0 := oa5 ((inv_F hI 0 160 rfl e_2_3)) ((inv_F hI 448 28000 rfl e_30_0)) ((inv_F hI 0 32 rfl e_2_1)) i1x10 i47; have oc := oc_138_1; omega); rw [show s.1 31 4 = z80 from e80.symm] at h5; unfold In at h5; have a0 := oa5 ((inv_F hI 0 160 rfl e_2_3)) ((inv_F hI 448 28000 rfl e_30_0)) ((inv_F hI 0 32 rfl e_2_1)) i1x10 i47; have oc := oc_138_1; omega
                  have n131f : ((Int32.ofInt 0)).toInt ≠ 0 → LGC s s := by intro h; exact absurd rfl h
                  have n131g : (u_2_0).toInt ≤ (u_2_0).toInt := by exact Int.le_refl _
                  have n131h : (s.2.2.1 2 0).toInt ≤ (s.2.2.1 2 0).toInt := by have b0 : u_2_0 = s.2.2.1 2 0 := e_2_0; first | (rw [← b0, ← e_2_0]; exact n131g) | (rw [← b0]; exact n131g)
                  exact g_ireturn (gd rfl) rfl (nb01 (in_w 0 1 (in_c 0 rfl) rfl)) (hP _ _ ⟨(A 30), s, hI, fr_rf, n131h, (Int32.ofInt 0), rfl, (by rw [ax_id]), in_w 0 1 (in_c 0 rfl) rfl, n131, n131a, n131b, n131c, n131d, n131e, n131f⟩)
                · skip
                  exact zn_ne c84 (in_c 0 rfl) rfl
              · skip
                exact zn_ne c81x8 (in_c 0 rfl) rfl
            · skip
              have i81x5x9 := r_lt1 0 31 c81x5x9 i81x5x1 (inv_F hI 0 32 rfl e_2_1) rfl
              have i81x5x9a := r_lt2 1 32 c81x5x9 i81x5x1 (inv_F hI 0 32 rfl e_2_1) rfl
              refine g_iconst 1 13 (gd rfl) rfl rfl ?_
              refine g_goto 17 (gd rfl) rfl ?_
              refine g_ireturn (gd rfl) rfl (nb01 (in_w 0 1 (in_c 1 rfl) rfl)) (hp81x5 _ _ ?_)
              show GG _ _ _ _ _ _ _ _ [.int (Int32.ofInt 1)] _ _ _
              refine g_if_eq 11 49 (gd rfl) rfl rfl (fun c81x8 => ?_) (fun c81x8 => ?_)
              · skip
                exact zn_eq c81x8 (in_c 1 rfl) rfl
              · skip
                refine g_aload_n 12 (gd rfl) rfl rfl ?_
                refine g_getA (q2 := 2) 15 (gd rfl) rfl rfl rfl rfl ?_
                refine g_iload_n 16 (gd rfl) rfl rfl ?_
                refine g_callv (X := _) (As := [.int z62]) (r := []) (b := A 2) (q := 2) 19 (gd rfl) rfl rfl rfl rfl rfl (ww_o rfl) (Nat.le_of_ble_eq_true rfl) (mc := 0) (ms := 0) (Nat.zero_le _) (Nat.zero_le _) (P := fun v u => _) ?_ (fun e u h => h) (fun v u h => h)
                intro po81x16 xx81x16 hp81x16 hx81x16
                refine g_enter2 (k := 94) (N := 300) (by first | exact dq1 hd rfl | exact dq0 hd rfl | exact dq2 hd rfl | exact dq3 hd rfl | omega) rfl (Nat.le_of_ble_eq_true rfl) ?_
                refine g_iload_n 1 (gd rfl) rfl rfl ?_
                refine g_if_lt 4 16 (gd rfl) rfl rfl (fun c81x16x1 => ?_) (fun c81x16x1 => ?_)
                · skip
                  have i81x16x1 := z_lt (-2147483648) (-1) c81x16x1 (i_rng z62) rfl
                  refine g_iconst 0 17 (gd rfl) rfl rfl ?_
                  refine g_ireturn (gd rfl) rfl (nb01 (in_w 0 1 (in_c 0 rfl) rfl)) (hp81x16 _ _ ?_)
                  show GG _ _ _ _ _ _ _ _ [.int (Int32.ofInt 0)] _ _ _
                  refine g_if_eq 22 49 (gd rfl) rfl rfl (fun c81x19 => ?_) (fun c81x19 => ?_)
                  · skip
                    refine g_iconst 0 50 (gd rfl) rfl rfl ?_
                    refine g_ireturn (gd rfl) rfl (nb01 (in_w 0 1 (in_c 0 rfl) rfl)) (hp81 _ _ ?_)
                    show GG _ _ _ _ _ _ _ _ [.int (Int32.ofInt 0)] _ _ _
                    refine g_if_eq 87 130 (gd rfl) rfl rfl (fun c84 => ?_) (fun c84 => ?_)
                    · skip
                      refine g_iconst 0 131 (gd rfl) rfl rfl ?_
                      have n131 : KL s := by exact q_0
                      have n131a : ((Int32.ofInt 0)).toInt ≠ 0 → (s.2.2.1 30 0).toInt = nln s := by intro h; exact absurd rfl h
                      have n131b : ((Int32.ofInt 0)).toInt ≠ 0 → (s.2.2.1 2 0).toInt ≤ 3999 := by exact fun h => absurd rfl h
                      have n131c : ∀ k : Nat, (k : Int) < 7 * (s.2.2.1 2 0).toInt → s.1 30 k = s.1 30 k := by exact fun k _ => rfl
                      have n131d : ((Int32.ofInt 0)).toInt ≠ 0 → dkC (gvC s) (x1).toInt (V31 s) ∧ gvC s = opC (gvC s) (x1).toInt (V31 s) ∧ TQ s := by intro h; exact absurd rfl h
                      have n131e : ((Int32.ofInt 0)).toInt = 0 → ¬ dkC (gvC s) (x1).toInt (V31 s) := by intro _ h; have h8 : (0 ≤ (s.1 31 0).toInt ∧ (s.1 31 0).toInt < (s.2.2.1 2 1).toInt) ∧ (0 ≤ (s.1 31 1).toInt ∧ (s.1 31 1).toInt < (s.2.2.1 2 1).toInt) ∧ (-1000000 ≤ (s.1 31 2).toInt ∧ (s.1 31 2).toInt ≤ 1000000) ∧ (0 ≤ (s.1 31 3).toInt ∧ (s.1 31 3).toInt ≤ 1000000) ∧ fpl (ctg (s.1 4)) < 160 := h.2.2.1 (by have a0 := oa5 ((inv_F hI 0 160 rfl e_2_3)) ((inv_F hI 448 28000 rfl e_30_0)) i81x5x9a i1x10 i47; have oc := oc_138_1; omega); rw [show s.1 31 0 = z56 from e56.symm, show s.1 31 1 = z62 from e62.symm, show s.1 31 2 = z68 from e68.symm, show s.1 31 3 = z74 from e74.symm] at h8; rw [← e_2_1] at h8; have h5 := q_4 (by have a0 := oa5 ((inv_F hI 0 160 rfl e_2_3)) ((inv_F hI 448 28000 rfl e_30_0)) i81x5x9a i1x10 i47; have oc := oc_138_1; omega); rw [show s.1 31 4 = z80 from e80.symm] at h5; unfold In at h5; have a0 := oa5 ((inv_F hI 0 160 rfl e_2_3)) ((inv_F hI 448 28000 rfl e_30_0)) i81x5x9a i1x10 i47; have oc := oc_138_1; omega
                      have n131f : ((Int32.ofInt 0)).toInt ≠ 0 → LGC s s := by intro h; exact absurd rfl h
                      have n131g : (u_2_0).toInt ≤ (u_2_0).toInt := by exact Int.le_refl _
                      have n131h : (s.2.2.1 2 0).toInt ≤ (s.2.2.1 2 0).toInt := by have b0 : u_2_0 = s.2.2.1 2 0 := e_2_0; first | (rw [← b0, ← e_2_0]; exact n131g) | (rw [← b0]; exact n131g)
                      exact g_ireturn (gd rfl) rfl (nb01 (in_w 0 1 (in_c 0 rfl) rfl)) (hP _ _ ⟨(A 30), s, hI, fr_rf, n131h, (Int32.ofInt 0), rfl, (by rw [ax_id]), in_w 0 1 (in_c 0 rfl) rfl, n131, n131a, n131b, n131c, n131d, n131e, n131f⟩)
                    · skip
                      exact zn_ne c84 (in_c 0 rfl) rfl
                  · skip
                    exact zn_ne c81x19 (in_c 0 rfl) rfl
                · skip
                  have i81x16x1 := z_ge 0 2147483647 c81x16x1 (i_rng z62) rfl
                  refine g_iload_n 5 (gd rfl) rfl rfl ?_
                  refine g_aload_n 6 (gd rfl) rfl rfl ?_
                  refine g_getI 9 (gd rfl) rfl rfl rfl (fun z81x16x6 e81x16x6 => ?_)
                  have q81x16x6 : u_2_1 = z81x16x6 := (e_2_1).trans e81x16x6.symm
                  subst q81x16x6
                  refine g_cmp_ge 12 16 (gd rfl) rfl rfl (fun c81x16x9 => ?_) (fun c81x16x9 => ?_)
                  · skip
                    have i81x16x9 := r_le2 1 2147483647 c81x16x9 i81x5x9a i81x16x1 rfl
                    refine g_iconst 0 17 (gd rfl) rfl rfl ?_
                    refine g_ireturn (gd rfl) rfl (nb01 (in_w 0 1 (in_c 0 rfl) rfl)) (hp81x16 _ _ ?_)
                    show GG _ _ _ _ _ _ _ _ [.int (Int32.ofInt 0)] _ _ _
                    refine g_if_eq 22 49 (gd rfl) rfl rfl (fun c81x19 => ?_) (fun c81x19 => ?_)
                    · skip
                      refine g_iconst 0 50 (gd rfl) rfl rfl ?_
                      refine g_ireturn (gd rfl) rfl (nb01 (in_w 0 1 (in_c 0 rfl) rfl)) (hp81 _ _ ?_)
                      show GG _ _ _ _ _ _ _ _ [.int (Int32.ofInt 0)] _ _ _
                      refine g_if_eq 87 130 (gd rfl) rfl rfl (fun c84 => ?_) (fun c84 => ?_)
                      · skip
                        refine g_iconst 0 131 (gd rfl) rfl rfl ?_
                        have n131 : KL s := by exact q_0
                        have n131a : ((Int32.ofInt 0)).toInt ≠ 0 → (s.2.2.1 30 0).toInt = nln s := by intro h; exact absurd rfl h
                        have n131b : ((Int32.ofInt 0)).toInt ≠ 0 → (s.2.2.1 2 0).toInt ≤ 3999 := by exact fun h => absurd rfl h
                        have n131c : ∀ k : Nat, (k : Int) < 7 * (s.2.2.1 2 0).toInt → s.1 30 k = s.1 30 k := by exact fun k _ => rfl
                        have n131d : ((Int32.ofInt 0)).toInt ≠ 0 → dkC (gvC s) (x1).toInt (V31 s) ∧ gvC s = opC (gvC s) (x1).toInt (V31 s) ∧ TQ s := by intro h; exact absurd rfl h
                        have n131e : ((Int32.ofInt 0)).toInt = 0 → ¬ dkC (gvC s) (x1).toInt (V31 s) := by intro _ h; have h8 : (0 ≤ (s.1 31 0).toInt ∧ (s.1 31 0).toInt < (s.2.2.1 2 1).toInt) ∧ (0 ≤ (s.1 31 1).toInt ∧ (s.1 31 1).toInt < (s.2.2.1 2 1).toInt) ∧ (-1000000 ≤ (s.1 31 2).toInt ∧ (s.1 31 2).toInt ≤ 1000000) ∧ (0 ≤ (s.1 31 3).toInt ∧ (s.1 31 3).toInt ≤ 1000000) ∧ fpl (ctg (s.1 4)) < 160 := h.2.2.1 (by have a0 := oa5 ((inv_F hI 0 160 rfl e_2_3)) ((inv_F hI 448 28000 rfl e_30_0)) i81x5x9a i1x10 i47; have oc := oc_138_1; omega); rw [show s.1 31 0 = z56 from e56.symm, show s.1 31 1 = z62 from e62.symm, show s.1 31 2 = z68 from e68.symm, show s.1 31 3 = z74 from e74.symm] at h8; rw [← e_2_1] at h8; have h5 := q_4 (by have a0 := oa5 ((inv_F hI 0 160 rfl e_2_3)) ((inv_F hI 448 28000 rfl e_30_0)) i81x5x9a i1x10 i47; have oc := oc_138_1; omega); rw [show s.1 31 4 = z80 from e80.symm] at h5; unfold In at h5; have a0 := oa5 ((inv_F hI 0 160 rfl e_2_3)) ((inv_F hI 448 28000 rfl e_30_0)) i81x5x9a i1x10 i47; have oc := oc_138_1; omega
                        have n131f : ((Int32.ofInt 0)).toInt ≠ 0 → LGC s s := by intro h; exact absurd rfl h
                        have n131g : (u_2_0).toInt ≤ (u_2_0).toInt := by exact Int.le_refl _
                        have n131h : (s.2.2.1 2 0).toInt ≤ (s.2.2.1 2 0).toInt := by have b0 : u_2_0 = s.2.2.1 2 0 := e_2_0; first | (rw [← b0, ← e_2_0]; exact n131g) | (rw [← b0]; exact n131g)
                        exact g_ireturn (gd rfl) rfl (nb01 (in_w 0 1 (in_c 0 rfl) rfl)) (hP _ _ ⟨(A 30), s, hI, fr_rf, n131h, (Int32.ofInt 0), rfl, (by rw [ax_id]), in_w 0 1 (in_c 0 rfl) rfl, n131, n131a, n131b, n131c, n131d, n131e, n131f⟩)
                      · skip
                        exact zn_ne c84 (in_c 0 rfl) rfl
                    · skip
                      exact zn_ne c81x19 (in_c 0 rfl) rfl
                  · skip
                    have i81x16x9 := r_lt1 0 31 c81x16x9 i81x16x1 i81x5x9a rfl
                    refine g_iconst 1 13 (gd rfl) rfl rfl ?_
                    refine g_goto 17 (gd rfl) rfl ?_
                    refine g_ireturn (gd rfl) rfl (nb01 (in_w 0 1 (in_c 1 rfl) rfl)) (hp81x16 _ _ ?_)
                    show GG _ _ _ _ _ _ _ _ [.int (Int32.ofInt 1)] _ _ _
                    refine g_if_eq 22 49 (gd rfl) rfl rfl (fun c81x19 => ?_) (fun c81x19 => ?_)
                    · skip
                      exact zn_eq c81x19 (in_c 1 rfl) rfl
                    · skip
                      refine g_iload_n 23 (gd rfl) rfl rfl ?_
                      refine g_calls (As := [.int z68]) (r := []) 26 (gd rfl) rfl rfl rfl rfl rfl (Nat.le_of_ble_eq_true rfl) (mc := 0) (ms := 0) (Nat.zero_le _) (Nat.zero_le _) (P := fun v u => _) ?_ (fun v u h => h)
                      intro po81x23 xx81x23 hp81x23 hx81x23
                      refine g_enter2 (k := 261) (N := 300) (by first | exact dq1 hd rfl | exact dq0 hd rfl | exact dq2 hd rfl | exact dq3 hd rfl | omega) rfl (Nat.le_of_ble_eq_true rfl) ?_
                      refine g_iload_n 1 (gd rfl) rfl rfl ?_
                      refine g_ldc_w (-1000000) 4 (gd rfl) rfl rfl ?_
                      refine g_cmp_lt 7 18 (gd rfl) rfl rfl (fun c81x23x4 => ?_) (fun c81x23x4 => ?_)
                      · skip
                        have i81x23x4 := r_lt1 (-2147483648) (-1000001) c81x23x4 (i_rng z68) (in_c (-1000000) rfl) rfl
                        refine g_iconst 0 19 (gd rfl) rfl rfl ?_
                        refine g_ireturn (gd rfl) rfl (nb01 (in_w 0 1 (in_c 0 rfl) rfl)) (hp81x23 _ _ ?_)
                        show GG _ _ _ _ _ _ _ _ [.int (Int32.ofInt 0)] _ _ _
                        refine g_if_eq 29 49 (gd rfl) rfl rfl (fun c81x26 => ?_) (fun c81x26 => ?_)
                        · skip
                          refine g_iconst 0 50 (gd rfl) rfl rfl ?_
                          refine g_ireturn (gd rfl) rfl (nb01 (in_w 0 1 (in_c 0 rfl) rfl)) (hp81 _ _ ?_)
                          show GG _ _ _ _ _ _ _ _ [.int (Int32.ofInt 0)] _ _ _
                          refine g_if_eq 87 130 (gd rfl) rfl rfl (fun c84 => ?_) (fun c84 => ?_)
                          · skip
                            refine g_iconst 0 131 (gd rfl) rfl rfl ?_
                            have n131 : KL s := by exact q_0
                            have n131a : ((Int32.ofInt 0)).toInt ≠ 0 → (s.2.2.1 30 0).toInt = nln s := by intro h; exact absurd rfl h
                            have n131b : ((Int32.ofInt 0)).toInt ≠ 0 → (s.2.2.1 2 0).toInt ≤ 3999 := by exact fun h => absurd rfl h
                            have n131c : ∀ k : Nat, (k : Int) < 7 * (s.2.2.1 2 0).toInt → s.1 30 k = s.1 30 k := by exact fun k _ => rfl
                            have n131d : ((Int32.ofInt 0)).toInt ≠ 0 → dkC (gvC s) (x1).toInt (V31 s) ∧ gvC s = opC (gvC s) (x1).toInt (V31 s) ∧ TQ s := by intro h; exact absurd rfl h
                            have n131e : ((Int32.ofInt 0)).toInt = 0 → ¬ dkC (gvC s) (x1).toInt (V31 s) := by intro _ h; have h8 : (0 ≤ (s.1 31 0).toInt ∧ (s.1 31 0).toInt < (s.2.2.1 2 1).toInt) ∧ (0 ≤ (s.1 31 1).toInt ∧ (s.1 31 1).toInt < (s.2.2.1 2 1).toInt) ∧ (-1000000 ≤ (s.1 31 2).toInt ∧ (s.1 31 2).toInt ≤ 1000000) ∧ (0 ≤ (s.1 31 3).toInt ∧ (s.1 31 3).toInt ≤ 1000000) ∧ fpl (ctg (s.1 4)) < 160 := h.2.2.1 (by have a0 := oa5 ((inv_F hI 0 160 rfl e_2_3)) ((inv_F hI 448 28000 rfl e_30_0)) i81x5x9a i1x10 i47; have oc := oc_138_1; omega); rw [show s.1 31 0 = z56 from e56.symm, show s.1 31 1 = z62 from e62.symm, show s.1 31 2 = z68 from e68.symm, show s.1 31 3 = z74 from e74.symm] at h8; rw [← e_2_1] at h8; have h5 := q_4 (by have a0 := oa5 ((inv_F hI 0 160 rfl e_2_3)) ((inv_F hI 448 28000 rfl e_30_0)) i81x5x9a i1x10 i47; have oc := oc_138_1; omega); rw [show s.1 31 4 = z80 from e80.symm] at h5; unfold In at h5; have a0 := oa5 ((inv_F hI 0 160 rfl e_2_3)) ((inv_F hI 448 28000 rfl e_30_0)) i81x5x9a i1x10 i47; have oc := oc_138_1; omega
                            have n131f : ((Int32.ofInt 0)).toInt ≠ 0 → LGC s s := by intro h; exact absurd rfl h
                            have n131g : (u_2_0).toInt ≤ (u_2_0).toInt := by exact Int.le_refl _
                            have n131h : (s.2.2.1 2 0).toInt ≤ (s.2.2.1 2 0).toInt := by have b0 : u_2_0 = s.2.2.1 2 0 := e_2_0; first | (rw [← b0, ← e_2_0]; exact n131g) | (rw [← b0]; exact n131g)
                            exact g_ireturn (gd rfl) rfl (nb01 (in_w 0 1 (in_c 0 rfl) rfl)) (hP _ _ ⟨(A 30), s, hI, fr_rf, n131h, (Int32.ofInt 0), rfl, (by rw [ax_id]), in_w 0 1 (in_c 0 rfl) rfl, n131, n131a, n131b, n131c, n131d, n131e, n131f⟩)
                          · skip
                            exact zn_ne c84 (in_c 0 rfl) rfl
                        · skip
                          exact zn_ne c81x26 (in_c 0 rfl) rfl
                      · skip
                        have i81x23x4 := r_le2 (-1000000) 2147483647 c81x23x4 (in_c (-1000000) rfl) (i_rng z68) rfl
                        refine g_iload_n 8 (gd rfl) rfl rfl ?_
                        refine g_ldc_w 1000000 11 (gd rfl) rfl rfl ?_
                        refine g_cmp_gt 14 18 (gd rfl) rfl rfl (fun c81x23x11 => ?_) (fun c81x23x11 => ?_)
                        · skip
                          have i81x23x11 := r_lt2 1000001 2147483647 c81x23x11 (in_c 1000000 rfl) i81x23x4 rfl
                          refine g_iconst 0 19 (gd rfl) rfl rfl ?_
                          refine g_ireturn (gd rfl) rfl (nb01 (in_w 0 1 (in_c 0 rfl) rfl)) (hp81x23 _ _ ?_)
                          show GG _ _ _ _ _ _ _ _ [.int (Int32.ofInt 0)] _ _ _
                          refine g_if_eq 29 49 (gd rfl) rfl rfl (fun c81x26 => ?_) (fun c81x26 => ?_)
                          · skip
                            refine g_iconst 0 50 (gd rfl) rfl rfl ?_
                            refine g_ireturn (gd rfl) rfl (nb01 (in_w 0 1 (in_c 0 rfl) rfl)) (hp81 _ _ ?_)
                            show GG _ _ _ _ _ _ _ _ [.int (Int32.ofInt 0)] _ _ _
                            refine g_if_eq 87 130 (gd rfl) rfl rfl (fun c84 => ?_) (fun c84 => ?_)
                            · skip
                              refine g_iconst 0 131 (gd rfl) rfl rfl ?_
                              have n131 : KL s := by exact q_0
                              have n131a : ((Int32.ofInt 0)).toInt ≠ 0 → (s.2.2.1 30 0).toInt = nln s := by intro h; exact absurd rfl h
                              have n131b : ((Int32.ofInt 0)).toInt ≠ 0 → (s.2.2.1 2 0).toInt ≤ 3999 := by exact fun h => absurd rfl h
                              have n131c : ∀ k : Nat, (k : Int) < 7 * (s.2.2.1 2 0).toInt → s.1 30 k = s.1 30 k := by exact fun k _ => rfl
                              have n131d : ((Int32.ofInt 0)).toInt ≠ 0 → dkC (gvC s) (x1).toInt (V31 s) ∧ gvC s = opC (gvC s) (x1).toInt (V31 s) ∧ TQ s := by intro h; exact absurd rfl h
                              have n131e : ((Int32.ofInt 0)).toInt = 0 → ¬ dkC (gvC s) (x1).toInt (V31 s) := by intro _ h; have h8 : (0 ≤ (s.1 31 0).toInt ∧ (s.1 31 0).toInt < (s.2.2.1 2 1).toInt) ∧ (0 ≤ (s.1 31 1).toInt ∧ (s.1 31 1).toInt < (s.2.2.1 2 1).toInt) ∧ (-1000000 ≤ (s.1 31 2).toInt ∧ (s.1 31 2).toInt ≤ 1000000) ∧ (0 ≤ (s.1 31 3).toInt ∧ (s.1 31 3).toInt ≤ 1000000) ∧ fpl (ctg (s.1 4)) < 160 := h.2.2.1 (by have a0 := oa5 ((inv_F hI 0 160 rfl e_2_3)) ((inv_F hI 448 28000 rfl e_30_0)) i81x5x9a i1x10 i47; have oc := oc_138_1; omega); rw [show s.1 31 0 = z56 from e56.symm, show s.1 31 1 = z62 from e62.symm, show s.1 31 2 = z68 from e68.symm, show s.1 31 3 = z74 from e74.symm] at h8; rw [← e_2_1] at h8; have h5 := q_4 (by have a0 := oa5 ((inv_F hI 0 160 rfl e_2_3)) ((inv_F hI 448 28000 rfl e_30_0)) i81x5x9a i1x10 i47; have oc := oc_138_1; omega); rw [show s.1 31 4 = z80 from e80.symm] at h5; unfold In at h5; have a0 := oa5 ((inv_F hI 0 160 rfl e_2_3)) ((inv_F hI 448 28000 rfl e_30_0)) i81x5x9a i1x10 i47; have oc := oc_138_1; omega
                              have n131f : ((Int32.ofInt 0)).toInt ≠ 0 → LGC s s := by intro h; exact absurd rfl h
                              have n131g : (u_2_0).toInt ≤ (u_2_0).toInt := by exact Int.le_refl _
                              have n131h : (s.2.2.1 2 0).toInt ≤ (s.2.2.1 2 0).toInt := by have b0 : u_2_0 = s.2.2.1 2 0 := e_2_0; first | (rw [← b0, ← e_2_0]; exact n131g) | (rw [← b0]; exact n131g)
                              exact g_ireturn (gd rfl) rfl (nb01 (in_w 0 1 (in_c 0 rfl) rfl)) (hP _ _ ⟨(A 30), s, hI, fr_rf, n131h, (Int32.ofInt 0), rfl, (by rw [ax_id]), in_w 0 1 (in_c 0 rfl) rfl, n131, n131a, n131b, n131c, n131d, n131e, n131f⟩)
                            · skip
                              exact zn_ne c84 (in_c 0 rfl) rfl
                          · skip
                            exact zn_ne c81x26 (in_c 0 rfl) rfl
                        · skip
                          have i81x23x11 := r_le1 (-1000000) 1000000 c81x23x11 i81x23x4 (in_c 1000000 rfl) rfl
                          refine g_iconst 1 15 (gd rfl) rfl rfl ?_
                          refine g_goto 19 (gd rfl) rfl ?_
                          refine g_ireturn (gd rfl) rfl (nb01 (in_w 0 1 (in_c 1 rfl) rfl)) (hp81x23 _ _ ?_)
                          show GG _ _ _ _ _ _ _ _ [.int (Int32.ofInt 1)] _ _ _
                          refine g_if_eq 29 49 (gd rfl) rfl rfl (fun c81x26 => ?_) (fun c81x26 => ?_)
                          · skip
                            exact zn_eq c81x26 (in_c 1 rfl) rfl
                          · skip
                            refine g_iload 31 (gd rfl) rfl rfl ?_
                            refine g_calls (As := [.int z74]) (r := []) 34 (gd rfl) rfl rfl rfl rfl rfl (Nat.le_of_ble_eq_true rfl) (mc := 0) (ms := 0) (Nat.zero_le _) (Nat.zero_le _) (P := fun v u => _) ?_ (fun v u h => h)
                            intro po81x31 xx81x31 hp81x31 hx81x31
                            refine g_enter2 (k := 262) (N := 300) (by first | exact dq1 hd rfl | exact dq0 hd rfl | exact dq2 hd rfl | exact dq3 hd rfl | omega) rfl (Nat.le_of_ble_eq_true rfl) ?_
                            refine g_iload_n 1 (gd rfl) rfl rfl ?_
                            refine g_if_lt 4 15 (gd rfl) rfl rfl (fun c81x31x1 => ?_) (fun c81x31x1 => ?_)
                            · skip
                              have i81x31x1 := z_lt (-2147483648) (-1) c81x31x1 (i_rng z74) rfl
                              refine g_iconst 0 16 (gd rfl) rfl rfl ?_
                              refine g_ireturn (gd rfl) rfl (nb01 (in_w 0 1 (in_c 0 rfl) rfl)) (hp81x31 _ _ ?_)
                              show GG _ _ _ _ _ _ _ _ [.int (Int32.ofInt 0)] _ _ _
                              refine g_if_eq 37 49 (gd rfl) rfl rfl (fun c81x34 => ?_) (fun c81x34 => ?_)
                              · skip
                                refine g_iconst 0 50 (gd rfl) rfl rfl ?_
                                refine g_ireturn (gd rfl) rfl (nb01 (in_w 0 1 (in_c 0 rfl) rfl)) (hp81 _ _ ?_)
                                show GG _ _ _ _ _ _ _ _ [.int (Int32.ofInt 0)] _ _ _
                                refine g_if_eq 87 130 (gd rfl) rfl rfl (fun c84 => ?_) (fun c84 => ?_)
                                · skip
                                  refine g_iconst 0 131 (gd rfl) rfl rfl ?_
                                  have n131 : KL s := by exact q_0
                                  have n131a : ((Int32.ofInt 0)).toInt ≠ 0 → (s.2.2.1 30 0).toInt = nln s := by intro h; exact absurd rfl h
                                  have n131b : ((Int32.ofInt 0)).toInt ≠ 0 → (s.2.2.1 2 0).toInt ≤ 3999 := by exact fun h => absurd rfl h
                                  have n131c : ∀ k : Nat, (k : Int) < 7 * (s.2.2.1 2 0).toInt → s.1 30 k = s.1 30 k := by exact fun k _ => rfl
                                  have n131d : ((Int32.ofInt 0)).toInt ≠ 0 → dkC (gvC s) (x1).toInt (V31 s) ∧ gvC s = opC (gvC s) (x1).toInt (V31 s) ∧ TQ s := by intro h; exact absurd rfl h
                                  have n131e : ((Int32.ofInt 0)).toInt = 0 → ¬ dkC (gvC s) (x1).toInt (V31 s) := by intro _ h; have h8 : (0 ≤ (s.1 31 0).toInt ∧ (s.1 31 0).toInt < (s.2.2.1 2 1).toInt) ∧ (0 ≤ (s.1 31 1).toInt ∧ (s.1 31 1).toInt < (s.2.2.1 2 1).toInt) ∧ (-1000000 ≤ (s.1 31 2).toInt ∧ (s.1 31 2).toInt ≤ 1000000) ∧ (0 ≤ (s.1 31 3).toInt ∧ (s.1 31 3).toInt ≤ 1000000) ∧ fpl (ctg (s.1 4)) < 160 := h.2.2.1 (by have a0 := oa5 ((inv_F hI 0 160 rfl e_2_3)) ((inv_F hI 448 28000 rfl e_30_0)) i81x5x9a i1x10 i47; have oc := oc_138_1; omega); rw [show s.1 31 0 = z56 from e56.symm, show s.1 31 1 = z62 from e62.symm, show s.1 31 2 = z68 from e68.symm, show s.1 31 3 = z74 from e74.symm] at h8; rw [← e_2_1] at h8; have h5 := q_4 (by have a0 := oa5 ((inv_F hI 0 160 rfl e_2_3)) ((inv_F hI 448 28000 rfl e_30_0)) i81x5x9a i1x10 i47; have oc := oc_138_1; omega); rw [show s.1 31 4 = z80 from e80.symm] at h5; unfold In at h5; have a0 := oa5 ((inv_F hI 0 160 rfl e_2_3)) ((inv_F hI 448 28000 rfl e_30_0)) i81x5x9a i1x10 i47; have oc := oc_138_1; omega
                                  have n131f : ((Int32.ofInt 0)).toInt ≠ 0 → LGC s s := by intro h; exact absurd rfl h
                                  have n131g : (u_2_0).toInt ≤ (u_2_0).toInt := by exact Int.le_refl _
                                  have n131h : (s.2.2.1 2 0).toInt ≤ (s.2.2.1 2 0).toInt := by have b0 : u_2_0 = s.2.2.1 2 0 := e_2_0; first | (rw [← b0, ← e_2_0]; exact n131g) | (rw [← b0]; exact n131g)
                                  exact g_ireturn (gd rfl) rfl (nb01 (in_w 0 1 (in_c 0 rfl) rfl)) (hP _ _ ⟨(A 30), s, hI, fr_rf, n131h, (Int32.ofInt 0), rfl, (by rw [ax_id]), in_w 0 1 (in_c 0 rfl) rfl, n131, n131a, n131b, n131c, n131d, n131e, n131f⟩)
                                · skip
                                  exact zn_ne c84 (in_c 0 rfl) rfl
                              · skip
                                exact zn_ne c81x34 (in_c 0 rfl) rfl
                            · skip
                              have i81x31x1 := z_ge 0 2147483647 c81x31x1 (i_rng z74) rfl
                              refine g_iload_n 5 (gd rfl) rfl rfl ?_
                              refine g_ldc_w 1000000 8 (gd rfl) rfl rfl ?_
                              refine g_cmp_gt 11 15 (gd rfl) rfl rfl (fun c81x31x8 => ?_) (fun c81x31x8 => ?_)
                              · skip
                                have i81x31x8 := r_lt2 1000001 2147483647 c81x31x8 (in_c 1000000 rfl) i81x31x1 rfl
                                refine g_iconst 0 16 (gd rfl) rfl rfl ?_
                                refine g_ireturn (gd rfl) rfl (nb01 (in_w 0 1 (in_c 0 rfl) rfl)) (hp81x31 _ _ ?_)
                                show GG _ _ _ _ _ _ _ _ [.int (Int32.ofInt 0)] _ _ _
                                refine g_if_eq 37 49 (gd rfl) rfl rfl (fun c81x34 => ?_) (fun c81x34 => ?_)
                                · skip
                                  refine g_iconst 0 50 (gd rfl) rfl rfl ?_
                                  refine g_ireturn (gd rfl) rfl (nb01 (in_w 0 1 (in_c 0 rfl) rfl)) (hp81 _ _ ?_)
                                  show GG _ _ _ _ _ _ _ _ [.int (Int32.ofInt 0)] _ _ _
                                  refine g_if_eq 87 130 (gd rfl) rfl rfl (fun c84 => ?_) (fun c84 => ?_)
                                  · skip
                                    refine g_iconst 0 131 (gd rfl) rfl rfl ?_
                                    have n131 : KL s := by exact q_0
                                    have n131a : ((Int32.ofInt 0)).toInt ≠ 0 → (s.2.2.1 30 0).toInt = nln s := by intro h; exact absurd rfl h
                                    have n131b : ((Int32.ofInt 0)).toInt ≠ 0 → (s.2.2.1 2 0).toInt ≤ 3999 := by exact fun h => absurd rfl h
                                    have n131c : ∀ k : Nat, (k : Int) < 7 * (s.2.2.1 2 0).toInt → s.1 30 k = s.1 30 k := by exact fun k _ => rfl
                                    have n131d : ((Int32.ofInt 0)).toInt ≠ 0 → dkC (gvC s) (x1).toInt (V31 s) ∧ gvC s = opC (gvC s) (x1).toInt (V31 s) ∧ TQ s := by intro h; exact absurd rfl h
                                    have n131e : ((Int32.ofInt 0)).toInt = 0 → ¬ dkC (gvC s) (x1).toInt (V31 s) := by intro _ h; have h8 : (0 ≤ (s.1 31 0).toInt ∧ (s.1 31 0).toInt < (s.2.2.1 2 1).toInt) ∧ (0 ≤ (s.1 31 1).toInt ∧ (s.1 31 1).toInt < (s.2.2.1 2 1).toInt) ∧ (-1000000 ≤ (s.1 31 2).toInt ∧ (s.1 31 2).toInt ≤ 1000000) ∧ (0 ≤ (s.1 31 3).toInt ∧ (s.1 31 3).toInt ≤ 1000000) ∧ fpl (ctg (s.1 4)) < 160 := h.2.2.1 (by have a0 := oa5 ((inv_F hI 0 160 rfl e_2_3)) ((inv_F hI 448 28000 rfl e_30_0)) i81x5x9a i1x10 i47; have oc := oc_138_1; omega); rw [show s.1 31 0 = z56 from e56.symm, show s.1 31 1 = z62 from e62.symm, show s.1 31 2 = z68 from e68.symm, show s.1 31 3 = z74 from e74.symm] at h8; rw [← e_2_1] at h8; have h5 := q_4 (by have a0 := oa5 ((inv_F hI 0 160 rfl e_2_3)) ((inv_F hI 448 28000 rfl e_30_0)) i81x5x9a i1x10 i47; have oc := oc_138_1; omega); rw [show s.1 31 4 = z80 from e80.symm] at h5; unfold In at h5; have a0 := oa5 ((inv_F hI 0 160 rfl e_2_3)) ((inv_F hI 448 28000 rfl e_30_0)) i81x5x9a i1x10 i47; have oc := oc_138_1; omega
                                    have n131f : ((Int32.ofInt 0)).toInt ≠ 0 → LGC s s := by intro h; exact absurd rfl h
                                    have n131g : (u_2_0).toInt ≤ (u_2_0).toInt := by exact Int.le_refl _
                                    have n131h : (s.2.2.1 2 0).toInt ≤ (s.2.2.1 2 0).toInt := by have b0 : u_2_0 = s.2.2.1 2 0 := e_2_0; first | (rw [← b0, ← e_2_0]; exact n131g) | (rw [← b0]; exact n131g)
                                    exact g_ireturn (gd rfl) rfl (nb01 (in_w 0 1 (in_c 0 rfl) rfl)) (hP _ _ ⟨(A 30), s, hI, fr_rf, n131h, (Int32.ofInt 0), rfl, (by rw [ax_id]), in_w 0 1 (in_c 0 rfl) rfl, n131, n131a, n131b, n131c, n131d, n131e, n131f⟩)
                                  · skip
                                    exact zn_ne c84 (in_c 0 rfl) rfl
                                · skip
                                  exact zn_ne c81x34 (in_c 0 rfl) rfl
                              · skip
                                have i81x31x8 := r_le1 0 1000000 c81x31x8 i81x31x1 (in_c 1000000 rfl) rfl
                                refine g_iconst 1 12 (gd rfl) rfl rfl ?_
                                refine g_goto 16 (gd rfl) rfl ?_
                                refine g_ireturn (gd rfl) rfl (nb01 (in_w 0 1 (in_c 1 rfl) rfl)) (hp81x31 _ _ ?_)
                                show GG _ _ _ _ _ _ _ _ [.int (Int32.ofInt 1)] _ _ _
                                refine g_if_eq 37 49 (gd rfl) rfl rfl (fun c81x34 => ?_) (fun c81x34 => ?_)
                                · skip
                                  exact zn_eq c81x34 (in_c 1 rfl) rfl
                                · skip
                                  refine g_iload 39 (gd rfl) rfl rfl ?_
                                  refine g_calls (As := [.int z80]) (r := []) 42 (gd rfl) rfl rfl rfl rfl rfl (Nat.le_of_ble_eq_true rfl) (mc := 0) (ms := 0) (Nat.zero_le _) (Nat.zero_le _) (P := fun v u => _) ?_ (fun v u h => h)
                                  intro po81x39 xx81x39 hp81x39 hx81x39
                                  refine g_enter2 (k := 260) (N := 300) (by first | exact dq1 hd rfl | exact dq0 hd rfl | exact dq2 hd rfl | exact dq3 hd rfl | omega) rfl (Nat.le_of_ble_eq_true rfl) ?_
                                  refine g_iload_n 1 (gd rfl) rfl rfl ?_
                                  refine g_if_lt 4 14 (gd rfl) rfl rfl (fun c81x39x1 => ?_) (fun c81x39x1 => ?_)
                                  · skip
                                    have i81x39x1 := z_lt (-2147483648) (-1) c81x39x1 (i_rng z80) rfl
                                    refine g_iconst 0 15 (gd rfl) rfl rfl ?_
                                    refine g_ireturn (gd rfl) rfl (nb01 (in_w 0 1 (in_c 0 rfl) rfl)) (hp81x39 _ _ ?_)
                                    show GG _ _ _ _ _ _ _ _ [.int (Int32.ofInt 0)] _ _ _
                                    refine g_if_eq 45 49 (gd rfl) rfl rfl (fun c81x42 => ?_) (fun c81x42 => ?_)
                                    · skip
                                      refine g_iconst 0 50 (gd rfl) rfl rfl ?_
                                      refine g_ireturn (gd rfl) rfl (nb01 (in_w 0 1 (in_c 0 rfl) rfl)) (hp81 _ _ ?_)
                                      show GG _ _ _ _ _ _ _ _ [.int (Int32.ofInt 0)] _ _ _
                                      refine g_if_eq 87 130 (gd rfl) rfl rfl (fun c84 => ?_) (fun c84 => ?_)
                                      · skip
                                        refine g_iconst 0 131 (gd rfl) rfl rfl ?_
                                        have n131 : KL s := by exact q_0
                                        have n131a : ((Int32.ofInt 0)).toInt ≠ 0 → (s.2.2.1 30 0).toInt = nln s := by intro h; exact absurd rfl h
                                        have n131b : ((Int32.ofInt 0)).toInt ≠ 0 → (s.2.2.1 2 0).toInt ≤ 3999 := by exact fun h => absurd rfl h
                                        have n131c : ∀ k : Nat, (k : Int) < 7 * (s.2.2.1 2 0).toInt → s.1 30 k = s.1 30 k := by exact fun k _ => rfl
                                        have n131d : ((Int32.ofInt 0)).toInt ≠ 0 → dkC (gvC s) (x1).toInt (V31 s) ∧ gvC s = opC (gvC s) (x1).toInt (V31 s) ∧ TQ s := by intro h; exact absurd rfl h
                                        have n131e : ((Int32.ofInt 0)).toInt = 0 → ¬ dkC (gvC s) (x1).toInt (V31 s) := by intro _ h; have h8 : (0 ≤ (s.1 31 0).toInt ∧ (s.1 31 0).toInt < (s.2.2.1 2 1).toInt) ∧ (0 ≤ (s.1 31 1).toInt ∧ (s.1 31 1).toInt < (s.2.2.1 2 1).toInt) ∧ (-1000000 ≤ (s.1 31 2).toInt ∧ (s.1 31 2).toInt ≤ 1000000) ∧ (0 ≤ (s.1 31 3).toInt ∧ (s.1 31 3).toInt ≤ 1000000) ∧ fpl (ctg (s.1 4)) < 160 := h.2.2.1 (by have a0 := oa5 ((inv_F hI 0 160 rfl e_2_3)) ((inv_F hI 448 28000 rfl e_30_0)) i81x5x9a i1x10 i47; have oc := oc_138_1; omega); rw [show s.1 31 0 = z56 from e56.symm, show s.1 31 1 = z62 from e62.symm, show s.1 31 2 = z68 from e68.symm, show s.1 31 3 = z74 from e74.symm] at h8; rw [← e_2_1] at h8; have h5 := q_4 (by have a0 := oa5 ((inv_F hI 0 160 rfl e_2_3)) ((inv_F hI 448 28000 rfl e_30_0)) i81x5x9a i1x10 i47; have oc := oc_138_1; omega); rw [show s.1 31 4 = z80 from e80.symm] at h5; unfold In at h5; have a0 := oa5 ((inv_F hI 0 160 rfl e_2_3)) ((inv_F hI 448 28000 rfl e_30_0)) i81x5x9a i1x10 i47; have oc := oc_138_1; omega
                                        have n131f : ((Int32.ofInt 0)).toInt ≠ 0 → LGC s s := by intro h; exact absurd rfl h
                                        have n131g : (u_2_0).toInt ≤ (u_2_0).toInt := by exact Int.le_refl _
                                        have n131h : (s.2.2.1 2 0).toInt ≤ (s.2.2.1 2 0).toInt := by have b0 : u_2_0 = s.2.2.1 2 0 := e_2_0; first | (rw [← b0, ← e_2_0]; exact n131g) | (rw [← b0]; exact n131g)
                                        exact g_ireturn (gd rfl) rfl (nb01 (in_w 0 1 (in_c 0 rfl) rfl)) (hP _ _ ⟨(A 30), s, hI, fr_rf, n131h, (Int32.ofInt 0), rfl, (by rw [ax_id]), in_w 0 1 (in_c 0 rfl) rfl, n131, n131a, n131b, n131c, n131d, n131e, n131f⟩)
                                      · skip
                                        exact zn_ne c84 (in_c 0 rfl) rfl
                                    · skip
                                      exact zn_ne c81x42 (in_c 0 rfl) rfl
                                  · skip
                                    have i81x39x1 := z_ge 0 2147483647 c81x39x1 (i_rng z80) rfl
                                    refine g_iload_n 5 (gd rfl) rfl rfl ?_
                                    refine g_bipush 26 7 (gd rfl) rfl rfl ?_
                                    refine g_cmp_ge 10 14 (gd rfl) rfl rfl (fun c81x39x7 => ?_) (fun c81x39x7 => ?_)
                                    · skip
                                      have i81x39x7 := r_le2 26 2147483647 c81x39x7 (in_c 26 rfl) i81x39x1 rfl
                                      refine g_iconst 0 15 (gd rfl) rfl rfl ?_
                                      refine g_ireturn (gd rfl) rfl (nb01 (in_w 0 1 (in_c 0 rfl) rfl)) (hp81x39 _ _ ?_)
                                      show GG _ _ _ _ _ _ _ _ [.int (Int32.ofInt 0)] _ _ _
                                      refine g_if_eq 45 49 (gd rfl) rfl rfl (fun c81x42 => ?_) (fun c81x42 => ?_)
                                      · skip
                                        refine g_iconst 0 50 (gd rfl) rfl rfl ?_
                                        refine g_ireturn (gd rfl) rfl (nb01 (in_w 0 1 (in_c 0 rfl) rfl)) (hp81 _ _ ?_)
                                        show GG _ _ _ _ _ _ _ _ [.int (Int32.ofInt 0)] _ _ _
                                        refine g_if_eq 87 130 (gd rfl) rfl rfl (fun c84 => ?_) (fun c84 => ?_)
                                        · skip
                                          refine g_iconst 0 131 (gd rfl) rfl rfl ?_
                                          have n131 : KL s := by exact q_0
                                          have n131a : ((Int32.ofInt 0)).toInt ≠ 0 → (s.2.2.1 30 0).toInt = nln s := by intro h; exact absurd rfl h
                                          have n131b : ((Int32.ofInt 0)).toInt ≠ 0 → (s.2.2.1 2 0).toInt ≤ 3999 := by exact fun h => absurd rfl h
                                          have n131c : ∀ k : Nat, (k : Int) < 7 * (s.2.2.1 2 0).toInt → s.1 30 k = s.1 30 k := by exact fun k _ => rfl
                                          have n131d : ((Int32.ofInt 0)).toInt ≠ 0 → dkC (gvC s) (x1).toInt (V31 s) ∧ gvC s = opC (gvC s) (x1).toInt (V31 s) ∧ TQ s := by intro h; exact absurd rfl h
                                          have n131e : ((Int32.ofInt 0)).toInt = 0 → ¬ dkC (gvC s) (x1).toInt (V31 s) := by intro _ h; have h8 : (0 ≤ (s.1 31 0).toInt ∧ (s.1 31 0).toInt < (s.2.2.1 2 1).toInt) ∧ (0 ≤ (s.1 31 1).toInt ∧ (s.1 31 1).toInt < (s.2.2.1 2 1).toInt) ∧ (-1000000 ≤ (s.1 31 2).toInt ∧ (s.1 31 2).toInt ≤ 1000000) ∧ (0 ≤ (s.1 31 3).toInt ∧ (s.1 31 3).toInt ≤ 1000000) ∧ fpl (ctg (s.1 4)) < 160 := h.2.2.1 (by have a0 := oa5 ((inv_F hI 0 160 rfl e_2_3)) ((inv_F hI 448 28000 rfl e_30_0)) i81x5x9a i1x10 i47; have oc := oc_138_1; omega); rw [show s.1 31 0 = z56 from e56.symm, show s.1 31 1 = z62 from e62.symm, show s.1 31 2 = z68 from e68.symm, show s.1 31 3 = z74 from e74.symm] at h8; rw [← e_2_1] at h8; have h5 := q_4 (by have a0 := oa5 ((inv_F hI 0 160 rfl e_2_3)) ((inv_F hI 448 28000 rfl e_30_0)) i81x5x9a i1x10 i47; have oc := oc_138_1; omega); rw [show s.1 31 4 = z80 from e80.symm] at h5; unfold In at h5; have a0 := oa5 ((inv_F hI 0 160 rfl e_2_3)) ((inv_F hI 448 28000 rfl e_30_0)) i81x5x9a i1x10 i47; have oc := oc_138_1; omega
                                          have n131f : ((Int32.ofInt 0)).toInt ≠ 0 → LGC s s := by intro h; exact absurd rfl h
                                          have n131g : (u_2_0).toInt ≤ (u_2_0).toInt := by exact Int.le_refl _
                                          have n131h : (s.2.2.1 2 0).toInt ≤ (s.2.2.1 2 0).toInt := by have b0 : u_2_0 = s.2.2.1 2 0 := e_2_0; first | (rw [← b0, ← e_2_0]; exact n131g) | (rw [← b0]; exact n131g)
                                          exact g_ireturn (gd rfl) rfl (nb01 (in_w 0 1 (in_c 0 rfl) rfl)) (hP _ _ ⟨(A 30), s, hI, fr_rf, n131h, (Int32.ofInt 0), rfl, (by rw [ax_id]), in_w 0 1 (in_c 0 rfl) rfl, n131, n131a, n131b, n131c, n131d, n131e, n131f⟩)
                                        · skip
                                          exact zn_ne c84 (in_c 0 rfl) rfl
                                      · skip
                                        exact zn_ne c81x42 (in_c 0 rfl) rfl
                                    · skip
                                      have i81x39x7 := r_lt1 0 25 c81x39x7 i81x39x1 (in_c 26 rfl) rfl
                                      refine g_iconst 1 11 (gd rfl) rfl rfl ?_
                                      refine g_goto 15 (gd rfl) rfl ?_
                                      refine g_ireturn (gd rfl) rfl (nb01 (in_w 0 1 (in_c 1 rfl) rfl)) (hp81x39 _ _ ?_)
                                      show GG _ _ _ _ _ _ _ _ [.int (Int32.ofInt 1)] _ _ _
                                      refine g_if_eq 45 49 (gd rfl) rfl rfl (fun c81x42 => ?_) (fun c81x42 => ?_)
                                      · skip
                                        exact zn_eq c81x42 (in_c 1 rfl) rfl
                                      · skip
                                        refine g_iconst 1 46 (gd rfl) rfl rfl ?_
                                        refine g_goto 50 (gd rfl) rfl ?_
                                        refine g_ireturn (gd rfl) rfl (nb01 (in_w 0 1 (in_c 1 rfl) rfl)) (hp81 _ _ ?_)
                                        show GG _ _ _ _ _ _ _ _ [.int (Int32.ofInt 1)] _ _ _
                                        refine g_if_eq 87 130 (gd rfl) rfl rfl (fun c84 => ?_) (fun c84 => ?_)
                                        · skip
                                          exact zn_eq c84 (in_c 1 rfl) rfl
                                        · skip
                                          refine g_aload_n 88 (gd rfl) rfl rfl ?_
                                          refine g_aload_n 89 (gd rfl) rfl rfl ?_
                                          refine g_getA (q2 := 31) 92 (gd rfl) rfl rfl rfl rfl ?_
                                          refine g_iconst 0 93 (gd rfl) rfl rfl ?_
                                          refine g_iaload 94 (gd rfl) rfl (n := 5) rfl (in_ix (in_c 0 rfl) rfl) (fun z93 e93 => ?_)
                                          have q93 : z56 = z93 := (e56).trans e93.symm
                                          subst q93
                                          refine g_aload_n 95 (gd rfl) rfl rfl ?_
                                          refine g_getA (q2 := 31) 98 (gd rfl) rfl rfl rfl rfl ?_
                                          refine g_iconst 1 99 (gd rfl) rfl rfl ?_
                                          refine g_iaload 100 (gd rfl) rfl (n := 5) rfl (in_ix (in_c 1 rfl) rfl) (fun z99 e99 => ?_)
                                          have q99 : z62 = z99 := (e62).trans e99.symm
                                          subst q99
                                          refine g_aload_n 101 (gd rfl) rfl rfl ?_
                                          refine g_getA (q2 := 31) 104 (gd rfl) rfl rfl rfl rfl ?_
                                          refine g_iconst 2 105 (gd rfl) rfl rfl ?_
                                          refine g_iaload 106 (gd rfl) rfl (n := 5) rfl (in_ix (in_c 2 rfl) rfl) (fun z105 e105 => ?_)
                                          have q105 : z68 = z105 := (e68).trans e105.symm
                                          subst q105
                                          refine g_aload_n 107 (gd rfl) rfl rfl ?_
                                          refine g_getA (q2 := 31) 110 (gd rfl) rfl rfl rfl rfl ?_
                                          refine g_iconst 3 111 (gd rfl) rfl rfl ?_
                                          refine g_iaload 112 (gd rfl) rfl (n := 5) rfl (in_ix (in_c 3 rfl) rfl) (fun z111 e111 => ?_)
                                          have q111 : z74 = z111 := (e74).trans e111.symm
                                          subst q111
                                          refine g_aload_n 113 (gd rfl) rfl rfl ?_
                                          refine g_getA (q2 := 31) 116 (gd rfl) rfl rfl rfl rfl ?_
                                          refine g_iconst 4 117 (gd rfl) rfl rfl ?_
                                          refine g_iaload 118 (gd rfl) rfl (n := 5) rfl (in_ix (in_c 4 rfl) rfl) (fun z117 e117 => ?_)
                                          have q117 : z80 = z117 := (e80).trans e117.symm
                                          subst q117
                                          have n118 : (z56).toInt < (u_2_1).toInt := by have a0 := oa6 ((inv_F hI 0 160 rfl e_2_3)) ((inv_F hI 448 28000 rfl e_30_0)) i81x5x9a i1x10 i47 i81x5x9; have oc := oc_138_1; omega
                                          have n118a : (z62).toInt < (u_2_1).toInt := by have a0 := oa6 ((inv_F hI 0 160 rfl e_2_3)) ((inv_F hI 448 28000 rfl e_30_0)) i81x5x9a i1x10 i47 i81x16x9; have oc := oc_138_1; omega
                                          have p118 : KL s := by exact q_0
                                          refine g_callv (X := _) (As := [.int z56, .int z62, .int z68, .int z74, .int z80]) (r := []) (b := A 1) (q := 1) 121 (gd rfl) rfl rfl rfl rfl rfl (ww_o rfl) (Nat.le_of_ble_eq_true rfl) (Nat.le_of_eq (lc_cg ((show Fr ([], [], [], []) s s from fr_rf).2.2.1 30 0 rfl) ((show Fr ([], [], [], []) s s from fr_rf).2.2.1 2 0 rfl)).1) (Nat.le_of_eq (lc_cg ((show Fr ([], [], [], []) s s from fr_rf).2.2.1 30 0 rfl) ((show Fr ([], [], [], []) s s from fr_rf).2.2.1 2 0 rfl)).2.1) (f_125_1 (by first | exact dq1 hd rfl | exact dq0 hd rfl | exact dq2 hd rfl | exact dq3 hd rfl | omega) hI (in_w 0 31 i81x5x9 rfl) (in_w 0 31 i81x16x9 rfl) (in_w (-1000000) 1000000 i81x23x11 rfl) (in_w 0 1000000 i81x31x8 rfl) (in_w 0 25 i81x39x7 rfl) e_2_0 e_2_1 e_30_0 (in_w 0 3999 i1x10 rfl) n118 n118a p118) (fun e u h => h) (fun v u h => ?_)
                                          obtain ⟨a118, s118, hI118, hF118, n118b, z118, rfl, rfl, i118, p118a, p118b, p118c, p118d, p118e, p118f, p118g, p118h⟩ := h
                                          obtain ⟨z118a, e118⟩ : ∃ w, w = s118.2.2.1 2 0 := ⟨_, rfl⟩
                                          have i118a := inv_F hI118 0 4000 rfl e118
                                          rw [← (show u_2_0 = s.2.2.1 2 0 from e_2_0)] at n118b
                                          rw [← (show z118a = s118.2.2.1 2 0 from e118)] at n118b
                                          show GG _ _ _ _ _ _ _ _ [.int z118] _ _ _
                                          refine g_bipush (-3) 123 (gd rfl) rfl rfl ?_
                                          refine g_cmp_eq 126 130 (gd rfl) rfl rfl (fun c123 => ?_) (fun c123 => ?_)
                                          · skip
                                            have i123 := r_eq1 (-3) (-3) c123 i118 (in_c (-3) rfl) rfl
                                            refine g_iconst 0 131 (gd rfl) rfl rfl ?_
                                            have n131 : KL s118 := by exact p118a
                                            have n131a : ((Int32.ofInt 0)).toInt ≠ 0 → (s118.2.2.1 30 0).toInt = nln s := by exact fun h => absurd rfl h
                                            have n131b : ((Int32.ofInt 0)).toInt ≠ 0 → (s.2.2.1 2 0).toInt ≤ 3999 := by exact fun h => absurd rfl h
                                            have n131c : ∀ k : Nat, (k : Int) < 7 * (s.2.2.1 2 0).toInt → s118.1 30 k = s.1 30 k := by exact p118d
                                            have n131d : ((Int32.ofInt 0)).toInt ≠ 0 → dkC (gvC s) (x1).toInt (V31 s) ∧ gvC s118 = opC (gvC s) (x1).toInt (V31 s) ∧ TQ s118 := by exact fun h => absurd rfl h
                                            have n131e : ((Int32.ofInt 0)).toInt = 0 → ¬ dkC (gvC s) (x1).toInt (V31 s) := by first | (intro h; exact absurd h (by decide)) | (intro _ h; have h8 : (0 ≤ (s.1 31 0).toInt ∧ (s.1 31 0).toInt < (s.2.2.1 2 1).toInt) ∧ (0 ≤ (s.1 31 1).toInt ∧ (s.1 31 1).toInt < (s.2.2.1 2 1).toInt) ∧ (-1000000 ≤ (s.1 31 2).toInt ∧ (s.1 31 2).toInt ≤ 1000000) ∧ (0 ≤ (s.1 31 3).toInt ∧ (s.1 31 3).toInt ≤ 1000000) ∧ fpl (ctg (s.1 4)) < 160 := h.2.2.1 (by have a0 := oa6 ((inv_F hI 0 160 rfl e_2_3)) ((inv_F hI 448 28000 rfl e_30_0)) i81x5x9a i1x10 i47 i118a; have oc := oc_138_1; omega); rw [(p118e (by have a0 := oa6 ((inv_F hI 0 160 rfl e_2_3)) ((inv_F hI 448 28000 rfl e_30_0)) i81x5x9a i1x10 i47 i118a; have oc := oc_138_1; omega)).2] at h8; exact absurd h8.2.2.2.2 (by decide))
                                            have n131f : ((Int32.ofInt 0)).toInt ≠ 0 → LGC s s118 := by exact fun h => absurd rfl h
                                            have n131g : (u_2_0).toInt ≤ (z118a).toInt := by have a0 := oa6 ((inv_F hI 0 160 rfl e_2_3)) ((inv_F hI 448 28000 rfl e_30_0)) i81x5x9a i1x10 i47 i118a; have oc := oc_138_1; omega
                                            have n131h : (s.2.2.1 2 0).toInt ≤ (s118.2.2.1 2 0).toInt := by have b0 : z118a = s118.2.2.1 2 0 := e118; first | (rw [← b0, ← e_2_0]; exact n131g) | (rw [← b0]; exact n131g)
                                            exact g_ireturn (gd rfl) rfl (nb01 (in_w 0 1 (in_c 0 rfl) rfl)) (hP _ _ ⟨a118, s118, hI118, (fr_tr rfl fr_rf hF118), n131h, (Int32.ofInt 0), rfl, rfl, in_w 0 1 (in_c 0 rfl) rfl, n131, n131a, n131b, n131c, n131d, n131e, n131f⟩)
                                          · skip
                                            have i123 := r_ne1 (-2) 159 c123 i118 (in_c (-3) rfl) rfl
                                            refine g_iconst 1 127 (gd rfl) rfl rfl ?_
                                            refine g_goto 131 (gd rfl) rfl ?_
                                            have n131 : KL s118 := by exact p118a
                                            have n131a : ((Int32.ofInt 1)).toInt ≠ 0 → (s118.2.2.1 30 0).toInt = nln s := by first | (intro h; exact absurd rfl h) | (intro _; exact p118b (by have c3 : (Int32.ofInt (-3)).toInt = -3 := (by decide); omega))
                                            have n131b : ((Int32.ofInt 1)).toInt ≠ 0 → (s.2.2.1 2 0).toInt ≤ 3999 := by first | (intro h; exact absurd rfl h) | (intro _; rw [← e_2_0]; have a0 := oa6 ((inv_F hI 0 160 rfl e_2_3)) ((inv_F hI 448 28000 rfl e_30_0)) i81x5x9a i1x10 i47 i118a; have oc := oc_138_1; omega)
                                            have n131c : ∀ k : Nat, (k : Int) < 7 * (s.2.2.1 2 0).toInt → s118.1 30 k = s.1 30 k := by exact p118d
                                            have n131d : ((Int32.ofInt 1)).toInt ≠ 0 → dkC (gvC s) (x1).toInt (V31 s) ∧ gvC s118 = opC (gvC s) (x1).toInt (V31 s) ∧ TQ s118 := by first | (intro h; exact absurd rfl h) | (intro _; exact ⟨dk_0 (by have a0 := oa6 ((inv_F hI 0 160 rfl e_2_3)) ((inv_F hI 448 28000 rfl e_30_0)) i81x5x9a i1x10 i47 i118a; have oc := oc_138_1; omega) (show (s.2.2.1 2 0).toInt ≤ 3999 from by rw [← e_2_0]; have a0 := oa6 ((inv_F hI 0 160 rfl e_2_3)) ((inv_F hI 448 28000 rfl e_30_0)) i81x5x9a i1x10 i47 i118a; have oc := oc_138_1; omega) (show (0 ≤ (s.1 31 0).toInt ∧ (s.1 31 0).toInt < (s.2.2.1 2 1).toInt) ∧ (0 ≤ (s.1 31 1).toInt ∧ (s.1 31 1).toInt < (s.2.2.1 2 1).toInt) ∧ (-1000000 ≤ (s.1 31 2).toInt ∧ (s.1 31 2).toInt ≤ 1000000) ∧ (0 ≤ (s.1 31 3).toInt ∧ (s.1 31 3).toInt ≤ 1000000) ∧ fpl (ctg (s.1 4)) < 160 from by rw [show s.1 31 0 = z56 from e56.symm, show s.1 31 1 = z62 from e62.symm, show s.1 31 2 = z68 from e68.symm, show s.1 31 3 = z74 from e74.symm, ← e_2_1, (p118f (by have a0 := oa6 ((inv_F hI 0 160 rfl e_2_3)) ((inv_F hI 448 28000 rfl e_30_0)) i81x5x9a i1x10 i47 i118a; have oc := oc_138_1; omega)).2.1]; refine ⟨⟨by have a0 := oa6 ((inv_F hI 0 160 rfl e_2_3)) ((inv_F hI 448 28000 rfl e_30_0)) i81x5x9a i1x10 i47 i118a; have oc := oc_138_1; omega, by have a0 := oa6 ((inv_F hI 0 160 rfl e_2_3)) ((inv_F hI 448 28000 rfl e_30_0)) i81x5x9a i1x10 i47 i118a; have oc := oc_138_1; omega⟩, ⟨by have a0 := oa6 ((inv_F hI 0 160 rfl e_2_3)) ((inv_F hI 448 28000 rfl e_30_0)) i81x5x9a i1x10 i47 i118a; have oc := oc_138_1; omega, by have a0 := oa6 ((inv_F hI 0 160 rfl e_2_3)) ((inv_F hI 448 28000 rfl e_30_0)) i81x5x9a i1x10 i47 i118a; have oc := oc_138_1; omega⟩, ⟨by have a0 := oa6 ((inv_F hI 0 160 rfl e_2_3)) ((inv_F hI 448 28000 rfl e_30_0)) i81x5x9a i1x10 i47 i118a; have oc := oc_138_1; omega, by have a0 := oa6 ((inv_F hI 0 160 rfl e_2_3)) ((inv_F hI 448 28000 rfl e_30_0)) i81x5x9a i1x10 i47 i118a; have oc := oc_138_1; omega⟩, ⟨by have a0 := oa6 ((inv_F hI 0 160 rfl e_2_3)) ((inv_F hI 448 28000 rfl e_30_0)) i81x5x9a i1x10 i47 i118a; have oc := oc_138_1; omega, by have a0 := oa6 ((inv_F hI 0 160 rfl e_2_3)) ((inv_F hI 448 28000 rfl e_30_0)) i81x5x9a i1x10 i47 i118a; have oc := oc_138_1; omega⟩, ?_⟩; have h18 := i118; unfold In at h18; show z118.toInt.toNat < 160; omega), by rw [(p118f (by have a0 := oa6 ((inv_F hI 0 160 rfl e_2_3)) ((inv_F hI 448 28000 rfl e_30_0)) i81x5x9a i1x10 i47 i118a; have oc := oc_138_1; omega)).1, opC_0 (by have a0 := oa6 ((inv_F hI 0 160 rfl e_2_3)) ((inv_F hI 448 28000 rfl e_30_0)) i81x5x9a i1x10 i47 i118a; have oc := oc_138_1; omega) (p118f (by have a0 := oa6 ((inv_F hI 0 160 rfl e_2_3)) ((inv_F hI 448 28000 rfl e_30_0)) i81x5x9a i1x10 i47 i118a; have oc := oc_138_1; omega)).2.1, show s.1 31 0 = z56 from e56.symm, show s.1 31 1 = z62 from e62.symm, show s.1 31 2 = z68 from e68.symm, show s.1 31 3 = z74 from e74.symm, show s.1 31 4 = z80 from e80.symm], p118g q_3⟩)
                                            have n131e : ((Int32.ofInt 1)).toInt = 0 → ¬ dkC (gvC s) (x1).toInt (V31 s) := by exact fun h => absurd h (by decide)
                                            have n131f : ((Int32.ofInt 1)).toInt ≠ 0 → LGC s s118 := by first | (intro h; exact absurd rfl h) | (intro _; exact lgc_a p118d (p118f (by have a0 := oa6 ((inv_F hI 0 160 rfl e_2_3)) ((inv_F hI 448 28000 rfl e_30_0)) i81x5x9a i1x10 i47 i118a; have oc := oc_138_1; omega)).1 (p118h (by have a0 := oa6 ((inv_F hI 0 160 rfl e_2_3)) ((inv_F hI 448 28000 rfl e_30_0)) i81x5x9a i1x10 i47 i118a; have oc := oc_138_1; omega)))
                                            have n131g : (u_2_0).toInt ≤ (z118a).toInt := by have a0 := oa6 ((inv_F hI 0 160 rfl e_2_3)) ((inv_F hI 448 28000 rfl e_30_0)) i81x5x9a i1x10 i47 i118a; have oc := oc_138_1; omega
                                            have n131h : (s.2.2.1 2 0).toInt ≤ (s118.2.2.1 2 0).toInt := by have b0 : z118a = s118.2.2.1 2 0 := e118; first | (rw [← b0, ← e_2_0]; exact n131g) | (rw [← b0]; exact n131g)
                                            exact g_ireturn (gd rfl) rfl (nb01 (in_w 0 1 (in_c 1 rfl) rfl)) (hP _ _ ⟨a118, s118, hI118, (fr_tr rfl fr_rf hF118), n131h, (Int32.ofInt 1), rfl, rfl, in_w 0 1 (in_c 1 rfl) rfl, n131, n131a, n131b, n131c, n131d, n131e, n131f⟩)
      · skip
        have i12 := r_eq1 13 13 c12 h1 (in_c 13 rfl) rfl
        refine g_aload_n 16 (gd rfl) rfl rfl ?_
        refine g_getA (q2 := 2) 19 (gd rfl) rfl rfl rfl rfl ?_
        refine g_getI 22 (gd rfl) rfl rfl rfl (fun z19 e19 => ?_)
        have q19 : u_2_1 = z19 := (e_2_1).trans e19.symm
        subst q19
        refine g_bipush 32 24 (gd rfl) rfl rfl ?_
        refine g_cmp_ge 27 44 (gd rfl) rfl rfl (fun c24 => ?_) (fun c24 => ?_)
        · skip
          have i24 := r_le2 32 32 c24 (in_c 32 rfl) (inv_F hI 0 32 rfl e_2_1) rfl
          refine g_iconst 0 45 (gd rfl) rfl rfl ?_
          have n45 : KL s := by exact q_0
          have n45a : ((Int32.ofInt 0)).toInt ≠ 0 → (s.2.2.1 30 0).toInt = nln s := by intro h; exact absurd rfl h
          have n45b : ((Int32.ofInt 0)).toInt ≠ 0 → (s.2.2.1 2 0).toInt ≤ 3999 := by exact fun h => absurd rfl h
          have n45c : ∀ k : Nat, (k : Int) < 7 * (s.2.2.1 2 0).toInt → s.1 30 k = s.1 30 k := by exact fun k _ => rfl
          have n45d : ((Int32.ofInt 0)).toInt ≠ 0 → dkC (gvC s) (x1).toInt (V31 s) ∧ gvC s = opC (gvC s) (x1).toInt (V31 s) ∧ TQ s := by intro h; exact absurd rfl h
          have n45e : ((Int32.ofInt 0)).toInt = 0 → ¬ dkC (gvC s) (x1).toInt (V31 s) := by intro _ h; first | (have h9 : (s.2.2.1 2 0).toInt ≤ 3999 := h.1; rw [← e_2_0] at h9; have a0 := oa5 ((inv_F hI 0 160 rfl e_2_3)) ((inv_F hI 448 28000 rfl e_30_0)) i24 i1x10 i12; have oc := oc_138_1; omega) | (have h9 : (s.2.2.1 2 1).toInt ≤ 31 := h.2.1 (by have a0 := oa5 ((inv_F hI 0 160 rfl e_2_3)) ((inv_F hI 448 28000 rfl e_30_0)) i24 i1x10 i12; have oc := oc_138_1; omega); rw [← e_2_1] at h9; have a0 := oa5 ((inv_F hI 0 160 rfl e_2_3)) ((inv_F hI 448 28000 rfl e_30_0)) i24 i1x10 i12; have oc := oc_138_1; omega)
          have n45f : ((Int32.ofInt 0)).toInt ≠ 0 → LGC s s := by intro h; exact absurd rfl h
          have n45g : (u_2_0).toInt ≤ (u_2_0).toInt := by exact Int.le_refl _
          have n45h : (s.2.2.1 2 0).toInt ≤ (s.2.2.1 2 0).toInt := by have b0 : u_2_0 = s.2.2.1 2 0 := e_2_0; first | (rw [← b0, ← e_2_0]; exact n45g) | (rw [← b0]; exact n45g)
          exact g_ireturn (gd rfl) rfl (nb01 (in_w 0 1 (in_c 0 rfl) rfl)) (hP _ _ ⟨(A 30), s, hI, fr_rf, n45h, (Int32.ofInt 0), rfl, (by rw [ax_id]), in_w 0 1 (in_c 0 rfl) rfl, n45, n45a, n45b, n45c, n45d, n45e, n45f⟩)
        · skip
          have i24 := r_lt1 0 31 c24 (inv_F hI 0 32 rfl e_2_1) (in_c 32 rfl) rfl
          refine g_aload_n 28 (gd rfl) rfl rfl ?_
          refine g_aload_n 29 (gd rfl) rfl rfl ?_
          refine g_getA (q2 := 31) 32 (gd rfl) rfl rfl rfl rfl ?_
          refine g_iconst 0 33 (gd rfl) rfl rfl ?_
          refine g_iaload 34 (gd rfl) rfl (n := 5) rfl (in_ix (in_c 0 rfl) rfl) (fun z33 e33 => ?_)
          have i34 : In z33 0 25 := by rw [e33]; exact q_1 (c12.trans (by decide))
          have p34 : KL s := by exact q_0
          refine g_callv (X := _) (As := [.int z33]) (r := []) (b := A 1) (q := 1) 37 (gd rfl) rfl rfl rfl rfl rfl (ww_o rfl) (Nat.le_of_ble_eq_true rfl) (Nat.le_of_eq (lc_cg ((show Fr ([], [], [], []) s s from fr_rf).2.2.1 30 0 rfl) ((show Fr ([], [], [], []) s s from fr_rf).2.2.1 2 0 rfl)).1) (Nat.le_of_eq (lc_cg ((show Fr ([], [], [], []) s s from fr_rf).2.2.1 30 0 rfl) ((show Fr ([], [], [], []) s s from fr_rf).2.2.1 2 0 rfl)).2.1) (f_124_1 (by first | exact dq1 hd rfl | exact dq0 hd rfl | exact dq2 hd rfl | exact dq3 hd rfl | omega) hI (in_w 0 25 i34 rfl) e_2_0 e_2_1 e_30_0 (in_w 0 3999 i1x10 rfl) (in_w 0 31 i24 rfl) p34) (fun e u h => h) (fun v u h => ?_)
          obtain ⟨a34, s34, hI34, hF34, n34, z34, rfl, rfl, i34a, p34a, p34b, p34c, p34d, p34e, p34f, p34g⟩ := h
          obtain ⟨z34a, e34⟩ : ∃ w, w = s34.2.2.1 2 0 := ⟨_, rfl⟩
          have i34b := inv_F hI34 0 4000 rfl e34
          rw [← (show u_2_0 = s.2.2.1 2 0 from e_2_0)] at n34
          rw [← (show z34a = s34.2.2.1 2 0 from e34)] at n34
          show GG _ _ _ _ _ _ _ _ [.int z34] _ _ _
          refine g_if_lt 40 44 (gd rfl) rfl rfl (fun c37 => ?_) (fun c37 => ?_)
          · skip
            have i37 := z_lt (-1) (-1) c37 i34a rfl
            refine g_iconst 0 45 (gd rfl) rfl rfl ?_
            have n45 : KL s34 := by exact p34a
            have n45a : ((Int32.ofInt 0)).toInt ≠ 0 → (s34.2.2.1 30 0).toInt = nln s := by intro _; exact p34b
            have n45b : ((Int32.ofInt 0)).toInt ≠ 0 → (s.2.2.1 2 0).toInt ≤ 3999 := by exact fun h => absurd rfl h
            have n45c : ∀ k : Nat, (k : Int) < 7 * (s.2.2.1 2 0).toInt → s34.1 30 k = s.1 30 k := by exact p34d
            have n45d : ((Int32.ofInt 0)).toInt ≠ 0 → dkC (gvC s) (x1).toInt (V31 s) ∧ gvC s34 = opC (gvC s) (x1).toInt (V31 s) ∧ TQ s34 := by exact fun h => absurd rfl h
            have n45e : ((Int32.ofInt 0)).toInt = 0 → ¬ dkC (gvC s) (x1).toInt (V31 s) := by first | (intro h; exact absurd h (by decide)) | (intro _ h; have hn : (s34.2.2.1 2 1).toInt = (s.2.2.1 2 1).toInt + 1 := congrArg (fun g : GVW => g.2.2.2.2.2.2.1) p34e; rw [← e_2_1] at hn; have a0 := oa6 ((inv_F hI 0 160 rfl e_2_3)) ((inv_F hI 448 28000 rfl e_30_0)) i24 i1x10 i12 i34b; have oc := oc_138_1; omega)
            have n45f : ((Int32.ofInt 0)).toInt ≠ 0 → LGC s s34 := by first | (intro h; exact absurd rfl h) | (intro _; exact lgc_n p34d p34e p34g (inv_F hI (z := s.2.2.1 2 1) 0 32 rfl rfl).1)
            have n45g : (u_2_0).toInt ≤ (z34a).toInt := by have a0 := oa6 ((inv_F hI 0 160 rfl e_2_3)) ((inv_F hI 448 28000 rfl e_30_0)) i24 i1x10 i12 i34b; have oc := oc_138_1; omega
            have n45h : (s.2.2.1 2 0).toInt ≤ (s34.2.2.1 2 0).toInt := by have b0 : z34a = s34.2.2.1 2 0 := e34; first | (rw [← b0, ← e_2_0]; exact n45g) | (rw [← b0]; exact n45g)
            exact g_ireturn (gd rfl) rfl (nb01 (in_w 0 1 (in_c 0 rfl) rfl)) (hP _ _ ⟨a34, s34, hI34, (fr_tr rfl fr_rf hF34), n45h, (Int32.ofInt 0), rfl, rfl, in_w 0 1 (in_c 0 rfl) rfl, n45, n45a, n45b, n45c, n45d, n45e, n45f⟩)
          · skip
            have i37 := z_ge 0 31 c37 i34a rfl
            refine g_iconst 1 41 (gd rfl) rfl rfl ?_
            refine g_goto 45 (gd rfl) rfl ?_
            have n45 : KL s34 := by exact p34a
            have n45a : ((Int32.ofInt 1)).toInt ≠ 0 → (s34.2.2.1 30 0).toInt = nln s := by intro _; exact p34b
            have n45b : ((Int32.ofInt 1)).toInt ≠ 0 → (s.2.2.1 2 0).toInt ≤ 3999 := by first | (intro h; exact absurd rfl h) | (intro _; rw [← e_2_0]; have a0 := oa6 ((inv_F hI 0 160 rfl e_2_3)) ((inv_F hI 448 28000 rfl e_30_0)) i24 i1x10 i12 i34b; have oc := oc_138_1; omega)
            have n45c : ∀ k : Nat, (k : Int) < 7 * (s.2.2.1 2 0).toInt → s34.1 30 k = s.1 30 k := by exact p34d
            have n45d : ((Int32.ofInt 1)).toInt ≠ 0 → dkC (gvC s) (x1).toInt (V31 s) ∧ gvC s34 = opC (gvC s) (x1).toInt (V31 s) ∧ TQ s34 := by first | (intro h; exact absurd rfl h) | (intro _; exact ⟨dk_13 (by have a0 := oa6 ((inv_F hI 0 160 rfl e_2_3)) ((inv_F hI 448 28000 rfl e_30_0)) i24 i1x10 i12 i34b; have oc := oc_138_1; omega) (show (s.2.2.1 2 0).toInt ≤ 3999 from by rw [← e_2_0]; have a0 := oa6 ((inv_F hI 0 160 rfl e_2_3)) ((inv_F hI 448 28000 rfl e_30_0)) i24 i1x10 i12 i34b; have oc := oc_138_1; omega) (show (s.2.2.1 2 1).toInt ≤ 31 from by rw [← e_2_1]; have a0 := oa6 ((inv_F hI 0 160 rfl e_2_3)) ((inv_F hI 448 28000 rfl e_30_0)) i24 i1x10 i12 i34b; have oc := oc_138_1; omega), by rw [p34e, opC_13 (by have a0 := oa6 ((inv_F hI 0 160 rfl e_2_3)) ((inv_F hI 448 28000 rfl e_30_0)) i24 i1x10 i12 i34b; have oc := oc_138_1; omega), show s.1 31 0 = z33 from e33.symm], p34f q_3⟩)
            have n45e : ((Int32.ofInt 1)).toInt = 0 → ¬ dkC (gvC s) (x1).toInt (V31 s) := by exact fun h => absurd h (by decide)
            have n45f : ((Int32.ofInt 1)).toInt ≠ 0 → LGC s s34 := by first | (intro h; exact absurd rfl h) | (intro _; exact lgc_n p34d p34e p34g (inv_F hI (z := s.2.2.1 2 1) 0 32 rfl rfl).1)
            have n45g : (u_2_0).toInt ≤ (z34a).toInt := by have a0 := oa6 ((inv_F hI 0 160 rfl e_2_3)) ((inv_F hI 448 28000 rfl e_30_0)) i24 i1x10 i12 i34b; have oc := oc_138_1; omega
            have n45h : (s.2.2.1 2 0).toInt ≤ (s34.2.2.1 2 0).toInt := by have b0 : z34a = s34.2.2.1 2 0 := e34; first | (rw [← b0, ← e_2_0]; exact n45g) | (rw [← b0]; exact n45g)
            exact g_ireturn (gd rfl) rfl (nb01 (in_w 0 1 (in_c 1 rfl) rfl)) (hP _ _ ⟨a34, s34, hI34, (fr_tr rfl fr_rf hF34), n45h, (Int32.ofInt 1), rfl, rfl, in_w 0 1 (in_c 1 rfl) rfl, n45, n45a, n45b, n45c, n45d, n45e, n45f⟩)
    · skip
      exact zn_ne c4 (in_c 0 rfl) rfl
  · skip
    have i1x10 := r_le2 4000 4000 c1x10 (in_c 4000 rfl) (inv_F hI 0 4000 rfl e_2_0) rfl
    refine g_iconst 1 14 (gd rfl) rfl rfl ?_
    refine g_goto 18 (gd rfl) rfl ?_
    refine g_ireturn (gd rfl) rfl (nb01 (in_w 0 1 (in_c 1 rfl) rfl)) (hp1 _ _ ?_)
    show GG _ _ _ _ _ _ _ _ [.int (Int32.ofInt 1)] _ _ _
    refine g_if_eq 7 9 (gd rfl) rfl rfl (fun c4 => ?_) (fun c4 => ?_)
    · skip
      exact zn_eq c4 (in_c 1 rfl) rfl
    · skip
      refine g_iconst 0 8 (gd rfl) rfl rfl ?_
      have n8 : KL s := by exact q_0
      have n8a : ((Int32.ofInt 0)).toInt ≠ 0 → (s.2.2.1 30 0).toInt = nln s := by intro h; exact absurd rfl h
      have n8b : ((Int32.ofInt 0)).toInt ≠ 0 → (s.2.2.1 2 0).toInt ≤ 3999 := by exact fun h => absurd rfl h
      have n8c : ∀ k : Nat, (k : Int) < 7 * (s.2.2.1 2 0).toInt → s.1 30 k = s.1 30 k := by exact fun k _ => rfl
      have n8d : ((Int32.ofInt 0)).toInt ≠ 0 → dkC (gvC s) (x1).toInt (V31 s) ∧ gvC s = opC (gvC s) (x1).toInt (V31 s) ∧ TQ s := by intro h; exact absurd rfl h
      have n8e : ((Int32.ofInt 0)).toInt = 0 → ¬ dkC (gvC s) (x1).toInt (V31 s) := by intro _ h; first | (have h9 : (s.2.2.1 2 0).toInt ≤ 3999 := h.1; rw [← e_2_0] at h9; have a0 := oa5 ((inv_F hI 0 160 rfl e_2_3)) ((inv_F hI 448 28000 rfl e_30_0)) ((inv_F hI 0 32 rfl e_2_1)) i1x10 h1; have oc := oc_138_1; omega) | (have h9 : (s.2.2.1 2 1).toInt ≤ 31 := h.2.1 (by have a0 := oa5 ((inv_F hI 0 160 rfl e_2_3)) ((inv_F hI 448 28000 rfl e_30_0)) ((inv_F hI 0 32 rfl e_2_1)) i1x10 h1; have oc := oc_138_1; omega); rw [← e_2_1] at h9; have a0 := oa5 ((inv_F hI 0 160 rfl e_2_3)) ((inv_F hI 448 28000 rfl e_30_0)) ((inv_F hI 0 32 rfl e_2_1)) i1x10 h1; have oc := oc_138_1; omega)
      have n8f : ((Int32.ofInt 0)).toInt ≠ 0 → LGC s s := by intro h; exact absurd rfl h
      have n8g : (u_2_0).toInt ≤ (u_2_0).toInt := by exact Int.le_refl _
      have n8h : (s.2.2.1 2 0).toInt ≤ (s.2.2.1 2 0).toInt := by have b0 : u_2_0 = s.2.2.1 2 0 := e_2_0; first | (rw [← b0, ← e_2_0]; exact n8g) | (rw [← b0]; exact n8g)
      exact g_ireturn (gd rfl) rfl (nb01 (in_w 0 1 (in_c 0 rfl) rfl)) (hP _ _ ⟨(A 30), s, hI, fr_rf, n8h, (Int32.ofInt 0), rfl, (by rw [ax_id]), in_w 0 1 (in_c 0 rfl) rfl, n8, n8a, n8b, n8c, n8d, n8e, n8f⟩)
end
section
/-! FUNCTIONAL CONTRACTS, by fgen.py -/
theorem oc_136_1_46 : (Int32.ofInt (-1)).toInt = (-1) ∧ (Int32.ofInt 0).toInt = 0 ∧ (Int32.ofInt 1).toInt = 1 ∧ (Int32.ofInt 2).toInt = 2 ∧ (Int32.ofInt 3).toInt = 3 ∧ (Int32.ofInt 4).toInt = 4 ∧ (Int32.ofInt 7).toInt = 7 ∧ (Int32.ofInt 59).toInt = 59 ∧ (Int32.ofInt 108).toInt = 108 := ⟨rfl, rfl, rfl, rfl, rfl, rfl, rfl, rfl, rfl⟩
/-- GraphHouse$Ledger.readCommand -/
theorem f_136_1_46 {Z : AmZ} {A : Nat → Nat} {s : GS} {ex : va_W} {d : Nat} {X : AmX} {u_2_0 : Int32} {u_2_1 : Int32} {u_30_0 : Int32} {u_46_2 : Int32} {u_46_1 : Int32} {u_46_3 : Int32} {u_46_4 : Int32} {u_46_5 : Int32} (hd : 9 ≤ d) (hI : Inv s) (e_2_0 : u_2_0 = s.2.2.1 2 0) (e_2_1 : u_2_1 = s.2.2.1 2 1) (e_30_0 : u_30_0 = s.2.2.1 30 0) (e_46_2 : u_46_2 = s.2.2.1 46 2) (e_46_1 : u_46_1 = s.2.2.1 46 1) (e_46_3 : u_46_3 = s.2.2.1 46 3) (e_46_4 : u_46_4 = s.2.2.1 46 4) (e_46_5 : u_46_5 = s.2.2.1 46 5) (p_0 : (u_46_2).toInt ≤ (u_46_1).toInt) (q_0 : KL s) (q_1 : (s.2.2.1 46 3).toInt = 1 → In (s.2.2.1 46 5) 0 25) (q_2 : ∃ a : Nat, TKN (s.1 47) (s.2.2.1 46 1).toInt.toNat a (s.2.2.1 46 4).toInt.toNat (s.2.2.1 46 2).toInt.toNat (s.2.2.1 46 3).toInt (s.2.2.1 46 5).toInt) (q_3 : TQ s) (q_4 : (s.2.2.1 46 3).toInt ≠ 0) : GC Z d 136 [.ref (A 1), .ref (A 46)] (WW Z A s ++ ex) (lc s) (lsl s) (fun v u => ∃ a : Nat, ∃ t : GS, Inv t ∧ Fr fm_136_1_46 s t ∧ ((t.2.2.1 46 2).toInt ≤ (t.2.2.1 46 1).toInt) ∧ ((s.2.2.1 2 0).toInt ≤ (t.2.2.1 2 0).toInt) ∧ ∃ z : Int32, v = some (.int z) ∧ u = WW Z (ax A 30 a) t ++ ex ∧ In z 0 1 ∧ (KL t) ∧ ((z).toInt ≠ 0 → (t.2.2.1 30 0).toInt = nln s) ∧ ((z).toInt ≠ 0 → (s.2.2.1 2 0).toInt ≤ 3999) ∧ (∀ k : Nat, (k : Int) < 7 * (s.2.2.1 2 0).toInt → t.1 30 k = s.1 30 k) ∧ ((z).toInt ≠ 0 → ∀ a : Nat, TKN (s.1 47) (s.2.2.1 46 1).toInt.toNat a (s.2.2.1 46 4).toInt.toNat (s.2.2.1 46 2).toInt.toNat (s.2.2.1 46 3).toInt (s.2.2.1 46 5).toInt → ∃ c V, CMP (s.1 47) (s.2.2.1 46 1).toInt.toNat a (s.2.2.1 46 4).toInt.toNat c V (t.2.2.1 46 2).toInt.toNat ∧ dkC (gvC s) c V ∧ gvC t = opC (gvC s) c V) ∧ ((z).toInt = 0 → ∀ a : Nat, TKN (s.1 47) (s.2.2.1 46 1).toInt.toNat a (s.2.2.1 46 4).toInt.toNat (s.2.2.1 46 2).toInt.toNat (s.2.2.1 46 3).toInt (s.2.2.1 46 5).toInt → CMX (s.1 47) (s.2.2.1 46 1).toInt.toNat a (t.2.2.1 46 6).toInt (t.2.2.1 46 7).toInt.toNat ∨ ∃ c V e, CMP (s.1 47) (s.2.2.1 46 1).toInt.toNat a (t.2.2.1 46 7).toInt.toNat c V e ∧ ¬ dkC (gvC s) c V ∧ (t.2.2.1 46 6).toInt = 4) ∧ ((z).toInt ≠ 0 → TQ t) ∧ ((z).toInt ≠ 0 → t.2.2.1 46 6 = s.2.2.1 46 6 ∧ t.2.2.1 46 7 = s.2.2.1 46 7) ∧ ((z).toInt = 0 → 0 ≤ (t.2.2.1 46 7).toInt) ∧ ((z).toInt ≠ 0 → LGC s t)) X := by
  intro post xp hP hX
  have ro_46_1 := inv_F hI 0 1000 rfl e_46_1
  have ct46 : ∀ (k46 : Nat) (sc46 : GS) (y46_2 : Int32) (y46_3 : Int32) (y46_4 : Int32) (y46_5 : Int32) (w46_46_2 : Int32) (w46_2_0 : Int32) (w46_2_1 : Int32) (w46_30_0 : Int32), Inv sc46 → Fr fm_136_1_46 s sc46 → (In y46_2 0 1000) → (In y46_3 (-1) 25) → (In y46_4 1 5) → (In y46_5 0 5) → (w46_46_2 = sc46.2.2.1 46 2) → (w46_2_0 = sc46.2.2.1 2 0) → (w46_2_1 = sc46.2.2.1 2 1) → (w46_30_0 = sc46.2.2.1 30 0) → ((w46_46_2).toInt ≤ (u_46_1).toInt) → ((u_2_0).toInt ≤ (w46_2_0).toInt) → ((y46_3).toInt = 13 → (y46_4).toInt = 1) → ((y46_4).toInt = 1 → 1 ≤ (y46_5).toInt → In (sc46.1 31 0) 0 25) → (Fr ([31], [], [(46, 2), (46, 3), (46, 4), (46, 5), (46, 6), (46, 7)], []) s sc46) → (SHQ (y46_3).toInt (y46_4).toInt) → ((s.2.2.1 46 3).toInt = 1 ∧ (s.2.2.1 46 5).toInt = (y46_3).toInt ∧ (y46_2) = s.2.2.1 46 4) → ((y46_5).toInt ≤ (cmA (y46_3).toInt : Int)) → (∀ a : Nat, TKN (s.1 47) (s.2.2.1 46 1).toInt.toNat a (s.2.2.1 46 4).toInt.toNat (s.2.2.1 46 2).toInt.toNat (s.2.2.1 46 3).toInt (s.2.2.1 46 5).toInt → (∀ j, j < (y46_5).toInt.toNat → ∃ q f, TSQ (s.1 47) (s.2.2.1 46 1).toInt.toNat a (j + 1) q f (cmK (y46_3).toInt (j + 1)) (sc46.1 31 j).toInt) ∧ ∃ p k v, TSQ (s.1 47) (s.2.2.1 46 1).toInt.toNat a (y46_5).toInt.toNat p (w46_46_2).toInt.toNat k v) → (sc46.2.2.1 46 6 = s.2.2.1 46 6 ∧ sc46.2.2.1 46 7 = s.2.2.1 46 7) → 5 - (y46_5).toInt < (k46 : Int) → GG Z (d - 1) 136 post (gx xp) (1 + k46 * 900) 46 (fun j => xlook j [(0, .ref (A 1)), (1, .ref (A 46)), (2, .int y46_2), (3, .int y46_3), (4, .ref (zq Z y46_4)), (5, .int y46_5)]) [] (WW Z A sc46 ++ ex) (lc s) (lsl s) := by
    intro k46
    induction k46 with
    | zero => intro sc46 y46_2 y46_3 y46_4 y46_5 w46_46_2 w46_2_0 w46_2_1 w46_30_0 hIc46 hFc46 j46_2 j46_3 j46_4 j46_5 v46_46_2 v46_2_0 v46_2_1 v46_30_0 n46_0 n46_1 g46_0 g46_1 g46_2 g46_3 g46_4 g46_5 g46_6 g46_7 mm46; exact m_no mm46 j46_5 rfl
    | succ k46 ih46 =>
      intro sc46 y46_2 y46_3 y46_4 y46_5 w46_46_2 w46_2_0 w46_2_1 w46_30_0 hIc46 hFc46 j46_2 j46_3 j46_4 j46_5 v46_46_2 v46_2_0 v46_2_1 v46_30_0 n46_0 n46_1 g46_0 g46_1 g46_2 g46_3 g46_4 g46_5 g46_6 g46_7 mm46
      refine gg_w (M := 1 + k46 * 900 + 900) gws ?_
      refine g_iload 48 (gd rfl) rfl rfl ?_
      refine g_aload 50 (gd rfl) rfl rfl ?_
      have i50 : In y46_4 0 6 := in_w 0 6 j46_4 rfl
      refine g_callS (X := _) (As := []) (r := [.int y46_5]) (x := y46_4) 53 (gd rfl) rfl rfl rfl zm_427 rfl rfl rfl i50 (Nat.le_of_ble_eq_true rfl) (k_427 i50 (by omega)) (fun e u h => h) (fun v u h => ?_)
      obtain ⟨z50, rfl, rfl, p50⟩ := h
      have i50a : In z50 0 9 := by have a := zn_9 i50; exact ⟨by omega, by omega⟩
      show GG _ _ _ _ _ _ _ _ [.int z50, .int y46_5] _ _ _
      refine g_cmp_ge 56 125 (gd rfl) rfl rfl (fun c53 => ?_) (fun c53 => ?_)
      · skip
        have i53 := r_le1 0 5 c53 i50a j46_5 rfl
        refine g_aload_n 126 (gd rfl) rfl rfl ?_
        refine g_bipush 7 128 (gd rfl) rfl rfl ?_
        refine g_iconst 1 129 (gd rfl) rfl rfl ?_
        have v129 : u_46_1 = sc46.2.2.1 46 1 := fr_F e_46_1 hFc46 rfl
        have n129 : (w46_46_2).toInt ≤ (u_46_1).toInt := by first | exact n46_0 | (have a0 := oa9 ro_46_1 ((inv_F hIc46 448 28000 rfl v46_30_0)) ((inv_F hIc46 0 32 rfl v46_2_1)) ((inv_F hIc46 0 4000 rfl v46_2_0)) ((inv_F hIc46 0 1000 rfl v46_46_2)) j46_5 j46_4 j46_3 j46_2; have oc := oc_136_1_46; omega)
        refine g_callv (X := _) (As := [.int (Int32.ofInt 7), .int (Int32.ofInt 1)]) (r := []) (b := A 46) (q := 46) 132 (gd rfl) rfl rfl rfl rfl rfl (ww_o rfl) (Nat.le_of_ble_eq_true rfl) (Nat.zero_le _) (Nat.zero_le _) (f_171_46 (by first | exact dq1 hd rfl | exact dq0 hd rfl | exact dq2 hd rfl | exact dq3 hd rfl | omega) hIc46 (in_w 7 7 (in_c 7 rfl) rfl) (in_w 1 1 (in_c 1 rfl) rfl) v46_46_2 v129 n129) (fun e u h => h) (fun v u h => ?_)
        obtain ⟨s129, hI129, hF129, n129a, n129b, n129c, rfl, rfl, p129, p129a, p129b⟩ := h
        obtain ⟨z129a, e129⟩ : ∃ w, w = s129.2.2.1 46 2 := ⟨_, rfl⟩
        have i129a := inv_F hI129 0 1000 rfl e129
        obtain ⟨z129b, e129a⟩ : ∃ w, w = s129.2.2.1 46 4 := ⟨_, rfl⟩
        have i129b := inv_F hI129 0 1000 rfl e129a
        rw [← (show z129a = s129.2.2.1 46 2 from e129)] at n129a
        rw [← (show u_46_1 = s129.2.2.1 46 1 from fr_F (fr_F e_46_1 hFc46 rfl) hF129 rfl)] at n129a
        rw [← (show z129a = s129.2.2.1 46 2 from e129)] at n129b
        rw [← (show z129b = s129.2.2.1 46 4 from e129a)] at n129b
        rw [← (show w46_46_2 = sc46.2.2.1 46 2 from v46_46_2)] at n129c
        rw [← (show z129b = s129.2.2.1 46 4 from e129a)] at n129c
        show GG _ _ _ _ _ _ _ _ [] _ _ _
        refine g_aload_n 133 (gd rfl) rfl rfl ?_
        refine g_bipush 59 135 (gd rfl) rfl rfl ?_
        refine g_callv (X := _) (As := [.int (Int32.ofInt 59)]) (r := []) (b := A 46) (q := 46) 138 (gd rfl) rfl rfl rfl rfl rfl (ww_o rfl) (Nat.le_of_ble_eq_true rfl) (mc := 0) (ms := 0) (Nat.zero_le _) (Nat.zero_le _) (P := fun v u => _) ?_ (fun e u h => h) (fun v u h => h)
        intro po135 xx135 hp135 hx135
        refine g_enter2 (k := 170) (N := 300) (by first | exact dq1 hd rfl | exact dq0 hd rfl | exact dq2 hd rfl | exact dq3 hd rfl | omega) rfl (Nat.le_of_ble_eq_true rfl) ?_
        refine g_aload_n 1 (gd rfl) rfl rfl ?_
        refine g_getI 4 (gd rfl) rfl rfl rfl (fun z135x1 e135x1 => ?_)
        have i135x1 := inv_F hI129 0 5 rfl e135x1
        refine g_iconst 3 5 (gd rfl) rfl rfl ?_
        refine g_cmp_ne 8 20 (gd rfl) rfl rfl (fun c135x5 => ?_) (fun c135x5 => ?_)
        · skip
          refine g_iconst 0 21 (gd rfl) rfl rfl ?_
          refine g_ireturn (gd rfl) rfl (nb01 (in_w 0 1 (in_c 0 rfl) rfl)) (hp135 _ _ ?_)
          show GG _ _ _ _ _ _ _ _ [.int (Int32.ofInt 0)] _ _ _
          refine g_if_ne 141 148 (gd rfl) rfl rfl (fun c138 => ?_) (fun c138 => ?_)
          · skip
            exact zn_ne c138 (in_c 0 rfl) rfl
          · skip
            refine g_aload_n 142 (gd rfl) rfl rfl ?_
            refine g_iconst 2 143 (gd rfl) rfl rfl ?_
            refine g_iconst 3 144 (gd rfl) rfl rfl ?_
            refine g_callv (X := _) (As := [.int (Int32.ofInt 2), .int (Int32.ofInt 3)]) (r := []) (b := A 46) (q := 46) 147 (gd rfl) rfl rfl rfl rfl rfl (ww_o rfl) (Nat.le_of_ble_eq_true rfl) (Nat.zero_le _) (Nat.zero_le _) (f_169_46 (by first | exact dq1 hd rfl | exact dq0 hd rfl | exact dq2 hd rfl | exact dq3 hd rfl | omega) hI129 (in_w 2 2 (in_c 2 rfl) rfl) (in_w 3 3 (in_c 3 rfl) rfl) e135x1 e129a) (fun e u h => h) (fun v u h => ?_)
            obtain ⟨s144, hI144, hF144, z144, rfl, rfl, i144, p144⟩ := h
            show GG _ _ _ _ _ _ _ _ [.int z144] _ _ _
            have n147 : KL s144 := by have hL9 : Fr ([31], [], [(46, 2), (46, 3), (46, 4), (46, 5), (46, 6), (46, 7)], []) s s144 := (fr_tr rfl (fr_tr rfl g46_2 hF129) hF144); exact kl_fr q_0 hL9 rfl
            have n147a : (z144).toInt ≠ 0 → (s144.2.2.1 30 0).toInt = nln s := by first | (intro h; exact absurd rfl h) | (intro h; exfalso; revert h; first | (unfold In at i39; omega) | (unfold In at i104; omega) | (unfold In at i144; omega))
            have n147b : (z144).toInt ≠ 0 → (s.2.2.1 2 0).toInt ≤ 3999 := by first | (intro h; exact absurd rfl h) | (intro h; exfalso; revert h; first | (unfold In at i39; omega) | (unfold In at i104; omega) | (unfold In at i144; omega))
            have n147c : ∀ k : Nat, (k : Int) < 7 * (s.2.2.1 2 0).toInt → s144.1 30 k = s.1 30 k := by have hL9 : Fr ([31], [], [(46, 2), (46, 3), (46, 4), (46, 5), (46, 6), (46, 7)], []) s s144 := (fr_tr rfl (fr_tr rfl g46_2 hF129) hF144); exact fun k _ => by rw [hL9.1 30 rfl]
            have n147d : (z144).toInt ≠ 0 → ∀ a : Nat, TKN (s.1 47) (s.2.2.1 46 1).toInt.toNat a (s.2.2.1 46 4).toInt.toNat (s.2.2.1 46 2).toInt.toNat (s.2.2.1 46 3).toInt (s.2.2.1 46 5).toInt → ∃ c V, CMP (s.1 47) (s.2.2.1 46 1).toInt.toNat a (s.2.2.1 46 4).toInt.toNat c V (s144.2.2.1 46 2).toInt.toNat ∧ dkC (gvC s) c V ∧ gvC s144 = opC (gvC s) c V := by first | (intro h; exact absurd rfl h) | (intro h; exfalso; revert h; first | (unfold In at i39; omega) | (unfold In at i104; omega) | (unfold In at i144; omega))
            have n147e : (z144).toInt = 0 → ∀ a : Nat, TKN (s.1 47) (s.2.2.1 46 1).toInt.toNat a (s.2.2.1 46 4).toInt.toNat (s.2.2.1 46 2).toInt.toNat (s.2.2.1 46 3).toInt (s.2.2.1 46 5).toInt → CMX (s.1 47) (s.2.2.1 46 1).toInt.toNat a (s144.2.2.1 46 6).toInt (s144.2.2.1 46 7).toInt.toNat ∨ ∃ c V e, CMP (s.1 47) (s.2.2.1 46 1).toInt.toNat a (s144.2.2.1 46 7).toInt.toNat c V e ∧ ¬ dkC (gvC s) c V ∧ (s144.2.2.1 46 6).toInt = 4 := by intro _ a ha; obtain ⟨h1, p1, k1, v1, h2⟩ := g46_6 a ha; have hk9 := p129b; rw [show sc46.1 47 = s.1 47 from g46_2.1 47 rfl, show sc46.2.2.1 46 1 = s.2.2.1 46 1 from g46_2.2.2.1 46 1 rfl, ← v46_46_2] at hk9; have h5 : y46_5.toInt.toNat = cmA y46_3.toInt := (by have h9 := shq_n g46_3; have h8 := p50; rw [h9] at h8; have h7 := (shq_5 g46_3).1; have h6 := g46_5; have a0 := oa12 ro_46_1 ((inv_F hIc46 448 28000 rfl v46_30_0)) ((inv_F hIc46 0 32 rfl v46_2_1)) ((inv_F hIc46 0 4000 rfl v46_2_0)) ((inv_F hIc46 0 1000 rfl v46_46_2)) j46_5 j46_4 j46_3 j46_2 i135x1 i129b i129a; have oc := oc_136_1_46; omega); refine Or.inl (Or.inr ⟨_, _, _, shq_i g46_3, by have h9 := ha; rw [g46_4.1, g46_4.2.1] at h9; exact h9, cmA y46_3.toInt, Nat.le_refl _, fun j hj => by obtain ⟨q, f, h9⟩ := h1 j (by omega); exact ⟨q, f, _, h9⟩, (s129.2.2.1 46 2).toInt.toNat, (s129.2.2.1 46 3).toInt, (s129.2.2.1 46 5).toInt, ?_, ?_, p144.1⟩); (rw [p144.2, ← h5]; exact ⟨p1, w46_46_2.toInt.toNat, k1, v1, h2, hk9⟩); (intro h9; unfold cmK at h9; rw [if_pos rfl] at h9; have h8 := tkn_v3 hk9 h9; first | (rw [← e135x1] at h9; have a0 := oa12 ro_46_1 ((inv_F hIc46 448 28000 rfl v46_30_0)) ((inv_F hIc46 0 32 rfl v46_2_1)) ((inv_F hIc46 0 4000 rfl v46_2_0)) ((inv_F hIc46 0 1000 rfl v46_46_2)) j46_5 j46_4 j46_3 j46_2 i135x1 i129b i129a; have oc := oc_136_1_46; omega) | (rw [← e135x9] at h8; have a0 := oa12 ro_46_1 ((inv_F hIc46 448 28000 rfl v46_30_0)) ((inv_F hIc46 0 32 rfl v46_2_1)) ((inv_F hIc46 0 4000 rfl v46_2_0)) ((inv_F hIc46 0 1000 rfl v46_46_2)) j46_5 j46_4 j46_3 j46_2 i135x1 i129b i129a; have oc := oc_136_1_46; omega))
            have n147f : (z144).toInt ≠ 0 → TQ s144 := by first | (intro h; exact absurd rfl h) | (intro h; exfalso; revert h; first | (unfold In at i39; omega) | (unfold In at i104; omega) | (unfold In at i144; omega))
            have n147g : (z144).toInt ≠ 0 → s144.2.2.1 46 6 = s.2.2.1 46 6 ∧ s144.2.2.1 46 7 = s.2.2.1 46 7 := by first | (intro h; exact absurd rfl h) | (intro h; exfalso; revert h; first | (unfold In at i39; omega) | (unfold In at i104; omega) | (unfold In at i144; omega))
            have n147h : (z144).toInt = 0 → 0 ≤ (s144.2.2.1 46 7).toInt := by intro _; rw [p144.2, ← e129a]; have a0 := oa12 ro_46_1 ((inv_F hIc46 448 28000 rfl v46_30_0)) ((inv_F hIc46 0 32 rfl v46_2_1)) ((inv_F hIc46 0 4000 rfl v46_2_0)) ((inv_F hIc46 0 1000 rfl v46_46_2)) j46_5 j46_4 j46_3 j46_2 i135x1 i129b i129a; have oc := oc_136_1_46; omega
            have n147i : (z144).toInt ≠ 0 → LGC s s144 := by first | (intro h; exact absurd rfl h) | (intro h; exfalso; revert h; first | (unfold In at i39; omega) | (unfold In at i104; omega) | (unfold In at i144; omega))
            have n147j : (z129a).toInt ≤ (u_46_1).toInt := by have a0 := oa12 ro_46_1 ((inv_F hIc46 448 28000 rfl v46_30_0)) ((inv_F hIc46 0 32 rfl v46_2_1)) ((inv_F hIc46 0 4000 rfl v46_2_0)) ((inv_F hIc46 0 1000 rfl v46_46_2)) j46_5 j46_4 j46_3 j46_2 i135x1 i129b i129a; have oc := oc_136_1_46; omega
            have n147k : (s144.2.2.1 46 2).toInt ≤ (s144.2.2.1 46 1).toInt := by have b0 : z129a = s144.2.2.1 46 2 := fr_F (e129) hF144 rfl; have b1 : u_46_1 = s144.2.2.1 46 1 := fr_F (fr_F (fr_F e_46_1 hFc46 rfl) hF129 rfl) hF144 rfl; rw [← b0, ← b1]; exact n147j
            have n147l : (u_2_0).toInt ≤ (w46_2_0).toInt := by first | exact n46_1 | (have a0 := oa12 ro_46_1 ((inv_F hIc46 448 28000 rfl v46_30_0)) ((inv_F hIc46 0 32 rfl v46_2_1)) ((inv_F hIc46 0 4000 rfl v46_2_0)) ((inv_F hIc46 0 1000 rfl v46_46_2)) j46_5 j46_4 j46_3 j46_2 i135x1 i129b i129a; have oc := oc_136_1_46; omega)
            have n147m : (s.2.2.1 2 0).toInt ≤ (s144.2.2.1 2 0).toInt := by have b0 : w46_2_0 = s144.2.2.1 2 0 := fr_F (fr_F (v46_2_0) hF129 rfl) hF144 rfl; first | (rw [← b0, ← e_2_0]; exact n147l) | (rw [← b0]; exact n147l)
            exact g_ireturn (gd rfl) rfl (nb01 (in_w 0 1 i144 rfl)) (hP _ _ ⟨(A 30), s144, hI144, (fr_tr rfl (fr_tr rfl hFc46 hF129) hF144), n147k, n147m, z144, rfl, (by rw [ax_id]), in_w 0 1 i144 rfl, n147, n147a, n147b, n147c, n147d, n147e, n147f, n147g, n147h, n147i⟩)
        · skip
          have i135x5 := r_eq1 3 3 c135x5 i135x1 (in_c 3 rfl) rfl
          refine g_aload_n 9 (gd rfl) rfl rfl ?_
          refine g_getI 12 (gd rfl) rfl rfl rfl (fun z135x9 e135x9 => ?_)
          refine g_iload_n 13 (gd rfl) rfl rfl ?_
          refine g_cmp_ne 16 20 (gd rfl) rfl rfl (fun c135x13 => ?_) (fun c135x13 => ?_)
          · skip
            refine g_iconst 0 21 (gd rfl) rfl rfl ?_
            refine g_ireturn (gd rfl) rfl (nb01 (in_w 0 1 (in_c 0 rfl) rfl)) (hp135 _ _ ?_)
            show GG _ _ _ _ _ _ _ _ [.int (Int32.ofInt 0)] _ _ _
            refine g_if_ne 141 148 (gd rfl) rfl rfl (fun c138 => ?_) (fun c138 => ?_)
            · skip
              exact zn_ne c138 (in_c 0 rfl) rfl
            · skip
              refine g_aload_n 142 (gd rfl) rfl rfl ?_
              refine g_iconst 2 143 (gd rfl) rfl rfl ?_
              refine g_iconst 3 144 (gd rfl) rfl rfl ?_
              refine g_callv (X := _) (As := [.int (Int32.ofInt 2), .int (Int32.ofInt 3)]) (r := []) (b := A 46) (q := 46) 147 (gd rfl) rfl rfl rfl rfl rfl (ww_o rfl) (Nat.le_of_ble_eq_true rfl) (Nat.zero_le _) (Nat.zero_le _) (f_169_46 (by first | exact dq1 hd rfl | exact dq0 hd rfl | exact dq2 hd rfl | exact dq3 hd rfl | omega) hI129 (in_w 2 2 (in_c 2 rfl) rfl) (in_w 3 3 (in_c 3 rfl) rfl) e135x1 e129a) (fun e u h => h) (fun v u h => ?_)
              obtain ⟨s144, hI144, hF144, z144, rfl, rfl, i144, p144⟩ := h
              show GG _ _ _ _ _ _ _ _ [.int z144] _ _ _
              have n147 : KL s144 := by have hL9 : Fr ([31], [], [(46, 2), (46, 3), (46, 4), (46, 5), (46, 6), (46, 7)], []) s s144 := (fr_tr rfl (fr_tr rfl g46_2 hF129) hF144); exact kl_fr q_0 hL9 rfl
              have n147a : (z144).toInt ≠ 0 → (s144.2.2.1 30 0).toInt = nln s := by first | (intro h; exact absurd rfl h) | (intro h; exfalso; revert h; first | (unfold In at i39; omega) | (unfold In at i104; omega) | (unfold In at i144; omega))
              have n147b : (z144).toInt ≠ 0 → (s.2.2.1 2 0).toInt ≤ 3999 := by first | (intro h; exact absurd rfl h) | (intro h; exfalso; revert h; first | (unfold In at i39; omega) | (unfold In at i104; omega) | (unfold In at i144; omega))
              have n147c : ∀ k : Nat, (k : Int) < 7 * (s.2.2.1 2 0).toInt → s144.1 30 k = s.1 30 k := by have hL9 : Fr ([31], [], [(46, 2), (46, 3), (46, 4), (46, 5), (46, 6), (46, 7)], []) s s144 := (fr_tr rfl (fr_tr rfl g46_2 hF129) hF144); exact fun k _ => by rw [hL9.1 30 rfl]
              have n147d : (z144).toInt ≠ 0 → ∀ a : Nat, TKN (s.1 47) (s.2.2.1 46 1).toInt.toNat a (s.2.2.1 46 4).toInt.toNat (s.2.2.1 46 2).toInt.toNat (s.2.2.1 46 3).toInt (s.2.2.1 46 5).toInt → ∃ c V, CMP (s.1 47) (s.2.2.1 46 1).toInt.toNat a (s.2.2.1 46 4).toInt.toNat c V (s144.2.2.1 46 2).toInt.toNat ∧ dkC (gvC s) c V ∧ gvC s144 = opC (gvC s) c V := by first | (intro h; exact absurd rfl h) | (intro h; exfalso; revert h; first | (unfold In at i39; omega) | (unfold In at i104; omega) | (unfold In at i144; omega))
              have n147e : (z144).toInt = 0 → ∀ a : Nat, TKN (s.1 47) (s.2.2.1 46 1).toInt.toNat a (s.2.2.1 46 4).toInt.toNat (s.2.2.1 46 2).toInt.toNat (s.2.2.1 46 3).toInt (s.2.2.1 46 5).toInt → CMX (s.1 47) (s.2.2.1 46 1).toInt.toNat a (s144.2.2.1 46 6).toInt (s144.2.2.1 46 7).toInt.toNat ∨ ∃ c V e, CMP (s.1 47) (s.2.2.1 46 1).toInt.toNat a (s144.2.2.1 46 7).toInt.toNat c V e ∧ ¬ dkC (gvC s) c V ∧ (s144.2.2.1 46 6).toInt = 4 := by intro _ a ha; obtain ⟨h1, p1, k1, v1, h2⟩ := g46_6 a ha; have hk9 := p129b; rw [show sc46.1 47 = s.1 47 from g46_2.1 47 rfl, show sc46.2.2.1 46 1 = s.2.2.1 46 1 from g46_2.2.2.1 46 1 rfl, ← v46_46_2] at hk9; have h5 : y46_5.toInt.toNat = cmA y46_3.toInt := (by have h9 := shq_n g46_3; have h8 := p50; rw [h9] at h8; have h7 := (shq_5 g46_3).1; have h6 := g46_5; have a0 := oa12 ro_46_1 ((inv_F hIc46 448 28000 rfl v46_30_0)) ((inv_F hIc46 0 32 rfl v46_2_1)) ((inv_F hIc46 0 4000 rfl v46_2_0)) ((inv_F hIc46 0 1000 rfl v46_46_2)) j46_5 j46_4 j46_3 j46_2 i135x5 i129b i129a; have oc := oc_136_1_46; omega); refine Or.inl (Or.inr ⟨_, _, _, shq_i g46_3, by have h9 := ha; rw [g46_4.1, g46_4.2.1] at h9; exact h9, cmA y46_3.toInt, Nat.le_refl _, fun j hj => by obtain ⟨q, f, h9⟩ := h1 j (by omega); exact ⟨q, f, _, h9⟩, (s129.2.2.1 46 2).toInt.toNat, (s129.2.2.1 46 3).toInt, (s129.2.2.1 46 5).toInt, ?_, ?_, p144.1⟩); (rw [p144.2, ← h5]; exact ⟨p1, w46_46_2.toInt.toNat, k1, v1, h2, hk9⟩); (intro h9; unfold cmK at h9; rw [if_pos rfl] at h9; have h8 := tkn_v3 hk9 h9; first | (rw [← e135x1] at h9; have a0 := oa12 ro_46_1 ((inv_F hIc46 448 28000 rfl v46_30_0)) ((inv_F hIc46 0 32 rfl v46_2_1)) ((inv_F hIc46 0 4000 rfl v46_2_0)) ((inv_F hIc46 0 1000 rfl v46_46_2)) j46_5 j46_4 j46_3 j46_2 i135x5 i129b i129a; have oc := oc_136_1_46; omega) | (rw [← e135x9] at h8; have a0 := oa12 ro_46_1 ((inv_F hIc46 448 28000 rfl v46_30_0)) ((inv_F hIc46 0 32 rfl v46_2_1)) ((inv_F hIc46 0 4000 rfl v46_2_0)) ((inv_F hIc46 0 1000 rfl v46_46_2)) j46_5 j46_4 j46_3 j46_2 i135x5 i129b i129a; have oc := oc_136_1_46; omega))
              have n147f : (z144).toInt ≠ 0 → TQ s144 := by first | (intro h; exact absurd rfl h) | (intro h; exfalso; revert h; first | (unfold In at i39; omega) | (unfold In at i104; omega) | (unfold In at i144; omega))
              have n147g : (z144).toInt ≠ 0 → s144.2.2.1 46 6 = s.2.2.1 46 6 ∧ s144.2.2.1 46 7 = s.2.2.1 46 7 := by first | (intro h; exact absurd rfl h) | (intro h; exfalso; revert h; first | (unfold In at i39; omega) | (unfold In at i104; omega) | (unfold In at i144; omega))
              have n147h : (z144).toInt = 0 → 0 ≤ (s144.2.2.1 46 7).toInt := by intro _; rw [p144.2, ← e129a]; have a0 := oa12 ro_46_1 ((inv_F hIc46 448 28000 rfl v46_30_0)) ((inv_F hIc46 0 32 rfl v46_2_1)) ((inv_F hIc46 0 4000 rfl v46_2_0)) ((inv_F hIc46 0 1000 rfl v46_46_2)) j46_5 j46_4 j46_3 j46_2 i135x5 i129b i129a; have oc := oc_136_1_46; omega
              have n147i : (z144).toInt ≠ 0 → LGC s s144 := by first | (intro h; exact absurd rfl h) | (intro h; exfalso; revert h; first | (unfold In at i39; omega) | (unfold In at i104; omega) | (unfold In at i144; omega))
              have n147j : (z129a).toInt ≤ (u_46_1).toInt := by have a0 := oa12 ro_46_1 ((inv_F hIc46 448 28000 rfl v46_30_0)) ((inv_F hIc46 0 32 rfl v46_2_1)) ((inv_F hIc46 0 4000 rfl v46_2_0)) ((inv_F hIc46 0 1000 rfl v46_46_2)) j46_5 j46_4 j46_3 j46_2 i135x5 i129b i129a; have oc := oc_136_1_46; omega
              have n147k : (s144.2.2.1 46 2).toInt ≤ (s144.2.2.1 46 1).toInt := by have b0 : z129a = s144.2.2.1 46 2 := fr_F (e129) hF144 rfl; have b1 : u_46_1 = s144.2.2.1 46 1 := fr_F (fr_F (fr_F e_46_1 hFc46 rfl) hF129 rfl) hF144 rfl; rw [← b0, ← b1]; exact n147j
              have n147l : (u_2_0).toInt ≤ (w46_2_0).toInt := by first | exact n46_1 | (have a0 := oa12 ro_46_1 ((inv_F hIc46 448 28000 rfl v46_30_0)) ((inv_F hIc46 0 32 rfl v46_2_1)) ((inv_F hIc46 0 4000 rfl v46_2_0)) ((inv_F hIc46 0 1000 rfl v46_46_2)) j46_5 j46_4 j46_3 j46_2 i135x5 i129b i129a; have oc := oc_136_1_46; omega)
              have n147m : (s.2.2.1 2 0).toInt ≤ (s144.2.2.1 2 0).toInt := by have b0 : w46_2_0 = s144.2.2.1 2 0 := fr_F (fr_F (v46_2_0) hF129 rfl) hF144 rfl; first | (rw [← b0, ← e_2_0]; exact n147l) | (rw [← b0]; exact n147l)
              exact g_ireturn (gd rfl) rfl (nb01 (in_w 0 1 i144 rfl)) (hP _ _ ⟨(A 30), s144, hI144, (fr_tr rfl (fr_tr rfl hFc46 hF129) hF144), n147k, n147m, z144, rfl, (by rw [ax_id]), in_w 0 1 i144 rfl, n147, n147a, n147b, n147c, n147d, n147e, n147f, n147g, n147h, n147i⟩)
          · skip
            have i135x13 := r_eq1 59 59 c135x13 (i_rng z135x9) (in_c 59 rfl) rfl
            refine g_iconst 1 17 (gd rfl) rfl rfl ?_
            refine g_goto 21 (gd rfl) rfl ?_
            refine g_ireturn (gd rfl) rfl (nb01 (in_w 0 1 (in_c 1 rfl) rfl)) (hp135 _ _ ?_)
            show GG _ _ _ _ _ _ _ _ [.int (Int32.ofInt 1)] _ _ _
            refine g_if_ne 141 148 (gd rfl) rfl rfl (fun c138 => ?_) (fun c138 => ?_)
            · skip
              refine g_aload_n 149 (gd rfl) rfl rfl ?_
              refine g_iload_n 150 (gd rfl) rfl rfl ?_
              have hL : Fr ([31], [], [(46, 2), (46, 3), (46, 4), (46, 5), (46, 6), (46, 7)], []) s s129 := (fr_tr rfl g46_2 hF129)
              have v150 : w46_2_0 = s129.2.2.1 2 0 := fr_F (v46_2_0) hF129 rfl
              have v150a : w46_2_1 = s129.2.2.1 2 1 := fr_F (v46_2_1) hF129 rfl
              have v150b : w46_30_0 = s129.2.2.1 30 0 := fr_F (v46_30_0) hF129 rfl
              have p150 : KL s129 := by exact kl_fr q_0 hL rfl
              have p150a : (y46_3).toInt = 13 → In (s129.1 31 0) 0 25 := by intro h13; rw [hF129.1 31 rfl]; exact g46_1 (g46_0 h13) (by have hz1 := zn_1 (g46_0 h13); have h9 := p50; have a0 := oa13 ro_46_1 ((inv_F hIc46 448 28000 rfl v46_30_0)) ((inv_F hIc46 0 32 rfl v46_2_1)) ((inv_F hIc46 0 4000 rfl v46_2_0)) ((inv_F hIc46 0 1000 rfl v46_46_2)) j46_5 j46_4 j46_3 j46_2 i135x13 i135x5 i129b i129a; have oc := oc_136_1_46; omega)
              have p150b : cmI (y46_3).toInt := by exact shq_i g46_3
              have p150c : TQ s129 := by exact tq_fr q_3 hL rfl
              have p150d : (y46_3).toInt = 0 → In (s129.1 31 4) 0 25 := by intro h0; obtain ⟨a, ha⟩ := q_2; obtain ⟨q, f, h5⟩ := (g46_6 a ha).1 4 (by have h9 := shq_n g46_3; have h8 := p50; rw [h9, h0] at h8; have h7 : (cmA 0 : Int) = 5 := rfl; have a0 := oa13 ro_46_1 ((inv_F hIc46 448 28000 rfl v46_30_0)) ((inv_F hIc46 0 32 rfl v46_2_1)) ((inv_F hIc46 0 4000 rfl v46_2_0)) ((inv_F hIc46 0 1000 rfl v46_46_2)) j46_5 j46_4 j46_3 j46_2 i135x13 i135x5 i129b i129a; have oc := oc_136_1_46; omega); rw [hF129.1 31 rfl]; rw [h0] at h5; obtain ⟨p8, e8, k8, v8, -, h6⟩ := h5; exact tkn_v1 h6 rfl
              refine g_callv (X := _) (As := [.int y46_3]) (r := []) (b := A 1) (q := 1) 153 (gd rfl) rfl rfl rfl rfl rfl (ww_o rfl) (Nat.le_of_ble_eq_true rfl) (Nat.le_of_eq (lc_cg ((show Fr ([31], [], [(46, 2), (46, 3), (46, 4), (46, 5), (46, 6), (46, 7)], []) s s129 from (fr_tr rfl g46_2 hF129)).2.2.1 30 0 rfl) ((show Fr ([31], [], [(46, 2), (46, 3), (46, 4), (46, 5), (46, 6), (46, 7)], []) s s129 from (fr_tr rfl g46_2 hF129)).2.2.1 2 0 rfl)).1) (Nat.le_of_eq (lc_cg ((show Fr ([31], [], [(46, 2), (46, 3), (46, 4), (46, 5), (46, 6), (46, 7)], []) s s129 from (fr_tr rfl g46_2 hF129)).2.2.1 30 0 rfl) ((show Fr ([31], [], [(46, 2), (46, 3), (46, 4), (46, 5), (46, 6), (46, 7)], []) s s129 from (fr_tr rfl g46_2 hF129)).2.2.1 2 0 rfl)).2.1) (f_138_1 (by first | exact dq1 hd rfl | exact dq0 hd rfl | exact dq2 hd rfl | exact dq3 hd rfl | omega) hI129 (in_w (-1) 25 j46_3 rfl) v150 v150a v150b rfl p150 p150a p150b p150c p150d) (fun e u h => h) (fun v u h => ?_)
              obtain ⟨a150, s150, hI150, hF150, n150, z150, rfl, rfl, i150, p150e, p150f, p150g, p150h, p150i, p150j, p150k⟩ := h
              obtain ⟨z150a, e150⟩ : ∃ w, w = s150.2.2.1 2 0 := ⟨_, rfl⟩
              have i150a := inv_F hI150 0 4000 rfl e150
              rw [← (show w46_2_0 = s129.2.2.1 2 0 from fr_F (v46_2_0) hF129 rfl)] at n150
              rw [← (show z150a = s150.2.2.1 2 0 from e150)] at n150
              show GG _ _ _ _ _ _ _ _ [.int z150] _ _ _
              refine g_if_ne 156 165 (gd rfl) rfl rfl (fun c153 => ?_) (fun c153 => ?_)
              · skip
                have i153 := z_ne 1 1 c153 i150 rfl
                refine g_iconst 1 166 (gd rfl) rfl rfl ?_
                refine g_goto 170 (gd rfl) rfl ?_
                have n170 : KL s150 := by exact p150e
                have n170a : ((Int32.ofInt 1)).toInt ≠ 0 → (s150.2.2.1 30 0).toInt = nln s := by first | (intro h; exact absurd rfl h) | (intro _; rw [← (lc_cg (s := s) (hL.2.2.1 30 0 rfl) (hL.2.2.1 2 0 rfl)).2.2]; exact p150f c153)
                have n170b : ((Int32.ofInt 1)).toInt ≠ 0 → (s.2.2.1 2 0).toInt ≤ 3999 := by first | (intro h; exact absurd rfl h) | (intro _; rw [← hL.2.2.1 2 0 rfl]; exact p150g c153)
                have n170c : ∀ k : Nat, (k : Int) < 7 * (s.2.2.1 2 0).toInt → s150.1 30 k = s.1 30 k := by exact fun k hk => by rw [p150h k (by rw [hL.2.2.1 2 0 rfl]; exact hk), hL.1 30 rfl]
                have n170d : ((Int32.ofInt 1)).toInt ≠ 0 → ∀ a : Nat, TKN (s.1 47) (s.2.2.1 46 1).toInt.toNat a (s.2.2.1 46 4).toInt.toNat (s.2.2.1 46 2).toInt.toNat (s.2.2.1 46 3).toInt (s.2.2.1 46 5).toInt → ∃ c V, CMP (s.1 47) (s.2.2.1 46 1).toInt.toNat a (s.2.2.1 46 4).toInt.toNat c V (s150.2.2.1 46 2).toInt.toNat ∧ dkC (gvC s) c V ∧ gvC s150 = opC (gvC s) c V := by first | (intro h; exact absurd rfl h) | (intro _ a ha; obtain ⟨h1, p1, k1, v1, h2⟩ := g46_6 a ha; have hk9 := p129b; rw [show sc46.1 47 = s.1 47 from g46_2.1 47 rfl, show sc46.2.2.1 46 1 = s.2.2.1 46 1 from g46_2.2.2.1 46 1 rfl, ← v46_46_2] at hk9; have h5 : y46_5.toInt.toNat = cmA y46_3.toInt := (by have h9 := shq_n g46_3; have h8 := p50; rw [h9] at h8; have h7 := (shq_5 g46_3).1; have h6 := g46_5; have a0 := oa14 ro_46_1 ((inv_F hIc46 448 28000 rfl v46_30_0)) ((inv_F hIc46 0 32 rfl v46_2_1)) ((inv_F hIc46 0 4000 rfl v46_2_0)) ((inv_F hIc46 0 1000 rfl v46_46_2)) j46_5 j46_4 j46_3 j46_2 i150a i135x13 i135x5 i129b i129a; have oc := oc_136_1_46; omega); have hcm : CMP (s.1 47) (s.2.2.1 46 1).toInt.toNat a (s.2.2.1 46 4).toInt.toNat y46_3.toInt (V31 s129) (s129.2.2.1 46 2).toInt.toNat := ⟨shq_i g46_3, ⟨_, by have h9 := ha; rw [g46_4.1, g46_4.2.1] at h9; exact h9⟩, fun i hi => by show ∃ q f, TSQ _ _ _ _ q f _ (s129.1 31 i).toInt; rw [hF129.1 31 rfl]; exact h1 i (by omega), (s129.2.2.1 46 4).toInt.toNat, (s129.2.2.1 46 5).toInt, by rw [← h5]; exact ⟨p1, w46_46_2.toInt.toNat, k1, v1, h2, by have h9 := hk9; rw [show (s129.2.2.1 46 3).toInt = 3 from (by rw [← e135x1]; have a0 := oa14 ro_46_1 ((inv_F hIc46 448 28000 rfl v46_30_0)) ((inv_F hIc46 0 32 rfl v46_2_1)) ((inv_F hIc46 0 4000 rfl v46_2_0)) ((inv_F hIc46 0 1000 rfl v46_46_2)) j46_5 j46_4 j46_3 j46_2 i150a i135x13 i135x5 i129b i129a; have oc := oc_136_1_46; omega)] at h9; exact h9⟩⟩; have h3 := p150i c153; rw [gvC_cg hL rfl] at h3; exact ⟨_, _, by rw [hF150.2.2.1 46 2 rfl]; exact hcm, h3.1, h3.2.1⟩)
                have n170e : ((Int32.ofInt 1)).toInt = 0 → ∀ a : Nat, TKN (s.1 47) (s.2.2.1 46 1).toInt.toNat a (s.2.2.1 46 4).toInt.toNat (s.2.2.1 46 2).toInt.toNat (s.2.2.1 46 3).toInt (s.2.2.1 46 5).toInt → CMX (s.1 47) (s.2.2.1 46 1).toInt.toNat a (s150.2.2.1 46 6).toInt (s150.2.2.1 46 7).toInt.toNat ∨ ∃ c V e, CMP (s.1 47) (s.2.2.1 46 1).toInt.toNat a (s150.2.2.1 46 7).toInt.toNat c V e ∧ ¬ dkC (gvC s) c V ∧ (s150.2.2.1 46 6).toInt = 4 := by intro h; exact absurd h (by decide)
                have n170f : ((Int32.ofInt 1)).toInt ≠ 0 → TQ s150 := by first | (intro h; exact absurd rfl h) | (intro _; exact (p150i c153).2.2)
                have n170g : ((Int32.ofInt 1)).toInt ≠ 0 → s150.2.2.1 46 6 = s.2.2.1 46 6 ∧ s150.2.2.1 46 7 = s.2.2.1 46 7 := by first | (intro h; exact absurd rfl h) | (intro _; exact ⟨(hF150.2.2.1 46 6 rfl).trans ((hF129.2.2.1 46 6 rfl).trans g46_7.1), (hF150.2.2.1 46 7 rfl).trans ((hF129.2.2.1 46 7 rfl).trans g46_7.2)⟩)
                have n170h : ((Int32.ofInt 1)).toInt = 0 → 0 ≤ (s150.2.2.1 46 7).toInt := by intro h; exact absurd h (by decide)
                have n170i : ((Int32.ofInt 1)).toInt ≠ 0 → LGC s s150 := by first | (intro h; exact absurd rfl h) | (intro _; exact lgc_fr (p150k c153) hL rfl)
                have n170j : (z129a).toInt ≤ (u_46_1).toInt := by have a0 := oa14 ro_46_1 ((inv_F hIc46 448 28000 rfl v46_30_0)) ((inv_F hIc46 0 32 rfl v46_2_1)) ((inv_F hIc46 0 4000 rfl v46_2_0)) ((inv_F hIc46 0 1000 rfl v46_46_2)) j46_5 j46_4 j46_3 j46_2 i150a i135x13 i135x5 i129b i129a; have oc := oc_136_1_46; omega
                have n170k : (s150.2.2.1 46 2).toInt ≤ (s150.2.2.1 46 1).toInt := by have b0 : z129a = s150.2.2.1 46 2 := fr_F (e129) hF150 rfl; have b1 : u_46_1 = s150.2.2.1 46 1 := fr_F (fr_F (fr_F e_46_1 hFc46 rfl) hF129 rfl) hF150 rfl; rw [← b0, ← b1]; exact n170j
                have n170l : (u_2_0).toInt ≤ (z150a).toInt := by have a0 := oa14 ro_46_1 ((inv_F hIc46 448 28000 rfl v46_30_0)) ((inv_F hIc46 0 32 rfl v46_2_1)) ((inv_F hIc46 0 4000 rfl v46_2_0)) ((inv_F hIc46 0 1000 rfl v46_46_2)) j46_5 j46_4 j46_3 j46_2 i150a i135x13 i135x5 i129b i129a; have oc := oc_136_1_46; omega
                have n170m : (s.2.2.1 2 0).toInt ≤ (s150.2.2.1 2 0).toInt := by have b0 : z150a = s150.2.2.1 2 0 := e150; first | (rw [← b0, ← e_2_0]; exact n170l) | (rw [← b0]; exact n170l)
                exact g_ireturn (gd rfl) rfl (nb01 (in_w 0 1 (in_c 1 rfl) rfl)) (hP _ _ ⟨a150, s150, hI150, (fr_tr rfl (fr_tr rfl hFc46 hF129) hF150), n170k, n170m, (Int32.ofInt 1), rfl, rfl, in_w 0 1 (in_c 1 rfl) rfl, n170, n170a, n170b, n170c, n170d, n170e, n170f, n170g, n170h, n170i⟩)
              · skip
                have i153 := z_eq 0 0 c153 i150 rfl
                refine g_aload_n 157 (gd rfl) rfl rfl ?_
                refine g_iconst 4 158 (gd rfl) rfl rfl ?_
                refine g_iload_n 159 (gd rfl) rfl rfl ?_
                refine g_callv (X := _) (As := [.int (Int32.ofInt 4), .int y46_2]) (r := []) (b := A 46) (q := 46) 162 (gd rfl) rfl rfl rfl rfl rfl (ww_o rfl) (Nat.le_of_ble_eq_true rfl) (Nat.zero_le _) (Nat.zero_le _) (f_168_46 (A := (ax A 30 a150)) (by omega) hI150 (in_w 1 5 (in_c 4 rfl) rfl) (in_w 0 1000 j46_2 rfl)) (fun e u h => h) (fun v u h => ?_)
                obtain ⟨s159, hI159, hF159, z159, rfl, rfl, i159, p159⟩ := h
                show GG _ _ _ _ _ _ _ _ [.int z159] _ _ _
                refine g_if_eq 165 169 (gd rfl) rfl rfl (fun c162 => ?_) (fun c162 => ?_)
                · skip
                  refine g_iconst 0 170 (gd rfl) rfl rfl ?_
                  have n170 : KL s159 := by exact kl_fr p150e hF159 rfl
                  have n170a : ((Int32.ofInt 0)).toInt ≠ 0 → (s159.2.2.1 30 0).toInt = nln s := by intro h; exact absurd rfl h
                  have n170b : ((Int32.ofInt 0)).toInt ≠ 0 → (s.2.2.1 2 0).toInt ≤ 3999 := by intro h; exact absurd rfl h
                  have n170c : ∀ k : Nat, (k : Int) < 7 * (s.2.2.1 2 0).toInt → s159.1 30 k = s.1 30 k := by exact fun k hk => by rw [hF159.1 30 rfl, p150h k (by rw [hL.2.2.1 2 0 rfl]; exact hk), hL.1 30 rfl]
                  have n170d : ((Int32.ofInt 0)).toInt ≠ 0 → ∀ a : Nat, TKN (s.1 47) (s.2.2.1 46 1).toInt.toNat a (s.2.2.1 46 4).toInt.toNat (s.2.2.1 46 2).toInt.toNat (s.2.2.1 46 3).toInt (s.2.2.1 46 5).toInt → ∃ c V, CMP (s.1 47) (s.2.2.1 46 1).toInt.toNat a (s.2.2.1 46 4).toInt.toNat c V (s159.2.2.1 46 2).toInt.toNat ∧ dkC (gvC s) c V ∧ gvC s159 = opC (gvC s) c V := by exact fun h => absurd rfl h
                  have n170e : ((Int32.ofInt 0)).toInt = 0 → ∀ a : Nat, TKN (s.1 47) (s.2.2.1 46 1).toInt.toNat a (s.2.2.1 46 4).toInt.toNat (s.2.2.1 46 2).toInt.toNat (s.2.2.1 46 3).toInt (s.2.2.1 46 5).toInt → CMX (s.1 47) (s.2.2.1 46 1).toInt.toNat a (s159.2.2.1 46 6).toInt (s159.2.2.1 46 7).toInt.toNat ∨ ∃ c V e, CMP (s.1 47) (s.2.2.1 46 1).toInt.toNat a (s159.2.2.1 46 7).toInt.toNat c V e ∧ ¬ dkC (gvC s) c V ∧ (s159.2.2.1 46 6).toInt = 4 := by first | (intro h; exact absurd h (by decide)) | (intro _ a ha; obtain ⟨h1, p1, k1, v1, h2⟩ := g46_6 a ha; have hk9 := p129b; rw [show sc46.1 47 = s.1 47 from g46_2.1 47 rfl, show sc46.2.2.1 46 1 = s.2.2.1 46 1 from g46_2.2.2.1 46 1 rfl, ← v46_46_2] at hk9; have h5 : y46_5.toInt.toNat = cmA y46_3.toInt := (by have h9 := shq_n g46_3; have h8 := p50; rw [h9] at h8; have h7 := (shq_5 g46_3).1; have h6 := g46_5; have a0 := oa14 ro_46_1 ((inv_F hIc46 448 28000 rfl v46_30_0)) ((inv_F hIc46 0 32 rfl v46_2_1)) ((inv_F hIc46 0 4000 rfl v46_2_0)) ((inv_F hIc46 0 1000 rfl v46_46_2)) j46_5 j46_4 j46_3 j46_2 i150a i135x13 i135x5 i129b i129a; have oc := oc_136_1_46; omega); have hcm : CMP (s.1 47) (s.2.2.1 46 1).toInt.toNat a (s.2.2.1 46 4).toInt.toNat y46_3.toInt (V31 s129) (s129.2.2.1 46 2).toInt.toNat := ⟨shq_i g46_3, ⟨_, by have h9 := ha; rw [g46_4.1, g46_4.2.1] at h9; exact h9⟩, fun i hi => by show ∃ q f, TSQ _ _ _ _ q f _ (s129.1 31 i).toInt; rw [hF129.1 31 rfl]; exact h1 i (by omega), (s129.2.2.1 46 4).toInt.toNat, (s129.2.2.1 46 5).toInt, by rw [← h5]; exact ⟨p1, w46_46_2.toInt.toNat, k1, v1, h2, by have h9 := hk9; rw [show (s129.2.2.1 46 3).toInt = 3 from (by rw [← e135x1]; have a0 := oa14 ro_46_1 ((inv_F hIc46 448 28000 rfl v46_30_0)) ((inv_F hIc46 0 32 rfl v46_2_1)) ((inv_F hIc46 0 4000 rfl v46_2_0)) ((inv_F hIc46 0 1000 rfl v46_46_2)) j46_5 j46_4 j46_3 j46_2 i150a i135x13 i135x5 i129b i129a; have oc := oc_136_1_46; omega)] at h9; exact h9⟩⟩; have h3 := p150j (by have a0 := oa14 ro_46_1 ((inv_F hIc46 448 28000 rfl v46_30_0)) ((inv_F hIc46 0 32 rfl v46_2_1)) ((inv_F hIc46 0 4000 rfl v46_2_0)) ((inv_F hIc46 0 1000 rfl v46_46_2)) j46_5 j46_4 j46_3 j46_2 i150a i135x13 i135x5 i129b i129a; have oc := oc_136_1_46; omega); rw [gvC_cg hL rfl] at h3; refine Or.inr ⟨y46_3.toInt, V31 s129, (s129.2.2.1 46 2).toInt.toNat, ?_, h3, by rw [p159.1]; rfl⟩; rw [p159.2, g46_4.2.2]; exact hcm)
                  have n170f : ((Int32.ofInt 0)).toInt ≠ 0 → TQ s159 := by first | (intro h; exact absurd rfl h) | (intro _; exact (p150i c153).2.2)
                  have n170g : ((Int32.ofInt 0)).toInt ≠ 0 → s159.2.2.1 46 6 = s.2.2.1 46 6 ∧ s159.2.2.1 46 7 = s.2.2.1 46 7 := by exact fun h => absurd rfl h
                  have n170h : ((Int32.ofInt 0)).toInt = 0 → 0 ≤ (s159.2.2.1 46 7).toInt := by first | (intro h; exact absurd h (by decide)) | (intro _; rw [p159.2]; have a0 := oa14 ro_46_1 ((inv_F hIc46 448 28000 rfl v46_30_0)) ((inv_F hIc46 0 32 rfl v46_2_1)) ((inv_F hIc46 0 4000 rfl v46_2_0)) ((inv_F hIc46 0 1000 rfl v46_46_2)) j46_5 j46_4 j46_3 j46_2 i150a i135x13 i135x5 i129b i129a; have oc := oc_136_1_46; omega)
                  have n170i : ((Int32.ofInt 0)).toInt ≠ 0 → LGC s s159 := by exact fun h => absurd rfl h
                  have n170j : (z129a).toInt ≤ (u_46_1).toInt := by have a0 := oa14 ro_46_1 ((inv_F hIc46 448 28000 rfl v46_30_0)) ((inv_F hIc46 0 32 rfl v46_2_1)) ((inv_F hIc46 0 4000 rfl v46_2_0)) ((inv_F hIc46 0 1000 rfl v46_46_2)) j46_5 j46_4 j46_3 j46_2 i150a i135x13 i135x5 i129b i129a; have oc := oc_136_1_46; omega
                  have n170k : (s159.2.2.1 46 2).toInt ≤ (s159.2.2.1 46 1).toInt := by have b0 : z129a = s159.2.2.1 46 2 := fr_F (fr_F (e129) hF150 rfl) hF159 rfl; have b1 : u_46_1 = s159.2.2.1 46 1 := fr_F (fr_F (fr_F (fr_F e_46_1 hFc46 rfl) hF129 rfl) hF150 rfl) hF159 rfl; rw [← b0, ← b1]; exact n170j
                  have n170l : (u_2_0).toInt ≤ (z150a).toInt := by have a0 := oa14 ro_46_1 ((inv_F hIc46 448 28000 rfl v46_30_0)) ((inv_F hIc46 0 32 rfl v46_2_1)) ((inv_F hIc46 0 4000 rfl v46_2_0)) ((inv_F hIc46 0 1000 rfl v46_46_2)) j46_5 j46_4 j46_3 j46_2 i150a i135x13 i135x5 i129b i129a; have oc := oc_136_1_46; omega
                  have n170m : (s.2.2.1 2 0).toInt ≤ (s159.2.2.1 2 0).toInt := by have b0 : z150a = s159.2.2.1 2 0 := fr_F (e150) hF159 rfl; first | (rw [← b0, ← e_2_0]; exact n170l) | (rw [← b0]; exact n170l)
                  exact g_ireturn (gd rfl) rfl (nb01 (in_w 0 1 (in_c 0 rfl) rfl)) (hP _ _ ⟨a150, s159, hI159, (fr_tr rfl (fr_tr rfl (fr_tr rfl hFc46 hF129) hF150) hF159), n170k, n170m, (Int32.ofInt 0), rfl, rfl, in_w 0 1 (in_c 0 rfl) rfl, n170, n170a, n170b, n170c, n170d, n170e, n170f, n170g, n170h, n170i⟩)
                · skip
                  exact zn_ne c162 i159 rfl
            · skip
              exact zn_eq c138 (in_c 1 rfl) rfl
      · skip
        have i53 := r_lt2 1 9 c53 j46_5 i50a rfl
        refine g_iload 58 (gd rfl) rfl rfl ?_
        refine g_aload_n 59 (gd rfl) rfl rfl ?_
        refine g_getA (q2 := 31) 62 (gd rfl) rfl rfl rfl rfl ?_
        refine g_alen (n := 5) (t := 0) 5 63 (gd rfl) rfl rfl (Nat.le_of_ble_eq_true rfl) rfl ?_
        refine g_cmp_ge 66 125 (gd rfl) rfl rfl (fun c63 => ?_) (fun c63 => ?_)
        · skip
          have i63 := r_le2 5 5 c63 (in_c 5 rfl) j46_5 rfl
          refine g_aload_n 126 (gd rfl) rfl rfl ?_
          refine g_bipush 7 128 (gd rfl) rfl rfl ?_
          refine g_iconst 1 129 (gd rfl) rfl rfl ?_
          have v129 : u_46_1 = sc46.2.2.1 46 1 := fr_F e_46_1 hFc46 rfl
          have n129 : (w46_46_2).toInt ≤ (u_46_1).toInt := by first | exact n46_0 | (have a0 := oa9 ro_46_1 ((inv_F hIc46 448 28000 rfl v46_30_0)) ((inv_F hIc46 0 32 rfl v46_2_1)) ((inv_F hIc46 0 4000 rfl v46_2_0)) ((inv_F hIc46 0 1000 rfl v46_46_2)) i63 j46_4 j46_3 j46_2; have oc := oc_136_1_46; omega)
          refine g_callv (X := _) (As := [.int (Int32.ofInt 7), .int (Int32.ofInt 1)]) (r := []) (b := A 46) (q := 46) 132 (gd rfl) rfl rfl rfl rfl rfl (ww_o rfl) (Nat.le_of_ble_eq_true rfl) (Nat.zero_le _) (Nat.zero_le _) (f_171_46 (by first | exact dq1 hd rfl | exact dq0 hd rfl | exact dq2 hd rfl | exact dq3 hd rfl | omega) hIc46 (in_w 7 7 (in_c 7 rfl) rfl) (in_w 1 1 (in_c 1 rfl) rfl) v46_46_2 v129 n129) (fun e u h => h) (fun v u h => ?_)
          obtain ⟨s129, hI129, hF129, n129a, n129b, n129c, rfl, rfl, p129, p129a, p129b⟩ := h
          obtain ⟨z129a, e129⟩ : ∃ w, w = s129.2.2.1 46 2 := ⟨_, rfl⟩
          have i129a := inv_F hI129 0 1000 rfl e129
          obtain ⟨z129b, e129a⟩ : ∃ w, w = s129.2.2.1 46 4 := ⟨_, rfl⟩
          have i129b := inv_F hI129 0 1000 rfl e129a
          rw [← (show z129a = s129.2.2.1 46 2 from e129)] at n129a
          rw [← (show u_46_1 = s129.2.2.1 46 1 from fr_F (fr_F e_46_1 hFc46 rfl) hF129 rfl)] at n129a
          rw [← (show z129a = s129.2.2.1 46 2 from e129)] at n129b
          rw [← (show z129b = s129.2.2.1 46 4 from e129a)] at n129b
          rw [← (show w46_46_2 = sc46.2.2.1 46 2 from v46_46_2)] at n129c
          rw [← (show z129b = s129.2.2.1 46 4 from e129a)] at n129c
          show GG _ _ _ _ _ _ _ _ [] _ _ _
          refine g_aload_n 133 (gd rfl) rfl rfl ?_
          refine g_bipush 59 135 (gd rfl) rfl rfl ?_
          refine g_callv (X := _) (As := [.int (Int32.ofInt 59)]) (r := []) (b := A 46) (q := 46) 138 (gd rfl) rfl rfl rfl rfl rfl (ww_o rfl) (Nat.le_of_ble_eq_true rfl) (mc := 0) (ms := 0) (Nat.zero_le _) (Nat.zero_le _) (P := fun v u => _) ?_ (fun e u h => h) (fun v u h => h)
          intro po135 xx135 hp135 hx135
          refine g_enter2 (k := 170) (N := 300) (by first | exact dq1 hd rfl | exact dq0 hd rfl | exact dq2 hd rfl | exact dq3 hd rfl | omega) rfl (Nat.le_of_ble_eq_true rfl) ?_
          refine g_aload_n 1 (gd rfl) rfl rfl ?_
          refine g_getI 4 (gd rfl) rfl rfl rfl (fun z135x1 e135x1 => ?_)
          have i135x1 := inv_F hI129 0 5 rfl e135x1
          refine g_iconst 3 5 (gd rfl) rfl rfl ?_
          refine g_cmp_ne 8 20 (gd rfl) rfl rfl (fun c135x5 => ?_) (fun c135x5 => ?_)
          · skip
            refine g_iconst 0 21 (gd rfl) rfl rfl ?_
            refine g_ireturn (gd rfl) rfl (nb01 (in_w 0 1 (in_c 0 rfl) rfl)) (hp135 _ _ ?_)
            show GG _ _ _ _ _ _ _ _ [.int (Int32.ofInt 0)] _ _ _
            refine g_if_ne 141 148 (gd rfl) rfl rfl (fun c138 => ?_) (fun c138 => ?_)
            · skip
              exact zn_ne c138 (in_c 0 rfl) rfl
            · skip
              refine g_aload_n 142 (gd rfl) rfl rfl ?_
              refine g_iconst 2 143 (gd rfl) rfl rfl ?_
              refine g_iconst 3 144 (gd rfl) rfl rfl ?_
              refine g_callv (X := _) (As := [.int (Int32.ofInt 2), .int (Int32.ofInt 3)]) (r := []) (b := A 46) (q := 46) 147 (gd rfl) rfl rfl rfl rfl rfl (ww_o rfl) (Nat.le_of_ble_eq_true rfl) (Nat.zero_le _) (Nat.zero_le _) (f_169_46 (by first | exact dq1 hd rfl | exact dq0 hd rfl | exact dq2 hd rfl | exact dq3 hd rfl | omega) hI129 (in_w 2 2 (in_c 2 rfl) rfl) (in_w 3 3 (in_c 3 rfl) rfl) e135x1 e129a) (fun e u h => h) (fun v u h => ?_)
              obtain ⟨s144, hI144, hF144, z144, rfl, rfl, i144, p144⟩ := h
              show GG _ _ _ _ _ _ _ _ [.int z144] _ _ _
              have n147 : KL s144 := by have hL9 : Fr ([31], [], [(46, 2), (46, 3), (46, 4), (46, 5), (46, 6), (46, 7)], []) s s144 := (fr_tr rfl (fr_tr rfl g46_2 hF129) hF144); exact kl_fr q_0 hL9 rfl
              have n147a : (z144).toInt ≠ 0 → (s144.2.2.1 30 0).toInt = nln s := by first | (intro h; exact absurd rfl h) | (intro h; exfalso; revert h; first | (unfold In at i39; omega) | (unfold In at i104; omega) | (unfold In at i144; omega))
              have n147b : (z144).toInt ≠ 0 → (s.2.2.1 2 0).toInt ≤ 3999 := by first | (intro h; exact absurd rfl h) | (intro h; exfalso; revert h; first | (unfold In at i39; omega) | (unfold In at i104; omega) | (unfold In at i144; omega))
              have n147c : ∀ k : Nat, (k : Int) < 7 * (s.2.2.1 2 0).toInt → s144.1 30 k = s.1 30 k := by have hL9 : Fr ([31], [], [(46, 2), (46, 3), (46, 4), (46, 5), (46, 6), (46, 7)], []) s s144 := (fr_tr rfl (fr_tr rfl g46_2 hF129) hF144); exact fun k _ => by rw [hL9.1 30 rfl]
              have n147d : (z144).toInt ≠ 0 → ∀ a : Nat, TKN (s.1 47) (s.2.2.1 46 1).toInt.toNat a (s.2.2.1 46 4).toInt.toNat (s.2.2.1 46 2).toInt.toNat (s.2.2.1 46 3).toInt (s.2.2.1 46 5).toInt → ∃ c V, CMP (s.1 47) (s.2.2.1 46 1).toInt.toNat a (s.2.2.1 46 4).toInt.toNat c V (s144.2.2.1 46 2).toInt.toNat ∧ dkC (gvC s) c V ∧ gvC s144 = opC (gvC s) c V := by first | (intro h; exact absurd rfl h) | (intro h; exfalso; revert h; first | (unfold In at i39; omega) | (unfold In at i104; omega) | (unfold In at i144; omega))
              have n147e : (z144).toInt = 0 → ∀ a : Nat, TKN (s.1 47) (s.2.2.1 46 1).toInt.toNat a (s.2.2.1 46 4).toInt.toNat (s.2.2.1 46 2).toInt.toNat (s.2.2.1 46 3).toInt (s.2.2.1 46 5).toInt → CMX (s.1 47) (s.2.2.1 46 1).toInt.toNat a (s144.2.2.1 46 6).toInt (s144.2.2.1 46 7).toInt.toNat ∨ ∃ c V e, CMP (s.1 47) (s.2.2.1 46 1).toInt.toNat a (s144.2.2.1 46 7).toInt.toNat c V e ∧ ¬ dkC (gvC s) c V ∧ (s144.2.2.1 46 6).toInt = 4 := by intro _ a ha; obtain ⟨h1, p1, k1, v1, h2⟩ := g46_6 a ha; have hk9 := p129b; rw [show sc46.1 47 = s.1 47 from g46_2.1 47 rfl, show sc46.2.2.1 46 1 = s.2.2.1 46 1 from g46_2.2.2.1 46 1 rfl, ← v46_46_2] at hk9; have h5 : y46_5.toInt.toNat = cmA y46_3.toInt := (by have h9 := shq_n g46_3; have h8 := p50; rw [h9] at h8; have h7 := (shq_5 g46_3).1; have h6 := g46_5; have a0 := oa12 ro_46_1 ((inv_F hIc46 448 28000 rfl v46_30_0)) ((inv_F hIc46 0 32 rfl v46_2_1)) ((inv_F hIc46 0 4000 rfl v46_2_0)) ((inv_F hIc46 0 1000 rfl v46_46_2)) i63 j46_4 j46_3 j46_2 i135x1 i129b i129a; have oc := oc_136_1_46; omega); refine Or.inl (Or.inr ⟨_, _, _, shq_i g46_3, by have h9 := ha; rw [g46_4.1, g46_4.2.1] at h9; exact h9, cmA y46_3.toInt, Nat.le_refl _, fun j hj => by obtain ⟨q, f, h9⟩ := h1 j (by omega); exact ⟨q, f, _, h9⟩, (s129.2.2.1 46 2).toInt.toNat, (s129.2.2.1 46 3).toInt, (s129.2.2.1 46 5).toInt, ?_, ?_, p144.1⟩); (rw [p144.2, ← h5]; exact ⟨p1, w46_46_2.toInt.toNat, k1, v1, h2, hk9⟩); (intro h9; unfold cmK at h9; rw [if_pos rfl] at h9; have h8 := tkn_v3 hk9 h9; first | (rw [← e135x1] at h9; have a0 := oa12 ro_46_1 ((inv_F hIc46 448 28000 rfl v46_30_0)) ((inv_F hIc46 0 32 rfl v46_2_1)) ((inv_F hIc46 0 4000 rfl v46_2_0)) ((inv_F hIc46 0 1000 rfl v46_46_2)) i63 j46_4 j46_3 j46_2 i135x1 i129b i129a; have oc := oc_136_1_46; omega) | (rw [← e135x9] at h8; have a0 := oa12 ro_46_1 ((inv_F hIc46 448 28000 rfl v46_30_0)) ((inv_F hIc46 0 32 rfl v46_2_1)) ((inv_F hIc46 0 4000 rfl v46_2_0)) ((inv_F hIc46 0 1000 rfl v46_46_2)) i63 j46_4 j46_3 j46_2 i135x1 i129b i129a; have oc := oc_136_1_46; omega))
              have n147f : (z144).toInt ≠ 0 → TQ s144 := by first | (intro h; exact absurd rfl h) | (intro h; exfalso; revert h; first | (unfold In at i39; omega) | (unfold In at i104; omega) | (unfold In at i144; omega))
              have n147g : (z144).toInt ≠ 0 → s144.2.2.1 46 6 = s.2.2.1 46 6 ∧ s144.2.2.1 46 7 = s.2.2.1 46 7 := by first | (intro h; exact absurd rfl h) | (intro h; exfalso; revert h; first | (unfold In at i39; omega) | (unfold In at i104; omega) | (unfold In at i144; omega))
              have n147h : (z144).toInt = 0 → 0 ≤ (s144.2.2.1 46 7).toInt := by intro _; rw [p144.2, ← e129a]; have a0 := oa12 ro_46_1 ((inv_F hIc46 448 28000 rfl v46_30_0)) ((inv_F hIc46 0 32 rfl v46_2_1)) ((inv_F hIc46 0 4000 rfl v46_2_0)) ((inv_F hIc46 0 1000 rfl v46_46_2)) i63 j46_4 j46_3 j46_2 i135x1 i129b i129a; have oc := oc_136_1_46; omega
              have n147i : (z144).toInt ≠ 0 → LGC s s144 := by first | (intro h; exact absurd rfl h) | (intro h; exfalso; revert h; first | (unfold In at i39; omega) | (unfold In at i104; omega) | (unfold In at i144; omega))
              have n147j : (z129a).toInt ≤ (u_46_1).toInt := by have a0 := oa12 ro_46_1 ((inv_F hIc46 448 28000 rfl v46_30_0)) ((inv_F hIc46 0 32 rfl v46_2_1)) ((inv_F hIc46 0 4000 rfl v46_2_0)) ((inv_F hIc46 0 1000 rfl v46_46_2)) i63 j46_4 j46_3 j46_2 i135x1 i129b i129a; have oc := oc_136_1_46; omega
              have n147k : (s144.2.2.1 46 2).toInt ≤ (s144.2.2.1 46 1).toInt := by have b0 : z129a = s144.2.2.1 46 2 := fr_F (e129) hF144 rfl; have b1 : u_46_1 = s144.2.2.1 46 1 := fr_F (fr_F (fr_F e_46_1 hFc46 rfl) hF129 rfl) hF144 rfl; rw [← b0, ← b1]; exact n147j
              have n147l : (u_2_0).toInt ≤ (w46_2_0).toInt := by first | exact n46_1 | (have a0 := oa12 ro_46_1 ((inv_F hIc46 448 28000 rfl v46_30_0)) ((inv_F hIc46 0 32 rfl v46_2_1)) ((inv_F hIc46 0 4000 rfl v46_2_0)) ((inv_F hIc46 0 1000 rfl v46_46_2)) i63 j46_4 j46_3 j46_2 i135x1 i129b i129a; have oc := oc_136_1_46; omega)
              have n147m : (s.2.2.1 2 0).toInt ≤ (s144.2.2.1 2 0).toInt := by have b0 : w46_2_0 = s144.2.2.1 2 0 := fr_F (fr_F (v46_2_0) hF129 rfl) hF144 rfl; first | (rw [← b0, ← e_2_0]; exact n147l) | (rw [← b0]; exact n147l)
              exact g_ireturn (gd rfl) rfl (nb01 (in_w 0 1 i144 rfl)) (hP _ _ ⟨(A 30), s144, hI144, (fr_tr rfl (fr_tr rfl hFc46 hF129) hF144), n147k, n147m, z144, rfl, (by rw [ax_id]), in_w 0 1 i144 rfl, n147, n147a, n147b, n147c, n147d, n147e, n147f, n147g, n147h, n147i⟩)
          · skip
            have i135x5 := r_eq1 3 3 c135x5 i135x1 (in_c 3 rfl) rfl
            refine g_aload_n 9 (gd rfl) rfl rfl ?_
            refine g_getI 12 (gd rfl) rfl rfl rfl (fun z135x9 e135x9 => ?_)
            refine g_iload_n 13 (gd rfl) rfl rfl ?_
            refine g_cmp_ne 16 20 (gd rfl) rfl rfl (fun c135x13 => ?_) (fun c135x13 => ?_)
            · skip
              refine g_iconst 0 21 (gd rfl) rfl rfl ?_
              refine g_ireturn (gd rfl) rfl (nb01 (in_w 0 1 (in_c 0 rfl) rfl)) (hp135 _ _ ?_)
              show GG _ _ _ _ _ _ _ _ [.int (Int32.ofInt 0)] _ _ _
              refine g_if_ne 141 148 (gd rfl) rfl rfl (fun c138 => ?_) (fun c138 => ?_)
              · skip
                exact zn_ne c138 (in_c 0 rfl) rfl
              · skip
                refine g_aload_n 142 (gd rfl) rfl rfl ?_
                refine g_iconst 2 143 (gd rfl) rfl rfl ?_
                refine g_iconst 3 144 (gd rfl) rfl rfl ?_
                refine g_callv (X := _) (As := [.int (Int32.ofInt 2), .int (Int32.ofInt 3)]) (r := []) (b := A 46) (q := 46) 147 (gd rfl) rfl rfl rfl rfl rfl (ww_o rfl) (Nat.le_of_ble_eq_true rfl) (Nat.zero_le _) (Nat.zero_le _) (f_169_46 (by first | exact dq1 hd rfl | exact dq0 hd rfl | exact dq2 hd rfl | exact dq3 hd rfl | omega) hI129 (in_w 2 2 (in_c 2 rfl) rfl) (in_w 3 3 (in_c 3 rfl) rfl) e135x1 e129a) (fun e u h => h) (fun v u h => ?_)
                obtain ⟨s144, hI144, hF144, z144, rfl, rfl, i144, p144⟩ := h
                show GG _ _ _ _ _ _ _ _ [.int z144] _ _ _
                have n147 : KL s144 := by have hL9 : Fr ([31], [], [(46, 2), (46, 3), (46, 4), (46, 5), (46, 6), (46, 7)], []) s s144 := (fr_tr rfl (fr_tr rfl g46_2 hF129) hF144); exact kl_fr q_0 hL9 rfl
                have n147a : (z144).toInt ≠ 0 → (s144.2.2.1 30 0).toInt = nln s := by first | (intro h; exact absurd rfl h) | (intro h; exfalso; revert h; first | (unfold In at i39; omega) | (unfold In at i104; omega) | (unfold In at i144; omega))
                have n147b : (z144).toInt ≠ 0 → (s.2.2.1 2 0).toInt ≤ 3999 := by first | (intro h; exact absurd rfl h) | (intro h; exfalso; revert h; first | (unfold In at i39; omega) | (unfold In at i104; omega) | (unfold In at i144; omega))
                have n147c : ∀ k : Nat, (k : Int) < 7 * (s.2.2.1 2 0).toInt → s144.1 30 k = s.1 30 k := by have hL9 : Fr ([31], [], [(46, 2), (46, 3), (46, 4), (46, 5), (46, 6), (46, 7)], []) s s144 := (fr_tr rfl (fr_tr rfl g46_2 hF129) hF144); exact fun k _ => by rw [hL9.1 30 rfl]
                have n147d : (z144).toInt ≠ 0 → ∀ a : Nat, TKN (s.1 47) (s.2.2.1 46 1).toInt.toNat a (s.2.2.1 46 4).toInt.toNat (s.2.2.1 46 2).toInt.toNat (s.2.2.1 46 3).toInt (s.2.2.1 46 5).toInt → ∃ c V, CMP (s.1 47) (s.2.2.1 46 1).toInt.toNat a (s.2.2.1 46 4).toInt.toNat c V (s144.2.2.1 46 2).toInt.toNat ∧ dkC (gvC s) c V ∧ gvC s144 = opC (gvC s) c V := by first | (intro h; exact absurd rfl h) | (intro h; exfalso; revert h; first | (unfold In at i39; omega) | (unfold In at i104; omega) | (unfold In at i144; omega))
                have n147e : (z144).toInt = 0 → ∀ a : Nat, TKN (s.1 47) (s.2.2.1 46 1).toInt.toNat a (s.2.2.1 46 4).toInt.toNat (s.2.2.1 46 2).toInt.toNat (s.2.2.1 46 3).toInt (s.2.2.1 46 5).toInt → CMX (s.1 47) (s.2.2.1 46 1).toInt.toNat a (s144.2.2.1 46 6).toInt (s144.2.2.1 46 7).toInt.toNat ∨ ∃ c V e, CMP (s.1 47) (s.2.2.1 46 1).toInt.toNat a (s144.2.2.1 46 7).toInt.toNat c V e ∧ ¬ dkC (gvC s) c V ∧ (s144.2.2.1 46 6).toInt = 4 := by intro _ a ha; obtain ⟨h1, p1, k1, v1, h2⟩ := g46_6 a ha; have hk9 := p129b; rw [show sc46.1 47 = s.1 47 from g46_2.1 47 rfl, show sc46.2.2.1 46 1 = s.2.2.1 46 1 from g46_2.2.2.1 46 1 rfl, ← v46_46_2] at hk9; have h5 : y46_5.toInt.toNat = cmA y46_3.toInt := (by have h9 := shq_n g46_3; have h8 := p50; rw [h9] at h8; have h7 := (shq_5 g46_3).1; have h6 := g46_5; have a0 := oa12 ro_46_1 ((inv_F hIc46 448 28000 rfl v46_30_0)) ((inv_F hIc46 0 32 rfl v46_2_1)) ((inv_F hIc46 0 4000 rfl v46_2_0)) ((inv_F hIc46 0 1000 rfl v46_46_2)) i63 j46_4 j46_3 j46_2 i135x5 i129b i129a; have oc := oc_136_1_46; omega); refine Or.inl (Or.inr ⟨_, _, _, shq_i g46_3, by have h9 := ha; rw [g46_4.1, g46_4.2.1] at h9; exact h9, cmA y46_3.toInt, Nat.le_refl _, fun j hj => by obtain ⟨q, f, h9⟩ := h1 j (by omega); exact ⟨q, f, _, h9⟩, (s129.2.2.1 46 2).toInt.toNat, (s129.2.2.1 46 3).toInt, (s129.2.2.1 46 5).toInt, ?_, ?_, p144.1⟩); (rw [p144.2, ← h5]; exact ⟨p1, w46_46_2.toInt.toNat, k1, v1, h2, hk9⟩); (intro h9; unfold cmK at h9; rw [if_pos rfl] at h9; have h8 := tkn_v3 hk9 h9; first | (rw [← e135x1] at h9; have a0 := oa12 ro_46_1 ((inv_F hIc46 448 28000 rfl v46_30_0)) ((inv_F hIc46 0 32 rfl v46_2_1)) ((inv_F hIc46 0 4000 rfl v46_2_0)) ((inv_F hIc46 0 1000 rfl v46_46_2)) i63 j46_4 j46_3 j46_2 i135x5 i129b i129a; have oc := oc_136_1_46; omega) | (rw [← e135x9] at h8; have a0 := oa12 ro_46_1 ((inv_F hIc46 448 28000 rfl v46_30_0)) ((inv_F hIc46 0 32 rfl v46_2_1)) ((inv_F hIc46 0 4000 rfl v46_2_0)) ((inv_F hIc46 0 1000 rfl v46_46_2)) i63 j46_4 j46_3 j46_2 i135x5 i129b i129a; have oc := oc_136_1_46; omega))
                have n147f : (z144).toInt ≠ 0 → TQ s144 := by first | (intro h; exact absurd rfl h) | (intro h; exfalso; revert h; first | (unfold In at i39; omega) | (unfold In at i104; omega) | (unfold In at i144; omega))
                have n147g : (z144).toInt ≠ 0 → s144.2.2.1 46 6 = s.2.2.1 46 6 ∧ s144.2.2.1 46 7 = s.2.2.1 46 7 := by first | (intro h; exact absurd rfl h) | (intro h; exfalso; revert h; first | (unfold In at i39; omega) | (unfold In at i104; omega) | (unfold In at i144; omega))
                have n147h : (z144).toInt = 0 → 0 ≤ (s144.2.2.1 46 7).toInt := by intro _; rw [p144.2, ← e129a]; have a0 := oa12 ro_46_1 ((inv_F hIc46 448 28000 rfl v46_30_0)) ((inv_F hIc46 0 32 rfl v46_2_1)) ((inv_F hIc46 0 4000 rfl v46_2_0)) ((inv_F hIc46 0 1000 rfl v46_46_2)) i63 j46_4 j46_3 j46_2 i135x5 i129b i129a; have oc := oc_136_1_46; omega
                have n147i : (z144).toInt ≠ 0 → LGC s s144 := by first | (intro h; exact absurd rfl h) | (intro h; exfalso; revert h; first | (unfold In at i39; omega) | (unfold In at i104; omega) | (unfold In at i144; omega))
                have n147j : (z129a).toInt ≤ (u_46_1).toInt := by have a0 := oa12 ro_46_1 ((inv_F hIc46 448 28000 rfl v46_30_0)) ((inv_F hIc46 0 32 rfl v46_2_1)) ((inv_F hIc46 0 4000 rfl v46_2_0)) ((inv_F hIc46 0 1000 rfl v46_46_2)) i63 j46_4 j46_3 j46_2 i135x5 i129b i129a; have oc := oc_136_1_46; omega
                have n147k : (s144.2.2.1 46 2).toInt ≤ (s144.2.2.1 46 1).toInt := by have b0 : z129a = s144.2.2.1 46 2 := fr_F (e129) hF144 rfl; have b1 : u_46_1 = s144.2.2.1 46 1 := fr_F (fr_F (fr_F e_46_1 hFc46 rfl) hF129 rfl) hF144 rfl; rw [← b0, ← b1]; exact n147j
                have n147l : (u_2_0).toInt ≤ (w46_2_0).toInt := by first | exact n46_1 | (have a0 := oa12 ro_46_1 ((inv_F hIc46 448 28000 rfl v46_30_0)) ((inv_F hIc46 0 32 rfl v46_2_1)) ((inv_F hIc46 0 4000 rfl v46_2_0)) ((inv_F hIc46 0 1000 rfl v46_46_2)) i63 j46_4 j46_3 j46_2 i135x5 i129b i129a; have oc := oc_136_1_46; omega)
                have n147m : (s.2.2.1 2 0).toInt ≤ (s144.2.2.1 2 0).toInt := by have b0 : w46_2_0 = s144.2.2.1 2 0 := fr_F (fr_F (v46_2_0) hF129 rfl) hF144 rfl; first | (rw [← b0, ← e_2_0]; exact n147l) | (rw [← b0]; exact n147l)
                exact g_ireturn (gd rfl) rfl (nb01 (in_w 0 1 i144 rfl)) (hP _ _ ⟨(A 30), s144, hI144, (fr_tr rfl (fr_tr rfl hFc46 hF129) hF144), n147k, n147m, z144, rfl, (by rw [ax_id]), in_w 0 1 i144 rfl, n147, n147a, n147b, n147c, n147d, n147e, n147f, n147g, n147h, n147i⟩)
            · skip
              have i135x13 := r_eq1 59 59 c135x13 (i_rng z135x9) (in_c 59 rfl) rfl
              refine g_iconst 1 17 (gd rfl) rfl rfl ?_
              refine g_goto 21 (gd rfl) rfl ?_
              refine g_ireturn (gd rfl) rfl (nb01 (in_w 0 1 (in_c 1 rfl) rfl)) (hp135 _ _ ?_)
              show GG _ _ _ _ _ _ _ _ [.int (Int32.ofInt 1)] _ _ _
              refine g_if_ne 141 148 (gd rfl) rfl rfl (fun c138 => ?_) (fun c138 => ?_)
              · skip
                refine g_aload_n 149 (gd rfl) rfl rfl ?_
                refine g_iload_n 150 (gd rfl) rfl rfl ?_
                have hL : Fr ([31], [], [(46, 2), (46, 3), (46, 4), (46, 5), (46, 6), (46, 7)], []) s s129 := (fr_tr rfl g46_2 hF129)
                have v150 : w46_2_0 = s129.2.2.1 2 0 := fr_F (v46_2_0) hF129 rfl
                have v150a : w46_2_1 = s129.2.2.1 2 1 := fr_F (v46_2_1) hF129 rfl
                have v150b : w46_30_0 = s129.2.2.1 30 0 := fr_F (v46_30_0) hF129 rfl
                have p150 : KL s129 := by exact kl_fr q_0 hL rfl
                have p150a : (y46_3).toInt = 13 → In (s129.1 31 0) 0 25 := by intro h13; rw [hF129.1 31 rfl]; exact g46_1 (g46_0 h13) (by have hz1 := zn_1 (g46_0 h13); have h9 := p50; have a0 := oa13 ro_46_1 ((inv_F hIc46 448 28000 rfl v46_30_0)) ((inv_F hIc46 0 32 rfl v46_2_1)) ((inv_F hIc46 0 4000 rfl v46_2_0)) ((inv_F hIc46 0 1000 rfl v46_46_2)) i63 j46_4 j46_3 j46_2 i135x13 i135x5 i129b i129a; have oc := oc_136_1_46; omega)
                have p150b : cmI (y46_3).toInt := by exact shq_i g46_3
                have p150c : TQ s129 := by exact tq_fr q_3 hL rfl
                have p150d : (y46_3).toInt = 0 → In (s129.1 31 4) 0 25 := by intro h0; obtain ⟨a, ha⟩ := q_2; obtain ⟨q, f, h5⟩ := (g46_6 a ha).1 4 (by have h9 := shq_n g46_3; have h8 := p50; rw [h9, h0] at h8; have h7 : (cmA 0 : Int) = 5 := rfl; have a0 := oa13 ro_46_1 ((inv_F hIc46 448 28000 rfl v46_30_0)) ((inv_F hIc46 0 32 rfl v46_2_1)) ((inv_F hIc46 0 4000 rfl v46_2_0)) ((inv_F hIc46 0 1000 rfl v46_46_2)) i63 j46_4 j46_3 j46_2 i135x13 i135x5 i129b i129a; have oc := oc_136_1_46; omega); rw [hF129.1 31 rfl]; rw [h0] at h5; obtain ⟨p8, e8, k8, v8, -, h6⟩ := h5; exact tkn_v1 h6 rfl
                refine g_callv (X := _) (As := [.int y46_3]) (r := []) (b := A 1) (q := 1) 153 (gd rfl) rfl rfl rfl rfl rfl (ww_o rfl) (Nat.le_of_ble_eq_true rfl) (Nat.le_of_eq (lc_cg ((show Fr ([31], [], [(46, 2), (46, 3), (46, 4), (46, 5), (46, 6), (46, 7)], []) s s129 from (fr_tr rfl g46_2 hF129)).2.2.1 30 0 rfl) ((show Fr ([31], [], [(46, 2), (46, 3), (46, 4), (46, 5), (46, 6), (46, 7)], []) s s129 from (fr_tr rfl g46_2 hF129)).2.2.1 2 0 rfl)).1) (Nat.le_of_eq (lc_cg ((show Fr ([31], [], [(46, 2), (46, 3), (46, 4), (46, 5), (46, 6), (46, 7)], []) s s129 from (fr_tr rfl g46_2 hF129)).2.2.1 30 0 rfl) ((show Fr ([31], [], [(46, 2), (46, 3), (46, 4), (46, 5), (46, 6), (46, 7)], []) s s129 from (fr_tr rfl g46_2 hF129)).2.2.1 2 0 rfl)).2.1) (f_138_1 (by first | exact dq1 hd rfl | exact dq0 hd rfl | exact dq2 hd rfl | exact dq3 hd rfl | omega) hI129 (in_w (-1) 25 j46_3 rfl) v150 v150a v150b rfl p150 p150a p150b p150c p150d) (fun e u h => h) (fun v u h => ?_)
                obtain ⟨a150, s150, hI150, hF150, n150, z150, rfl, rfl, i150, p150e, p150f, p150g, p150h, p150i, p150j, p150k⟩ := h
                obtain ⟨z150a, e150⟩ : ∃ w, w = s150.2.2.1 2 0 := ⟨_, rfl⟩
                have i150a := inv_F hI150 0 4000 rfl e150
                rw [← (show w46_2_0 = s129.2.2.1 2 0 from fr_F (v46_2_0) hF129 rfl)] at n150
                rw [← (show z150a = s150.2.2.1 2 0 from e150)] at n150
                show GG _ _ _ _ _ _ _ _ [.int z150] _ _ _
                refine g_if_ne 156 165 (gd rfl) rfl rfl (fun c153 => ?_) (fun c153 => ?_)
                · skip
                  have i153 := z_ne 1 1 c153 i150 rfl
                  refine g_iconst 1 166 (gd rfl) rfl rfl ?_
                  refine g_goto 170 (gd rfl) rfl ?_
                  have n170 : KL s150 := by exact p150e
                  have n170a : ((Int32.ofInt 1)).toInt ≠ 0 → (s150.2.2.1 30 0).toInt = nln s := by first | (intro h; exact absurd rfl h) | (intro _; rw [← (lc_cg (s := s) (hL.2.2.1 30 0 rfl) (hL.2.2.1 2 0 rfl)).2.2]; exact p150f c153)
                  have n170b : ((Int32.ofInt 1)).toInt ≠ 0 → (s.2.2.1 2 0).toInt ≤ 3999 := by first | (intro h; exact absurd rfl h) | (intro _; rw [← hL.2.2.1 2 0 rfl]; exact p150g c153)
                  have n170c : ∀ k : Nat, (k : Int) < 7 * (s.2.2.1 2 0).toInt → s150.1 30 k = s.1 30 k := by exact fun k hk => by rw [p150h k (by rw [hL.2.2.1 2 0 rfl]; exact hk), hL.1 30 rfl]
                  have n170d : ((Int32.ofInt 1)).toInt ≠ 0 → ∀ a : Nat, TKN (s.1 47) (s.2.2.1 46 1).toInt.toNat a (s.2.2.1 46 4).toInt.toNat (s.2.2.1 46 2).toInt.toNat (s.2.2.1 46 3).toInt (s.2.2.1 46 5).toInt → ∃ c V, CMP (s.1 47) (s.2.2.1 46 1).toInt.toNat a (s.2.2.1 46 4).toInt.toNat c V (s150.2.2.1 46 2).toInt.toNat ∧ dkC (gvC s) c V ∧ gvC s150 = opC (gvC s) c V := by first | (intro h; exact absurd rfl h) | (intro _ a ha; obtain ⟨h1, p1, k1, v1, h2⟩ := g46_6 a ha; have hk9 := p129b; rw [show sc46.1 47 = s.1 47 from g46_2.1 47 rfl, show sc46.2.2.1 46 1 = s.2.2.1 46 1 from g46_2.2.2.1 46 1 rfl, ← v46_46_2] at hk9; have h5 : y46_5.toInt.toNat = cmA y46_3.toInt := (by have h9 := shq_n g46_3; have h8 := p50; rw [h9] at h8; have h7 := (shq_5 g46_3).1; have h6 := g46_5; have a0 := oa14 ro_46_1 ((inv_F hIc46 448 28000 rfl v46_30_0)) ((inv_F hIc46 0 32 rfl v46_2_1)) ((inv_F hIc46 0 4000 rfl v46_2_0)) ((inv_F hIc46 0 1000 rfl v46_46_2)) i63 j46_4 j46_3 j46_2 i150a i135x13 i135x5 i129b i129a; have oc := oc_136_1_46; omega); have hcm : CMP (s.1 47) (s.2.2.1 46 1).toInt.toNat a (s.2.2.1 46 4).toInt.toNat y46_3.toInt (V31 s129) (s129.2.2.1 46 2).toInt.toNat := ⟨shq_i g46_3, ⟨_, by have h9 := ha; rw [g46_4.1, g46_4.2.1] at h9; exact h9⟩, fun i hi => by show ∃ q f, TSQ _ _ _ _ q f _ (s129.1 31 i).toInt; rw [hF129.1 31 rfl]; exact h1 i (by omega), (s129.2.2.1 46 4).toInt.toNat, (s129.2.2.1 46 5).toInt, by rw [← h5]; exact ⟨p1, w46_46_2.toInt.toNat, k1, v1, h2, by have h9 := hk9; rw [show (s129.2.2.1 46 3).toInt = 3 from (by rw [← e135x1]; have a0 := oa14 ro_46_1 ((inv_F hIc46 448 28000 rfl v46_30_0)) ((inv_F hIc46 0 32 rfl v46_2_1)) ((inv_F hIc46 0 4000 rfl v46_2_0)) ((inv_F hIc46 0 1000 rfl v46_46_2)) i63 j46_4 j46_3 j46_2 i150a i135x13 i135x5 i129b i129a; have oc := oc_136_1_46; omega)] at h9; exact h9⟩⟩; have h3 := p150i c153; rw [gvC_cg hL rfl] at h3; exact ⟨_, _, by rw [hF150.2.2.1 46 2 rfl]; exact hcm, h3.1, h3.2.1⟩)
                  have n170e : ((Int32.ofInt 1)).toInt = 0 → ∀ a : Nat, TKN (s.1 47) (s.2.2.1 46 1).toInt.toNat a (s.2.2.1 46 4).toInt.toNat (s.2.2.1 46 2).toInt.toNat (s.2.2.1 46 3).toInt (s.2.2.1 46 5).toInt → CMX (s.1 47) (s.2.2.1 46 1).toInt.toNat a (s150.2.2.1 46 6).toInt (s150.2.2.1 46 7).toInt.toNat ∨ ∃ c V e, CMP (s.1 47) (s.2.2.1 46 1).toInt.toNat a (s150.2.2.1 46 7).toInt.toNat c V e ∧ ¬ dkC (gvC s) c V ∧ (s150.2.2.1 46 6).toInt = 4 := by intro h; exact absurd h (by decide)
                  have n170f : ((Int32.ofInt 1)).toInt ≠ 0 → TQ s150 := by first | (intro h; exact absurd rfl h) | (intro _; exact (p150i c153).2.2)
                  have n170g : ((Int32.ofInt 1)).toInt ≠ 0 → s150.2.2.1 46 6 = s.2.2.1 46 6 ∧ s150.2.2.1 46 7 = s.2.2.1 46 7 := by first | (intro h; exact absurd rfl h) | (intro _; exact ⟨(hF150.2.2.1 46 6 rfl).trans ((hF129.2.2.1 46 6 rfl).trans g46_7.1), (hF150.2.2.1 46 7 rfl).trans ((hF129.2.2.1 46 7 rfl).trans g46_7.2)⟩)
                  have n170h : ((Int32.ofInt 1)).toInt = 0 → 0 ≤ (s150.2.2.1 46 7).toInt := by intro h; exact absurd h (by decide)
                  have n170i : ((Int32.ofInt 1)).toInt ≠ 0 → LGC s s150 := by first | (intro h; exact absurd rfl h) | (intro _; exact lgc_fr (p150k c153) hL rfl)
                  have n170j : (z129a).toInt ≤ (u_46_1).toInt := by have a0 := oa14 ro_46_1 ((inv_F hIc46 448 28000 rfl v46_30_0)) ((inv_F hIc46 0 32 rfl v46_2_1)) ((inv_F hIc46 0 4000 rfl v46_2_0)) ((inv_F hIc46 0 1000 rfl v46_46_2)) i63 j46_4 j46_3 j46_2 i150a i135x13 i135x5 i129b i129a; have oc := oc_136_1_46; omega
                  have n170k : (s150.2.2.1 46 2).toInt ≤ (s150.2.2.1 46 1).toInt := by have b0 : z129a = s150.2.2.1 46 2 := fr_F (e129) hF150 rfl; have b1 : u_46_1 = s150.2.2.1 46 1 := fr_F (fr_F (fr_F e_46_1 hFc46 rfl) hF129 rfl) hF150 rfl; rw [← b0, ← b1]; exact n170j
                  have n170l : (u_2_0).toInt ≤ (z150a).toInt := by have a0 := oa14 ro_46_1 ((inv_F hIc46 448 28000 rfl v46_30_0)) ((inv_F hIc46 0 32 rfl v46_2_1)) ((inv_F hIc46 0 4000 rfl v46_2_0)) ((inv_F hIc46 0 1000 rfl v46_46_2)) i63 j46_4 j46_3 j46_2 i150a i135x13 i135x5 i129b i129a; have oc := oc_136_1_46; omega
                  have n170m : (s.2.2.1 2 0).toInt ≤ (s150.2.2.1 2 0).toInt := by have b0 : z150a = s150.2.2.1 2 0 := e150; first | (rw [← b0, ← e_2_0]; exact n170l) | (rw [← b0]; exact n170l)
                  exact g_ireturn (gd rfl) rfl (nb01 (in_w 0 1 (in_c 1 rfl) rfl)) (hP _ _ ⟨a150, s150, hI150, (fr_tr rfl (fr_tr rfl hFc46 hF129) hF150), n170k, n170m, (Int32.ofInt 1), rfl, rfl, in_w 0 1 (in_c 1 rfl) rfl, n170, n170a, n170b, n170c, n170d, n170e, n170f, n170g, n170h, n170i⟩)
                · skip
                  have i153 := z_eq 0 0 c153 i150 rfl
                  refine g_aload_n 157 (gd rfl) rfl rfl ?_
                  refine g_iconst 4 158 (gd rfl) rfl rfl ?_
                  refine g_iload_n 159 (gd rfl) rfl rfl ?_
                  refine g_callv (X := _) (As := [.int (Int32.ofInt 4), .int y46_2]) (r := []) (b := A 46) (q := 46) 162 (gd rfl) rfl rfl rfl rfl rfl (ww_o rfl) (Nat.le_of_ble_eq_true rfl) (Nat.zero_le _) (Nat.zero_le _) (f_168_46 (A := (ax A 30 a150)) (by omega) hI150 (in_w 1 5 (in_c 4 rfl) rfl) (in_w 0 1000 j46_2 rfl)) (fun e u h => h) (fun v u h => ?_)
                  obtain ⟨s159, hI159, hF159, z159, rfl, rfl, i159, p159⟩ := h
                  show GG _ _ _ _ _ _ _ _ [.int z159] _ _ _
                  refine g_if_eq 165 169 (gd rfl) rfl rfl (fun c162 => ?_) (fun c162 => ?_)
                  · skip
                    refine g_iconst 0 170 (gd rfl) rfl rfl ?_
                    have n170 : KL s159 := by exact kl_fr p150e hF159 rfl
                    have n170a : ((Int32.ofInt 0)).toInt ≠ 0 → (s159.2.2.1 30 0).toInt = nln s := by intro h; exact absurd rfl h
                    have n170b : ((Int32.ofInt 0)).toInt ≠ 0 → (s.2.2.1 2 0).toInt ≤ 3999 := by intro h; exact absurd rfl h
                    have n170c : ∀ k : Nat, (k : Int) < 7 * (s.2.2.1 2 0).toInt → s159.1 30 k = s.1 30 k := by exact fun k hk => by rw [hF159.1 30 rfl, p150h k (by rw [hL.2.2.1 2 0 rfl]; exact hk), hL.1 30 rfl]
                    have n170d : ((Int32.ofInt 0)).toInt ≠ 0 → ∀ a : Nat, TKN (s.1 47) (s.2.2.1 46 1).toInt.toNat a (s.2.2.1 46 4).toInt.toNat (s.2.2.1 46 2).toInt.toNat (s.2.2.1 46 3).toInt (s.2.2.1 46 5).toInt → ∃ c V, CMP (s.1 47) (s.2.2.1 46 1).toInt.toNat a (s.2.2.1 46 4).toInt.toNat c V (s159.2.2.1 46 2).toInt.toNat ∧ dkC (gvC s) c V ∧ gvC s159 = opC (gvC s) c V := by exact fun h => absurd rfl h
                    have n170e : ((Int32.ofInt 0)).toInt = 0 → ∀ a : Nat, TKN (s.1 47) (s.2.2.1 46 1).toInt.toNat a (s.2.2.1 46 4).toInt.toNat (s.2.2.1 46 2).toInt.toNat (s.2.2.1 46 3).toInt (s.2.2.1 46 5).toInt → CMX (s.1 47) (s.2.2.1 46 1).toInt.toNat a (s159.2.2.1 46 6).toInt (s159.2.2.1 46 7).toInt.toNat ∨ ∃ c V e, CMP (s.1 47) (s.2.2.1 46 1).toInt.toNat a (s159.2.2.1 46 7).toInt.toNat c V e ∧ ¬ dkC (gvC s) c V ∧ (s159.2.2.1 46 6).toInt = 4 := by first | (intro h; exact absurd h (by decide)) | (intro _ a ha; obtain ⟨h1, p1, k1, v1, h2⟩ := g46_6 a ha; have hk9 := p129b; rw [show sc46.1 47 = s.1 47 from g46_2.1 47 rfl, show sc46.2.2.1 46 1 = s.2.2.1 46 1 from g46_2.2.2.1 46 1 rfl, ← v46_46_2] at hk9; have h5 : y46_5.toInt.toNat = cmA y46_3.toInt := (by have h9 := shq_n g46_3; have h8 := p50; rw [h9] at h8; have h7 := (shq_5 g46_3).1; have h6 := g46_5; have a0 := oa14 ro_46_1 ((inv_F hIc46 448 28000 rfl v46_30_0)) ((inv_F hIc46 0 32 rfl v46_2_1)) ((inv_F hIc46 0 4000 rfl v46_2_0)) ((inv_F hIc46 0 1000 rfl v46_46_2)) i63 j46_4 j46_3 j46_2 i150a i135x13 i135x5 i129b i129a; have oc := oc_136_1_46; omega); have hcm : CMP (s.1 47) (s.2.2.1 46 1).toInt.toNat a (s.2.2.1 46 4).toInt.toNat y46_3.toInt (V31 s129) (s129.2.2.1 46 2).toInt.toNat := ⟨shq_i g46_3, ⟨_, by have h9 := ha; rw [g46_4.1, g46_4.2.1] at h9; exact h9⟩, fun i hi => by show ∃ q f, TSQ _ _ _ _ q f _ (s129.1 31 i).toInt; rw [hF129.1 31 rfl]; exact h1 i (by omega), (s129.2.2.1 46 4).toInt.toNat, (s129.2.2.1 46 5).toInt, by rw [← h5]; exact ⟨p1, w46_46_2.toInt.toNat, k1, v1, h2, by have h9 := hk9; rw [show (s129.2.2.1 46 3).toInt = 3 from (by rw [← e135x1]; have a0 := oa14 ro_46_1 ((inv_F hIc46 448 28000 rfl v46_30_0)) ((inv_F hIc46 0 32 rfl v46_2_1)) ((inv_F hIc46 0 4000 rfl v46_2_0)) ((inv_F hIc46 0 1000 rfl v46_46_2)) i63 j46_4 j46_3 j46_2 i150a i135x13 i135x5 i129b i129a; have oc := oc_136_1_46; omega)] at h9; exact h9⟩⟩; have h3 := p150j (by have a0 := oa14 ro_46_1 ((inv_F hIc46 448 28000 rfl v46_30_0)) ((inv_F hIc46 0 32 rfl v46_2_1)) ((inv_F hIc46 0 4000 rfl v46_2_0)) ((inv_F hIc46 0 1000 rfl v46_46_2)) i63 j46_4 j46_3 j46_2 i150a i135x13 i135x5 i129b i129a; have oc := oc_136_1_46; omega); rw [gvC_cg hL rfl] at h3; refine Or.inr ⟨y46_3.toInt, V31 s129, (s129.2.2.1 46 2).toInt.toNat, ?_, h3, by rw [p159.1]; rfl⟩; rw [p159.2, g46_4.2.2]; exact hcm)
                    have n170f : ((Int32.ofInt 0)).toInt ≠ 0 → TQ s159 := by first | (intro h; exact absurd rfl h) | (intro _; exact (p150i c153).2.2)
                    have n170g : ((Int32.ofInt 0)).toInt ≠ 0 → s159.2.2.1 46 6 = s.2.2.1 46 6 ∧ s159.2.2.1 46 7 = s.2.2.1 46 7 := by exact fun h => absurd rfl h
                    have n170h : ((Int32.ofInt 0)).toInt = 0 → 0 ≤ (s159.2.2.1 46 7).toInt := by first | (intro h; exact absurd h (by decide)) | (intro _; rw [p159.2]; have a0 := oa14 ro_46_1 ((inv_F hIc46 448 28000 rfl v46_30_0)) ((inv_F hIc46 0 32 rfl v46_2_1)) ((inv_F hIc46 0 4000 rfl v46_2_0)) ((inv_F hIc46 0 1000 rfl v46_46_2)) i63 j46_4 j46_3 j46_2 i150a i135x13 i135x5 i129b i129a; have oc := oc_136_1_46; omega)
                    have n170i : ((Int32.ofInt 0)).toInt ≠ 0 → LGC s s159 := by exact fun h => absurd rfl h
                    have n170j : (z129a).toInt ≤ (u_46_1).toInt := by have a0 := oa14 ro_46_1 ((inv_F hIc46 448 28000 rfl v46_30_0)) ((inv_F hIc46 0 32 rfl v46_2_1)) ((inv_F hIc46 0 4000 rfl v46_2_0)) ((inv_F hIc46 0 1000 rfl v46_46_2)) i63 j46_4 j46_3 j46_2 i150a i135x13 i135x5 i129b i129a; have oc := oc_136_1_46; omega
                    have n170k : (s159.2.2.1 46 2).toInt ≤ (s159.2.2.1 46 1).toInt := by have b0 : z129a = s159.2.2.1 46 2 := fr_F (fr_F (e129) hF150 rfl) hF159 rfl; have b1 : u_46_1 = s159.2.2.1 46 1 := fr_F (fr_F (fr_F (fr_F e_46_1 hFc46 rfl) hF129 rfl) hF150 rfl) hF159 rfl; rw [← b0, ← b1]; exact n170j
                    have n170l : (u_2_0).toInt ≤ (z150a).toInt := by have a0 := oa14 ro_46_1 ((inv_F hIc46 448 28000 rfl v46_30_0)) ((inv_F hIc46 0 32 rfl v46_2_1)) ((inv_F hIc46 0 4000 rfl v46_2_0)) ((inv_F hIc46 0 1000 rfl v46_46_2)) i63 j46_4 j46_3 j46_2 i150a i135x13 i135x5 i129b i129a; have oc := oc_136_1_46; omega
                    have n170m : (s.2.2.1 2 0).toInt ≤ (s159.2.2.1 2 0).toInt := by have b0 : z150a = s159.2.2.1 2 0 := fr_F (e150) hF159 rfl; first | (rw [← b0, ← e_2_0]; exact n170l) | (rw [← b0]; exact n170l)
                    exact g_ireturn (gd rfl) rfl (nb01 (in_w 0 1 (in_c 0 rfl) rfl)) (hP _ _ ⟨a150, s159, hI159, (fr_tr rfl (fr_tr rfl (fr_tr rfl hFc46 hF129) hF150) hF159), n170k, n170m, (Int32.ofInt 0), rfl, rfl, in_w 0 1 (in_c 0 rfl) rfl, n170, n170a, n170b, n170c, n170d, n170e, n170f, n170g, n170h, n170i⟩)
                  · skip
                    exact zn_ne c162 i159 rfl
              · skip
                exact zn_eq c138 (in_c 1 rfl) rfl
        · skip
          have i63 := r_lt1 0 4 c63 j46_5 (in_c 5 rfl) rfl
          refine g_aload_n 67 (gd rfl) rfl rfl ?_
          refine g_bipush 7 69 (gd rfl) rfl rfl ?_
          refine g_iconst 1 70 (gd rfl) rfl rfl ?_
          have v70 : u_46_1 = sc46.2.2.1 46 1 := fr_F e_46_1 hFc46 rfl
          have n70 : (w46_46_2).toInt ≤ (u_46_1).toInt := by first | exact n46_0 | (have a0 := oa9 ro_46_1 ((inv_F hIc46 448 28000 rfl v46_30_0)) ((inv_F hIc46 0 32 rfl v46_2_1)) ((inv_F hIc46 0 4000 rfl v46_2_0)) ((inv_F hIc46 0 1000 rfl v46_46_2)) i63 j46_4 j46_3 j46_2; have oc := oc_136_1_46; omega)
          refine g_callv (X := _) (As := [.int (Int32.ofInt 7), .int (Int32.ofInt 1)]) (r := []) (b := A 46) (q := 46) 73 (gd rfl) rfl rfl rfl rfl rfl (ww_o rfl) (Nat.le_of_ble_eq_true rfl) (Nat.zero_le _) (Nat.zero_le _) (f_171_46 (by first | exact dq1 hd rfl | exact dq0 hd rfl | exact dq2 hd rfl | exact dq3 hd rfl | omega) hIc46 (in_w 7 7 (in_c 7 rfl) rfl) (in_w 1 1 (in_c 1 rfl) rfl) v46_46_2 v70 n70) (fun e u h => h) (fun v u h => ?_)
          obtain ⟨s70, hI70, hF70, n70a, n70b, n70c, rfl, rfl, p70, p70a, p70b⟩ := h
          obtain ⟨z70a, e70⟩ : ∃ w, w = s70.2.2.1 46 2 := ⟨_, rfl⟩
          have i70a := inv_F hI70 0 1000 rfl e70
          obtain ⟨z70b, e70a⟩ : ∃ w, w = s70.2.2.1 46 4 := ⟨_, rfl⟩
          have i70b := inv_F hI70 0 1000 rfl e70a
          rw [← (show z70a = s70.2.2.1 46 2 from e70)] at n70a
          rw [← (show u_46_1 = s70.2.2.1 46 1 from fr_F (fr_F e_46_1 hFc46 rfl) hF70 rfl)] at n70a
          rw [← (show z70a = s70.2.2.1 46 2 from e70)] at n70b
          rw [← (show z70b = s70.2.2.1 46 4 from e70a)] at n70b
          rw [← (show w46_46_2 = sc46.2.2.1 46 2 from v46_46_2)] at n70c
          rw [← (show z70b = s70.2.2.1 46 4 from e70a)] at n70c
          show GG _ _ _ _ _ _ _ _ [] _ _ _
          refine g_aload 75 (gd rfl) rfl rfl ?_
          refine g_iload 77 (gd rfl) rfl rfl ?_
          have i77 : In y46_4 0 6 := in_w 0 6 j46_4 rfl
          have n77 : 0 ≤ (y46_5).toInt := by have a := i63; unfold In at a; omega
          have n77a : (y46_5).toInt < (zn y46_4 : Int) := by have h9 := p50; have a0 := oa11 ro_46_1 ((inv_F hIc46 448 28000 rfl v46_30_0)) ((inv_F hIc46 0 32 rfl v46_2_1)) ((inv_F hIc46 0 4000 rfl v46_2_0)) ((inv_F hIc46 0 1000 rfl v46_46_2)) i63 j46_4 j46_3 j46_2 i70b i70a; have oc := oc_136_1_46; omega
          refine g_callS (X := _) (As := [.int y46_5]) (r := []) (x := y46_4) 80 (gd rfl) rfl rfl rfl zm_429 rfl rfl rfl i77 (Nat.le_of_ble_eq_true rfl) (f_429 i77 n77 n77a (by omega)) (fun e u h => h) (fun v u h => ?_)
          obtain ⟨z77, rfl, rfl, i77a, p77, p77a⟩ := h
          show GG _ _ _ _ _ _ _ _ [.int z77] _ _ _
          refine g_bipush 108 82 (gd rfl) rfl rfl ?_
          refine g_cmp_ne 85 89 (gd rfl) rfl rfl (fun c82 => ?_) (fun c82 => ?_)
          · skip
            refine g_iconst 2 90 (gd rfl) rfl rfl ?_
            refine g_istore 92 (gd rfl) rfl (Nat.le_of_ble_eq_true rfl) ?_
            refine g_aload_n 93 (gd rfl) rfl rfl ?_
            refine g_getI 96 (gd rfl) rfl rfl rfl (fun z93 e93 => ?_)
            have i93 := inv_F hI70 0 5 rfl e93
            refine g_iload 98 (gd rfl) rfl rfl ?_
            refine g_cmp_eq 101 108 (gd rfl) rfl rfl (fun c98 => ?_) (fun c98 => ?_)
            · skip
              have i98 := r_eq1 2 2 c98 i93 (in_c 2 rfl) rfl
              refine g_aload_n 109 (gd rfl) rfl rfl ?_
              refine g_getA (q2 := 31) 112 (gd rfl) rfl rfl rfl rfl ?_
              refine g_iload 114 (gd rfl) rfl rfl ?_
              refine g_aload_n 115 (gd rfl) rfl rfl ?_
              refine g_getI 118 (gd rfl) rfl rfl rfl (fun z115 e115 => ?_)
              refine g_iastore 119 (gd rfl) rfl (n := 5) rfl (in_ix i63 rfl) ?_
              have hI118 := inv_sI (q := 31) (j := y46_5.toNatClampNeg) hI70 rfl (in_w (-2147483648) 2147483647 (i_rng z115) rfl)
              refine g_iinc 122 (gd rfl) rfl rfl (Nat.le_of_ble_eq_true rfl) (fun z119 e119 => ?_)
              have i119 := in_add 1 5 e119 i63 (in_c 1 rfl) rfl rfl
              refine g_goto 46 (gd rfl) rfl ?_
              have v46 : z70a = (sI s70 31 y46_5.toNatClampNeg z115).2.2.1 46 2 := sI_F (e70)
              have v46a : w46_2_0 = (sI s70 31 y46_5.toNatClampNeg z115).2.2.1 2 0 := sI_F (fr_F (v46_2_0) hF70 rfl)
              have v46b : w46_2_1 = (sI s70 31 y46_5.toNatClampNeg z115).2.2.1 2 1 := sI_F (fr_F (v46_2_1) hF70 rfl)
              have v46c : w46_30_0 = (sI s70 31 y46_5.toNatClampNeg z115).2.2.1 30 0 := sI_F (fr_F (v46_30_0) hF70 rfl)
              have n46 : (z70a).toInt ≤ (u_46_1).toInt := by have a0 := oa11 ro_46_1 ((inv_F hIc46 448 28000 rfl v46_30_0)) ((inv_F hIc46 0 32 rfl v46_2_1)) ((inv_F hIc46 0 4000 rfl v46_2_0)) ((inv_F hIc46 0 1000 rfl v46_46_2)) i63 j46_4 j46_3 j46_2 ((in_c 2 rfl)) i119; have a11 := t_add e119 i63 (in_c 1 rfl) rfl; have a12 := oa4 ((in_c 1 rfl)) i98 i70b i70a; have oc := oc_136_1_46; omega
              have n46a : (u_2_0).toInt ≤ (w46_2_0).toInt := by first | exact n46_1 | (have a0 := oa11 ro_46_1 ((inv_F hIc46 448 28000 rfl v46_30_0)) ((inv_F hIc46 0 32 rfl v46_2_1)) ((inv_F hIc46 0 4000 rfl v46_2_0)) ((inv_F hIc46 0 1000 rfl v46_46_2)) i63 j46_4 j46_3 j46_2 ((in_c 2 rfl)) i119; have a11 := t_add e119 i63 (in_c 1 rfl) rfl; have a12 := oa4 ((in_c 1 rfl)) i98 i70b i70a; have oc := oc_136_1_46; omega)
              have n46b : (y46_3).toInt = 13 → (y46_4).toInt = 1 := by exact g46_0
              have n46c : (y46_4).toInt = 1 → 1 ≤ (z119).toInt → In ((sI s70 31 y46_5.toNatClampNeg z115).1 31 0) 0 25 := by intro h4 _; first | (exfalso; have h9 := p77 h4; have c8 : (Int32.ofInt 108).toInt = 108 := (by decide); omega) | (have hz1 := zn_1 h4; have hi0 : y46_5.toInt = 0 := (by have h9 := p50; have a0 := oa11 ro_46_1 ((inv_F hIc46 448 28000 rfl v46_30_0)) ((inv_F hIc46 0 32 rfl v46_2_1)) ((inv_F hIc46 0 4000 rfl v46_2_0)) ((inv_F hIc46 0 1000 rfl v46_46_2)) i63 j46_4 j46_3 j46_2 ((in_c 2 rfl)) i119; have a11 := t_add e119 i63 (in_c 1 rfl) rfl; have a12 := oa4 ((in_c 1 rfl)) i98 i70b i70a; have oc := oc_136_1_46; omega); rw [sI_q, show y46_5.toNatClampNeg = 0 from (by show y46_5.toInt.toNat = 0; omega), ug_at, e115]; exact p70a (by rw [← e93]; exact c98.trans (by decide)))
              have n46d : Fr ([31], [], [(46, 2), (46, 3), (46, 4), (46, 5), (46, 6), (46, 7)], []) s (sI s70 31 y46_5.toNatClampNeg z115) := by exact fr_sI rfl (fr_tr rfl g46_2 hF70)
              have n46e : SHQ (y46_3).toInt (y46_4).toInt := by exact g46_3
              have n46f : (s.2.2.1 46 3).toInt = 1 ∧ (s.2.2.1 46 5).toInt = (y46_3).toInt ∧ (y46_2) = s.2.2.1 46 4 := by exact g46_4
              have n46g : (z119).toInt ≤ (cmA (y46_3).toInt : Int) := by have h9 := shq_n g46_3; have h8 := p50; rw [h9] at h8; have a0 := oa11 ro_46_1 ((inv_F hIc46 448 28000 rfl v46_30_0)) ((inv_F hIc46 0 32 rfl v46_2_1)) ((inv_F hIc46 0 4000 rfl v46_2_0)) ((inv_F hIc46 0 1000 rfl v46_46_2)) i63 j46_4 j46_3 j46_2 ((in_c 2 rfl)) i119; have a11 := t_add e119 i63 (in_c 1 rfl) rfl; have a12 := oa4 ((in_c 1 rfl)) i98 i70b i70a; have oc := oc_136_1_46; omega
              have n46h : ∀ a : Nat, TKN (s.1 47) (s.2.2.1 46 1).toInt.toNat a (s.2.2.1 46 4).toInt.toNat (s.2.2.1 46 2).toInt.toNat (s.2.2.1 46 3).toInt (s.2.2.1 46 5).toInt → (∀ j, j < (z119).toInt.toNat → ∃ q f, TSQ (s.1 47) (s.2.2.1 46 1).toInt.toNat a (j + 1) q f (cmK (y46_3).toInt (j + 1)) ((sI s70 31 y46_5.toNatClampNeg z115).1 31 j).toInt) ∧ ∃ p k v, TSQ (s.1 47) (s.2.2.1 46 1).toInt.toNat a (z119).toInt.toNat p (z70a).toInt.toNat k v := by intro a ha; obtain ⟨h1, p1, k1, v1, h2⟩ := g46_6 a ha; have hk9 := p70b; rw [show sc46.1 47 = s.1 47 from g46_2.1 47 rfl, show sc46.2.2.1 46 1 = s.2.2.1 46 1 from g46_2.2.2.1 46 1 rfl, ← v46_46_2] at hk9; have hq9 := shq_k g46_3 (j := y46_5.toNatClampNeg) (by have h9 := shq_n g46_3; have h8 := p50; rw [h9] at h8; show y46_5.toInt.toNat < _; have a0 := oa11 ro_46_1 ((inv_F hIc46 448 28000 rfl v46_30_0)) ((inv_F hIc46 0 32 rfl v46_2_1)) ((inv_F hIc46 0 4000 rfl v46_2_0)) ((inv_F hIc46 0 1000 rfl v46_46_2)) i63 j46_4 j46_3 j46_2 ((in_c 2 rfl)) i119; have a11 := t_add e119 i63 (in_c 1 rfl) rfl; have a12 := oa4 ((in_c 1 rfl)) i98 i70b i70a; have oc := oc_136_1_46; omega); rw [← p77a] at hq9; have hn9 : TSQ (s.1 47) (s.2.2.1 46 1).toInt.toNat a (y46_5.toInt.toNat + 1) (s70.2.2.1 46 4).toInt.toNat (s70.2.2.1 46 2).toInt.toNat (s70.2.2.1 46 3).toInt (s70.2.2.1 46 5).toInt := ⟨p1, w46_46_2.toInt.toNat, k1, v1, h2, hk9⟩; rw [show z119.toInt.toNat = y46_5.toInt.toNat + 1 from (by have a0 := oa11 ro_46_1 ((inv_F hIc46 448 28000 rfl v46_30_0)) ((inv_F hIc46 0 32 rfl v46_2_1)) ((inv_F hIc46 0 4000 rfl v46_2_0)) ((inv_F hIc46 0 1000 rfl v46_46_2)) i63 j46_4 j46_3 j46_2 ((in_c 2 rfl)) i119; have a11 := t_add e119 i63 (in_c 1 rfl) rfl; have a12 := oa4 ((in_c 1 rfl)) i98 i70b i70a; have oc := oc_136_1_46; omega)]; refine ⟨fun j hj => ?_, _, _, _, by rw [← (show z70a = (sI s70 31 y46_5.toNatClampNeg z115).2.2.1 46 2 from sI_F (e70)), ← e70] at *; exact hn9⟩; rw [sI_q]; by_cases hc : j = y46_5.toNatClampNeg; (rw [hc, ug_at, show y46_5.toNatClampNeg = y46_5.toInt.toNat from rfl, show cmK y46_3.toInt (y46_5.toInt.toNat + 1) = (s70.2.2.1 46 3).toInt from (by rw [← e93]; first | (rw [show cmK y46_3.toInt (y46_5.toInt.toNat + 1) = 1 from hq9.1 (by have a0 := oa11 ro_46_1 ((inv_F hIc46 448 28000 rfl v46_30_0)) ((inv_F hIc46 0 32 rfl v46_2_1)) ((inv_F hIc46 0 4000 rfl v46_2_0)) ((inv_F hIc46 0 1000 rfl v46_46_2)) i63 j46_4 j46_3 j46_2 ((in_c 2 rfl)) i119; have a11 := t_add e119 i63 (in_c 1 rfl) rfl; have a12 := oa4 ((in_c 1 rfl)) i98 i70b i70a; have oc := oc_136_1_46; omega)]; have a0 := oa11 ro_46_1 ((inv_F hIc46 448 28000 rfl v46_30_0)) ((inv_F hIc46 0 32 rfl v46_2_1)) ((inv_F hIc46 0 4000 rfl v46_2_0)) ((inv_F hIc46 0 1000 rfl v46_46_2)) i63 j46_4 j46_3 j46_2 ((in_c 2 rfl)) i119; have a11 := t_add e119 i63 (in_c 1 rfl) rfl; have a12 := oa4 ((in_c 1 rfl)) i98 i70b i70a; have oc := oc_136_1_46; omega) | (rw [show cmK y46_3.toInt (y46_5.toInt.toNat + 1) = 2 from hq9.2 (by have a0 := oa11 ro_46_1 ((inv_F hIc46 448 28000 rfl v46_30_0)) ((inv_F hIc46 0 32 rfl v46_2_1)) ((inv_F hIc46 0 4000 rfl v46_2_0)) ((inv_F hIc46 0 1000 rfl v46_46_2)) i63 j46_4 j46_3 j46_2 ((in_c 2 rfl)) i119; have a11 := t_add e119 i63 (in_c 1 rfl) rfl; have a12 := oa4 ((in_c 1 rfl)) i98 i70b i70a; have oc := oc_136_1_46; omega)]; have a0 := oa11 ro_46_1 ((inv_F hIc46 448 28000 rfl v46_30_0)) ((inv_F hIc46 0 32 rfl v46_2_1)) ((inv_F hIc46 0 4000 rfl v46_2_0)) ((inv_F hIc46 0 1000 rfl v46_46_2)) i63 j46_4 j46_3 j46_2 ((in_c 2 rfl)) i119; have a11 := t_add e119 i63 (in_c 1 rfl) rfl; have a12 := oa4 ((in_c 1 rfl)) i98 i70b i70a; have oc := oc_136_1_46; omega)), e115]; exact ⟨_, _, hn9⟩); (rw [ug_ne hc, hF70.1 31 rfl]; exact h1 j (by have h9 : y46_5.toNatClampNeg = y46_5.toInt.toNat := rfl; omega))
              have n46i : (sI s70 31 y46_5.toNatClampNeg z115).2.2.1 46 6 = s.2.2.1 46 6 ∧ (sI s70 31 y46_5.toNatClampNeg z115).2.2.1 46 7 = s.2.2.1 46 7 := by exact ⟨(hF70.2.2.1 46 6 rfl).trans g46_7.1, (hF70.2.2.1 46 7 rfl).trans g46_7.2⟩
              exact gg_w (by first | exact Nat.le_add_right _ _ | exact gw2 | exact gw3 | exact gwe rfl | exact gwf rfl | exact gwg rfl | exact gwh rfl | omega) (gg_f (gf_cons rfl (gf_cons rfl (gf_cons rfl (gf_cons rfl (gf_cons rfl (gf_cons rfl gf_nil)))))) (ih46 (sI s70 31 y46_5.toNatClampNeg z115) y46_2 y46_3 y46_4 z119 z70a w46_2_0 w46_2_1 w46_30_0 hI118 (fr_sI rfl (fr_tr rfl hFc46 hF70)) (in_w 0 1000 j46_2 rfl) (in_w (-1) 25 j46_3 rfl) (in_w 1 5 j46_4 rfl) (in_w 0 5 i119 rfl) v46 v46a v46b v46c n46 n46a n46b n46c n46d n46e n46f n46g n46h n46i (m_up mm46 (t_add e119 i63 (in_c 1 rfl) rfl) (in_w 1 1 (in_c 1 rfl) rfl))))
            · skip
              refine g_aload_n 102 (gd rfl) rfl rfl ?_
              refine g_iconst 2 103 (gd rfl) rfl rfl ?_
              refine g_iconst 3 104 (gd rfl) rfl rfl ?_
              refine g_callv (X := _) (As := [.int (Int32.ofInt 2), .int (Int32.ofInt 3)]) (r := []) (b := A 46) (q := 46) 107 (gd rfl) rfl rfl rfl rfl rfl (ww_o rfl) (Nat.le_of_ble_eq_true rfl) (Nat.zero_le _) (Nat.zero_le _) (f_169_46 (by first | exact dq1 hd rfl | exact dq0 hd rfl | exact dq2 hd rfl | exact dq3 hd rfl | omega) hI70 (in_w 2 2 (in_c 2 rfl) rfl) (in_w 3 3 (in_c 3 rfl) rfl) e93 e70a) (fun e u h => h) (fun v u h => ?_)
              obtain ⟨s104, hI104, hF104, z104, rfl, rfl, i104, p104⟩ := h
              show GG _ _ _ _ _ _ _ _ [.int z104] _ _ _
              have n107 : KL s104 := by have hL9 : Fr ([31], [], [(46, 2), (46, 3), (46, 4), (46, 5), (46, 6), (46, 7)], []) s s104 := (fr_tr rfl (fr_tr rfl g46_2 hF70) hF104); exact kl_fr q_0 hL9 rfl
              have n107a : (z104).toInt ≠ 0 → (s104.2.2.1 30 0).toInt = nln s := by first | (intro h; exact absurd rfl h) | (intro h; exfalso; revert h; first | (unfold In at i39; omega) | (unfold In at i104; omega) | (unfold In at i144; omega))
              have n107b : (z104).toInt ≠ 0 → (s.2.2.1 2 0).toInt ≤ 3999 := by first | (intro h; exact absurd rfl h) | (intro h; exfalso; revert h; first | (unfold In at i39; omega) | (unfold In at i104; omega) | (unfold In at i144; omega))
              have n107c : ∀ k : Nat, (k : Int) < 7 * (s.2.2.1 2 0).toInt → s104.1 30 k = s.1 30 k := by have hL9 : Fr ([31], [], [(46, 2), (46, 3), (46, 4), (46, 5), (46, 6), (46, 7)], []) s s104 := (fr_tr rfl (fr_tr rfl g46_2 hF70) hF104); exact fun k _ => by rw [hL9.1 30 rfl]
              have n107d : (z104).toInt ≠ 0 → ∀ a : Nat, TKN (s.1 47) (s.2.2.1 46 1).toInt.toNat a (s.2.2.1 46 4).toInt.toNat (s.2.2.1 46 2).toInt.toNat (s.2.2.1 46 3).toInt (s.2.2.1 46 5).toInt → ∃ c V, CMP (s.1 47) (s.2.2.1 46 1).toInt.toNat a (s.2.2.1 46 4).toInt.toNat c V (s104.2.2.1 46 2).toInt.toNat ∧ dkC (gvC s) c V ∧ gvC s104 = opC (gvC s) c V := by first | (intro h; exact absurd rfl h) | (intro h; exfalso; revert h; first | (unfold In at i39; omega) | (unfold In at i104; omega) | (unfold In at i144; omega))
              have n107e : (z104).toInt = 0 → ∀ a : Nat, TKN (s.1 47) (s.2.2.1 46 1).toInt.toNat a (s.2.2.1 46 4).toInt.toNat (s.2.2.1 46 2).toInt.toNat (s.2.2.1 46 3).toInt (s.2.2.1 46 5).toInt → CMX (s.1 47) (s.2.2.1 46 1).toInt.toNat a (s104.2.2.1 46 6).toInt (s104.2.2.1 46 7).toInt.toNat ∨ ∃ c V e, CMP (s.1 47) (s.2.2.1 46 1).toInt.toNat a (s104.2.2.1 46 7).toInt.toNat c V e ∧ ¬ dkC (gvC s) c V ∧ (s104.2.2.1 46 6).toInt = 4 := by intro _ a ha; obtain ⟨h1, p1, k1, v1, h2⟩ := g46_6 a ha; have hk9 := p70b; rw [show sc46.1 47 = s.1 47 from g46_2.1 47 rfl, show sc46.2.2.1 46 1 = s.2.2.1 46 1 from g46_2.2.2.1 46 1 rfl, ← v46_46_2] at hk9; have hq9 := shq_k g46_3 (j := y46_5.toNatClampNeg) (by have h9 := shq_n g46_3; have h8 := p50; rw [h9] at h8; show y46_5.toInt.toNat < _; have a0 := oa13 ro_46_1 ((inv_F hIc46 448 28000 rfl v46_30_0)) ((inv_F hIc46 0 32 rfl v46_2_1)) ((inv_F hIc46 0 4000 rfl v46_2_0)) ((inv_F hIc46 0 1000 rfl v46_46_2)) i63 j46_4 j46_3 j46_2 ((in_c 2 rfl)) i93 i70b i70a; have oc := oc_136_1_46; omega); rw [← p77a] at hq9; refine Or.inl (Or.inr ⟨_, _, _, shq_i g46_3, by have h9 := ha; rw [g46_4.1, g46_4.2.1] at h9; exact h9, y46_5.toInt.toNat, by have h9 := g46_5; omega, fun j hj => by obtain ⟨q, f, h9⟩ := h1 j hj; exact ⟨q, f, _, h9⟩, (s70.2.2.1 46 2).toInt.toNat, (s70.2.2.1 46 3).toInt, (s70.2.2.1 46 5).toInt, ?_, ?_, p104.1⟩); (rw [p104.2]; exact ⟨p1, w46_46_2.toInt.toNat, k1, v1, h2, hk9⟩); (rw [← e93]; first | (rw [show cmK y46_3.toInt (y46_5.toInt.toNat + 1) = 1 from hq9.1 (by have a0 := oa13 ro_46_1 ((inv_F hIc46 448 28000 rfl v46_30_0)) ((inv_F hIc46 0 32 rfl v46_2_1)) ((inv_F hIc46 0 4000 rfl v46_2_0)) ((inv_F hIc46 0 1000 rfl v46_46_2)) i63 j46_4 j46_3 j46_2 ((in_c 2 rfl)) i93 i70b i70a; have oc := oc_136_1_46; omega)]; have a0 := oa13 ro_46_1 ((inv_F hIc46 448 28000 rfl v46_30_0)) ((inv_F hIc46 0 32 rfl v46_2_1)) ((inv_F hIc46 0 4000 rfl v46_2_0)) ((inv_F hIc46 0 1000 rfl v46_46_2)) i63 j46_4 j46_3 j46_2 ((in_c 2 rfl)) i93 i70b i70a; have oc := oc_136_1_46; omega) | (rw [show cmK y46_3.toInt (y46_5.toInt.toNat + 1) = 2 from hq9.2 (by have a0 := oa13 ro_46_1 ((inv_F hIc46 448 28000 rfl v46_30_0)) ((inv_F hIc46 0 32 rfl v46_2_1)) ((inv_F hIc46 0 4000 rfl v46_2_0)) ((inv_F hIc46 0 1000 rfl v46_46_2)) i63 j46_4 j46_3 j46_2 ((in_c 2 rfl)) i93 i70b i70a; have oc := oc_136_1_46; omega)]; have a0 := oa13 ro_46_1 ((inv_F hIc46 448 28000 rfl v46_30_0)) ((inv_F hIc46 0 32 rfl v46_2_1)) ((inv_F hIc46 0 4000 rfl v46_2_0)) ((inv_F hIc46 0 1000 rfl v46_46_2)) i63 j46_4 j46_3 j46_2 ((in_c 2 rfl)) i93 i70b i70a; have oc := oc_136_1_46; omega))
              have n107f : (z104).toInt ≠ 0 → TQ s104 := by first | (intro h; exact absurd rfl h) | (intro h; exfalso; revert h; first | (unfold In at i39; omega) | (unfold In at i104; omega) | (unfold In at i144; omega))
              have n107g : (z104).toInt ≠ 0 → s104.2.2.1 46 6 = s.2.2.1 46 6 ∧ s104.2.2.1 46 7 = s.2.2.1 46 7 := by first | (intro h; exact absurd rfl h) | (intro h; exfalso; revert h; first | (unfold In at i39; omega) | (unfold In at i104; omega) | (unfold In at i144; omega))
              have n107h : (z104).toInt = 0 → 0 ≤ (s104.2.2.1 46 7).toInt := by intro _; rw [p104.2, ← e70a]; have a0 := oa13 ro_46_1 ((inv_F hIc46 448 28000 rfl v46_30_0)) ((inv_F hIc46 0 32 rfl v46_2_1)) ((inv_F hIc46 0 4000 rfl v46_2_0)) ((inv_F hIc46 0 1000 rfl v46_46_2)) i63 j46_4 j46_3 j46_2 ((in_c 2 rfl)) i93 i70b i70a; have oc := oc_136_1_46; omega
              have n107i : (z104).toInt ≠ 0 → LGC s s104 := by first | (intro h; exact absurd rfl h) | (intro h; exfalso; revert h; first | (unfold In at i39; omega) | (unfold In at i104; omega) | (unfold In at i144; omega))
              have n107j : (z70a).toInt ≤ (u_46_1).toInt := by have a0 := oa13 ro_46_1 ((inv_F hIc46 448 28000 rfl v46_30_0)) ((inv_F hIc46 0 32 rfl v46_2_1)) ((inv_F hIc46 0 4000 rfl v46_2_0)) ((inv_F hIc46 0 1000 rfl v46_46_2)) i63 j46_4 j46_3 j46_2 ((in_c 2 rfl)) i93 i70b i70a; have oc := oc_136_1_46; omega
              have n107k : (s104.2.2.1 46 2).toInt ≤ (s104.2.2.1 46 1).toInt := by have b0 : z70a = s104.2.2.1 46 2 := fr_F (e70) hF104 rfl; have b1 : u_46_1 = s104.2.2.1 46 1 := fr_F (fr_F (fr_F e_46_1 hFc46 rfl) hF70 rfl) hF104 rfl; rw [← b0, ← b1]; exact n107j
              have n107l : (u_2_0).toInt ≤ (w46_2_0).toInt := by first | exact n46_1 | (have a0 := oa13 ro_46_1 ((inv_F hIc46 448 28000 rfl v46_30_0)) ((inv_F hIc46 0 32 rfl v46_2_1)) ((inv_F hIc46 0 4000 rfl v46_2_0)) ((inv_F hIc46 0 1000 rfl v46_46_2)) i63 j46_4 j46_3 j46_2 ((in_c 2 rfl)) i93 i70b i70a; have oc := oc_136_1_46; omega)
              have n107m : (s.2.2.1 2 0).toInt ≤ (s104.2.2.1 2 0).toInt := by have b0 : w46_2_0 = s104.2.2.1 2 0 := fr_F (fr_F (v46_2_0) hF70 rfl) hF104 rfl; first | (rw [← b0, ← e_2_0]; exact n107l) | (rw [← b0]; exact n107l)
              exact g_ireturn (gd rfl) rfl (nb01 (in_w 0 1 i104 rfl)) (hP _ _ ⟨(A 30), s104, hI104, (fr_tr rfl (fr_tr rfl hFc46 hF70) hF104), n107k, n107m, z104, rfl, (by rw [ax_id]), in_w 0 1 i104 rfl, n107, n107a, n107b, n107c, n107d, n107e, n107f, n107g, n107h, n107i⟩)
          · skip
            have i82 := r_eq1 108 108 c82 i77a (in_c 108 rfl) rfl
            refine g_iconst 1 86 (gd rfl) rfl rfl ?_
            refine g_goto 90 (gd rfl) rfl ?_
            refine g_istore 92 (gd rfl) rfl (Nat.le_of_ble_eq_true rfl) ?_
            refine g_aload_n 93 (gd rfl) rfl rfl ?_
            refine g_getI 96 (gd rfl) rfl rfl rfl (fun z93 e93 => ?_)
            have i93 := inv_F hI70 0 5 rfl e93
            refine g_iload 98 (gd rfl) rfl rfl ?_
            refine g_cmp_eq 101 108 (gd rfl) rfl rfl (fun c98 => ?_) (fun c98 => ?_)
            · skip
              have i98 := r_eq1 1 1 c98 i93 (in_c 1 rfl) rfl
              refine g_aload_n 109 (gd rfl) rfl rfl ?_
              refine g_getA (q2 := 31) 112 (gd rfl) rfl rfl rfl rfl ?_
              refine g_iload 114 (gd rfl) rfl rfl ?_
              refine g_aload_n 115 (gd rfl) rfl rfl ?_
              refine g_getI 118 (gd rfl) rfl rfl rfl (fun z115 e115 => ?_)
              refine g_iastore 119 (gd rfl) rfl (n := 5) rfl (in_ix i63 rfl) ?_
              have hI118 := inv_sI (q := 31) (j := y46_5.toNatClampNeg) hI70 rfl (in_w (-2147483648) 2147483647 (i_rng z115) rfl)
              refine g_iinc 122 (gd rfl) rfl rfl (Nat.le_of_ble_eq_true rfl) (fun z119 e119 => ?_)
              have i119 := in_add 1 5 e119 i63 (in_c 1 rfl) rfl rfl
              refine g_goto 46 (gd rfl) rfl ?_
              have v46 : z70a = (sI s70 31 y46_5.toNatClampNeg z115).2.2.1 46 2 := sI_F (e70)
              have v46a : w46_2_0 = (sI s70 31 y46_5.toNatClampNeg z115).2.2.1 2 0 := sI_F (fr_F (v46_2_0) hF70 rfl)
              have v46b : w46_2_1 = (sI s70 31 y46_5.toNatClampNeg z115).2.2.1 2 1 := sI_F (fr_F (v46_2_1) hF70 rfl)
              have v46c : w46_30_0 = (sI s70 31 y46_5.toNatClampNeg z115).2.2.1 30 0 := sI_F (fr_F (v46_30_0) hF70 rfl)
              have n46 : (z70a).toInt ≤ (u_46_1).toInt := by have a0 := oa11 ro_46_1 ((inv_F hIc46 448 28000 rfl v46_30_0)) ((inv_F hIc46 0 32 rfl v46_2_1)) ((inv_F hIc46 0 4000 rfl v46_2_0)) ((inv_F hIc46 0 1000 rfl v46_46_2)) i63 j46_4 j46_3 j46_2 ((in_c 1 rfl)) i119; have a11 := t_add e119 i63 (in_c 1 rfl) rfl; have a12 := oa3 i98 i70b i70a; have oc := oc_136_1_46; omega
              have n46a : (u_2_0).toInt ≤ (w46_2_0).toInt := by first | exact n46_1 | (have a0 := oa11 ro_46_1 ((inv_F hIc46 448 28000 rfl v46_30_0)) ((inv_F hIc46 0 32 rfl v46_2_1)) ((inv_F hIc46 0 4000 rfl v46_2_0)) ((inv_F hIc46 0 1000 rfl v46_46_2)) i63 j46_4 j46_3 j46_2 ((in_c 1 rfl)) i119; have a11 := t_add e119 i63 (in_c 1 rfl) rfl; have a12 := oa3 i98 i70b i70a; have oc := oc_136_1_46; omega)
              have n46b : (y46_3).toInt = 13 → (y46_4).toInt = 1 := by exact g46_0
              have n46c : (y46_4).toInt = 1 → 1 ≤ (z119).toInt → In ((sI s70 31 y46_5.toNatClampNeg z115).1 31 0) 0 25 := by intro h4 _; first | (exfalso; have h9 := p77 h4; have c8 : (Int32.ofInt 108).toInt = 108 := (by decide); omega) | (have hz1 := zn_1 h4; have hi0 : y46_5.toInt = 0 := (by have h9 := p50; have a0 := oa11 ro_46_1 ((inv_F hIc46 448 28000 rfl v46_30_0)) ((inv_F hIc46 0 32 rfl v46_2_1)) ((inv_F hIc46 0 4000 rfl v46_2_0)) ((inv_F hIc46 0 1000 rfl v46_46_2)) i63 j46_4 j46_3 j46_2 ((in_c 1 rfl)) i119; have a11 := t_add e119 i63 (in_c 1 rfl) rfl; have a12 := oa3 i98 i70b i70a; have oc := oc_136_1_46; omega); rw [sI_q, show y46_5.toNatClampNeg = 0 from (by show y46_5.toInt.toNat = 0; omega), ug_at, e115]; exact p70a (by rw [← e93]; exact c98.trans (by decide)))
              have n46d : Fr ([31], [], [(46, 2), (46, 3), (46, 4), (46, 5), (46, 6), (46, 7)], []) s (sI s70 31 y46_5.toNatClampNeg z115) := by exact fr_sI rfl (fr_tr rfl g46_2 hF70)
              have n46e : SHQ (y46_3).toInt (y46_4).toInt := by exact g46_3
              have n46f : (s.2.2.1 46 3).toInt = 1 ∧ (s.2.2.1 46 5).toInt = (y46_3).toInt ∧ (y46_2) = s.2.2.1 46 4 := by exact g46_4
              have n46g : (z119).toInt ≤ (cmA (y46_3).toInt : Int) := by have h9 := shq_n g46_3; have h8 := p50; rw [h9] at h8; have a0 := oa11 ro_46_1 ((inv_F hIc46 448 28000 rfl v46_30_0)) ((inv_F hIc46 0 32 rfl v46_2_1)) ((inv_F hIc46 0 4000 rfl v46_2_0)) ((inv_F hIc46 0 1000 rfl v46_46_2)) i63 j46_4 j46_3 j46_2 ((in_c 1 rfl)) i119; have a11 := t_add e119 i63 (in_c 1 rfl) rfl; have a12 := oa3 i98 i70b i70a; have oc := oc_136_1_46; omega
              have n46h : ∀ a : Nat, TKN (s.1 47) (s.2.2.1 46 1).toInt.toNat a (s.2.2.1 46 4).toInt.toNat (s.2.2.1 46 2).toInt.toNat (s.2.2.1 46 3).toInt (s.2.2.1 46 5).toInt → (∀ j, j < (z119).toInt.toNat → ∃ q f, TSQ (s.1 47) (s.2.2.1 46 1).toInt.toNat a (j + 1) q f (cmK (y46_3).toInt (j + 1)) ((sI s70 31 y46_5.toNatClampNeg z115).1 31 j).toInt) ∧ ∃ p k v, TSQ (s.1 47) (s.2.2.1 46 1).toInt.toNat a (z119).toInt.toNat p (z70a).toInt.toNat k v := by intro a ha; obtain ⟨h1, p1, k1, v1, h2⟩ := g46_6 a ha; have hk9 := p70b; rw [show sc46.1 47 = s.1 47 from g46_2.1 47 rfl, show sc46.2.2.1 46 1 = s.2.2.1 46 1 from g46_2.2.2.1 46 1 rfl, ← v46_46_2] at hk9; have hq9 := shq_k g46_3 (j := y46_5.toNatClampNeg) (by have h9 := shq_n g46_3; have h8 := p50; rw [h9] at h8; show y46_5.toInt.toNat < _; have a0 := oa11 ro_46_1 ((inv_F hIc46 448 28000 rfl v46_30_0)) ((inv_F hIc46 0 32 rfl v46_2_1)) ((inv_F hIc46 0 4000 rfl v46_2_0)) ((inv_F hIc46 0 1000 rfl v46_46_2)) i63 j46_4 j46_3 j46_2 ((in_c 1 rfl)) i119; have a11 := t_add e119 i63 (in_c 1 rfl) rfl; have a12 := oa3 i98 i70b i70a; have oc := oc_136_1_46; omega); rw [← p77a] at hq9; have hn9 : TSQ (s.1 47) (s.2.2.1 46 1).toInt.toNat a (y46_5.toInt.toNat + 1) (s70.2.2.1 46 4).toInt.toNat (s70.2.2.1 46 2).toInt.toNat (s70.2.2.1 46 3).toInt (s70.2.2.1 46 5).toInt := ⟨p1, w46_46_2.toInt.toNat, k1, v1, h2, hk9⟩; rw [show z119.toInt.toNat = y46_5.toInt.toNat + 1 from (by have a0 := oa11 ro_46_1 ((inv_F hIc46 448 28000 rfl v46_30_0)) ((inv_F hIc46 0 32 rfl v46_2_1)) ((inv_F hIc46 0 4000 rfl v46_2_0)) ((inv_F hIc46 0 1000 rfl v46_46_2)) i63 j46_4 j46_3 j46_2 ((in_c 1 rfl)) i119; have a11 := t_add e119 i63 (in_c 1 rfl) rfl; have a12 := oa3 i98 i70b i70a; have oc := oc_136_1_46; omega)]; refine ⟨fun j hj => ?_, _, _, _, by rw [← (show z70a = (sI s70 31 y46_5.toNatClampNeg z115).2.2.1 46 2 from sI_F (e70)), ← e70] at *; exact hn9⟩; rw [sI_q]; by_cases hc : j = y46_5.toNatClampNeg; (rw [hc, ug_at, show y46_5.toNatClampNeg = y46_5.toInt.toNat from rfl, show cmK y46_3.toInt (y46_5.toInt.toNat + 1) = (s70.2.2.1 46 3).toInt from (by rw [← e93]; first | (rw [show cmK y46_3.toInt (y46_5.toInt.toNat + 1) = 1 from hq9.1 (by have a0 := oa11 ro_46_1 ((inv_F hIc46 448 28000 rfl v46_30_0)) ((inv_F hIc46 0 32 rfl v46_2_1)) ((inv_F hIc46 0 4000 rfl v46_2_0)) ((inv_F hIc46 0 1000 rfl v46_46_2)) i63 j46_4 j46_3 j46_2 ((in_c 1 rfl)) i119; have a11 := t_add e119 i63 (in_c 1 rfl) rfl; have a12 := oa3 i98 i70b i70a; have oc := oc_136_1_46; omega)]; have a0 := oa11 ro_46_1 ((inv_F hIc46 448 28000 rfl v46_30_0)) ((inv_F hIc46 0 32 rfl v46_2_1)) ((inv_F hIc46 0 4000 rfl v46_2_0)) ((inv_F hIc46 0 1000 rfl v46_46_2)) i63 j46_4 j46_3 j46_2 ((in_c 1 rfl)) i119; have a11 := t_add e119 i63 (in_c 1 rfl) rfl; have a12 := oa3 i98 i70b i70a; have oc := oc_136_1_46; omega) | (rw [show cmK y46_3.toInt (y46_5.toInt.toNat + 1) = 2 from hq9.2 (by have a0 := oa11 ro_46_1 ((inv_F hIc46 448 28000 rfl v46_30_0)) ((inv_F hIc46 0 32 rfl v46_2_1)) ((inv_F hIc46 0 4000 rfl v46_2_0)) ((inv_F hIc46 0 1000 rfl v46_46_2)) i63 j46_4 j46_3 j46_2 ((in_c 1 rfl)) i119; have a11 := t_add e119 i63 (in_c 1 rfl) rfl; have a12 := oa3 i98 i70b i70a; have oc := oc_136_1_46; omega)]; have a0 := oa11 ro_46_1 ((inv_F hIc46 448 28000 rfl v46_30_0)) ((inv_F hIc46 0 32 rfl v46_2_1)) ((inv_F hIc46 0 4000 rfl v46_2_0)) ((inv_F hIc46 0 1000 rfl v46_46_2)) i63 j46_4 j46_3 j46_2 ((in_c 1 rfl)) i119; have a11 := t_add e119 i63 (in_c 1 rfl) rfl; have a12 := oa3 i98 i70b i70a; have oc := oc_136_1_46; omega)), e115]; exact ⟨_, _, hn9⟩); (rw [ug_ne hc, hF70.1 31 rfl]; exact h1 j (by have h9 : y46_5.toNatClampNeg = y46_5.toInt.toNat := rfl; omega))
              have n46i : (sI s70 31 y46_5.toNatClampNeg z115).2.2.1 46 6 = s.2.2.1 46 6 ∧ (sI s70 31 y46_5.toNatClampNeg z115).2.2.1 46 7 = s.2.2.1 46 7 := by exact ⟨(hF70.2.2.1 46 6 rfl).trans g46_7.1, (hF70.2.2.1 46 7 rfl).trans g46_7.2⟩
              exact gg_w (by first | exact Nat.le_add_right _ _ | exact gw2 | exact gw3 | exact gwe rfl | exact gwf rfl | exact gwg rfl | exact gwh rfl | omega) (gg_f (gf_cons rfl (gf_cons rfl (gf_cons rfl (gf_cons rfl (gf_cons rfl (gf_cons rfl gf_nil)))))) (ih46 (sI s70 31 y46_5.toNatClampNeg z115) y46_2 y46_3 y46_4 z119 z70a w46_2_0 w46_2_1 w46_30_0 hI118 (fr_sI rfl (fr_tr rfl hFc46 hF70)) (in_w 0 1000 j46_2 rfl) (in_w (-1) 25 j46_3 rfl) (in_w 1 5 j46_4 rfl) (in_w 0 5 i119 rfl) v46 v46a v46b v46c n46 n46a n46b n46c n46d n46e n46f n46g n46h n46i (m_up mm46 (t_add e119 i63 (in_c 1 rfl) rfl) (in_w 1 1 (in_c 1 rfl) rfl))))
            · skip
              refine g_aload_n 102 (gd rfl) rfl rfl ?_
              refine g_iconst 2 103 (gd rfl) rfl rfl ?_
              refine g_iconst 3 104 (gd rfl) rfl rfl ?_
              refine g_callv (X := _) (As := [.int (Int32.ofInt 2), .int (Int32.ofInt 3)]) (r := []) (b := A 46) (q := 46) 107 (gd rfl) rfl rfl rfl rfl rfl (ww_o rfl) (Nat.le_of_ble_eq_true rfl) (Nat.zero_le _) (Nat.zero_le _) (f_169_46 (by first | exact dq1 hd rfl | exact dq0 hd rfl | exact dq2 hd rfl | exact dq3 hd rfl | omega) hI70 (in_w 2 2 (in_c 2 rfl) rfl) (in_w 3 3 (in_c 3 rfl) rfl) e93 e70a) (fun e u h => h) (fun v u h => ?_)
              obtain ⟨s104, hI104, hF104, z104, rfl, rfl, i104, p104⟩ := h
              show GG _ _ _ _ _ _ _ _ [.int z104] _ _ _
              have n107 : KL s104 := by have hL9 : Fr ([31], [], [(46, 2), (46, 3), (46, 4), (46, 5), (46, 6), (46, 7)], []) s s104 := (fr_tr rfl (fr_tr rfl g46_2 hF70) hF104); exact kl_fr q_0 hL9 rfl
              have n107a : (z104).toInt ≠ 0 → (s104.2.2.1 30 0).toInt = nln s := by first | (intro h; exact absurd rfl h) | (intro h; exfalso; revert h; first | (unfold In at i39; omega) | (unfold In at i104; omega) | (unfold In at i144; omega))
              have n107b : (z104).toInt ≠ 0 → (s.2.2.1 2 0).toInt ≤ 3999 := by first | (intro h; exact absurd rfl h) | (intro h; exfalso; revert h; first | (unfold In at i39; omega) | (unfold In at i104; omega) | (unfold In at i144; omega))
              have n107c : ∀ k : Nat, (k : Int) < 7 * (s.2.2.1 2 0).toInt → s104.1 30 k = s.1 30 k := by have hL9 : Fr ([31], [], [(46, 2), (46, 3), (46, 4), (46, 5), (46, 6), (46, 7)], []) s s104 := (fr_tr rfl (fr_tr rfl g46_2 hF70) hF104); exact fun k _ => by rw [hL9.1 30 rfl]
              have n107d : (z104).toInt ≠ 0 → ∀ a : Nat, TKN (s.1 47) (s.2.2.1 46 1).toInt.toNat a (s.2.2.1 46 4).toInt.toNat (s.2.2.1 46 2).toInt.toNat (s.2.2.1 46 3).toInt (s.2.2.1 46 5).toInt → ∃ c V, CMP (s.1 47) (s.2.2.1 46 1).toInt.toNat a (s.2.2.1 46 4).toInt.toNat c V (s104.2.2.1 46 2).toInt.toNat ∧ dkC (gvC s) c V ∧ gvC s104 = opC (gvC s) c V := by first | (intro h; exact absurd rfl h) | (intro h; exfalso; revert h; first | (unfold In at i39; omega) | (unfold In at i104; omega) | (unfold In at i144; omega))
              have n107e : (z104).toInt = 0 → ∀ a : Nat, TKN (s.1 47) (s.2.2.1 46 1).toInt.toNat a (s.2.2.1 46 4).toInt.toNat (s.2.2.1 46 2).toInt.toNat (s.2.2.1 46 3).toInt (s.2.2.1 46 5).toInt → CMX (s.1 47) (s.2.2.1 46 1).toInt.toNat a (s104.2.2.1 46 6).toInt (s104.2.2.1 46 7).toInt.toNat ∨ ∃ c V e, CMP (s.1 47) (s.2.2.1 46 1).toInt.toNat a (s104.2.2.1 46 7).toInt.toNat c V e ∧ ¬ dkC (gvC s) c V ∧ (s104.2.2.1 46 6).toInt = 4 := by intro _ a ha; obtain ⟨h1, p1, k1, v1, h2⟩ := g46_6 a ha; have hk9 := p70b; rw [show sc46.1 47 = s.1 47 from g46_2.1 47 rfl, show sc46.2.2.1 46 1 = s.2.2.1 46 1 from g46_2.2.2.1 46 1 rfl, ← v46_46_2] at hk9; have hq9 := shq_k g46_3 (j := y46_5.toNatClampNeg) (by have h9 := shq_n g46_3; have h8 := p50; rw [h9] at h8; show y46_5.toInt.toNat < _; have a0 := oa13 ro_46_1 ((inv_F hIc46 448 28000 rfl v46_30_0)) ((inv_F hIc46 0 32 rfl v46_2_1)) ((inv_F hIc46 0 4000 rfl v46_2_0)) ((inv_F hIc46 0 1000 rfl v46_46_2)) i63 j46_4 j46_3 j46_2 ((in_c 1 rfl)) i93 i70b i70a; have oc := oc_136_1_46; omega); rw [← p77a] at hq9; refine Or.inl (Or.inr ⟨_, _, _, shq_i g46_3, by have h9 := ha; rw [g46_4.1, g46_4.2.1] at h9; exact h9, y46_5.toInt.toNat, by have h9 := g46_5; omega, fun j hj => by obtain ⟨q, f, h9⟩ := h1 j hj; exact ⟨q, f, _, h9⟩, (s70.2.2.1 46 2).toInt.toNat, (s70.2.2.1 46 3).toInt, (s70.2.2.1 46 5).toInt, ?_, ?_, p104.1⟩); (rw [p104.2]; exact ⟨p1, w46_46_2.toInt.toNat, k1, v1, h2, hk9⟩); (rw [← e93]; first | (rw [show cmK y46_3.toInt (y46_5.toInt.toNat + 1) = 1 from hq9.1 (by have a0 := oa13 ro_46_1 ((inv_F hIc46 448 28000 rfl v46_30_0)) ((inv_F hIc46 0 32 rfl v46_2_1)) ((inv_F hIc46 0 4000 rfl v46_2_0)) ((inv_F hIc46 0 1000 rfl v46_46_2)) i63 j46_4 j46_3 j46_2 ((in_c 1 rfl)) i93 i70b i70a; have oc := oc_136_1_46; omega)]; have a0 := oa13 ro_46_1 ((inv_F hIc46 448 28000 rfl v46_30_0)) ((inv_F hIc46 0 32 rfl v46_2_1)) ((inv_F hIc46 0 4000 rfl v46_2_0)) ((inv_F hIc46 0 1000 rfl v46_46_2)) i63 j46_4 j46_3 j46_2 ((in_c 1 rfl)) i93 i70b i70a; have oc := oc_136_1_46; omega) | (rw [show cmK y46_3.toInt (y46_5.toInt.toNat + 1) = 2 from hq9.2 (by have a0 := oa13 ro_46_1 ((inv_F hIc46 448 28000 rfl v46_30_0)) ((inv_F hIc46 0 32 rfl v46_2_1)) ((inv_F hIc46 0 4000 rfl v46_2_0)) ((inv_F hIc46 0 1000 rfl v46_46_2)) i63 j46_4 j46_3 j46_2 ((in_c 1 rfl)) i93 i70b i70a; have oc := oc_136_1_46; omega)]; have a0 := oa13 ro_46_1 ((inv_F hIc46 448 28000 rfl v46_30_0)) ((inv_F hIc46 0 32 rfl v46_2_1)) ((inv_F hIc46 0 4000 rfl v46_2_0)) ((inv_F hIc46 0 1000 rfl v46_46_2)) i63 j46_4 j46_3 j46_2 ((in_c 1 rfl)) i93 i70b i70a; have oc := oc_136_1_46; omega))
              have n107f : (z104).toInt ≠ 0 → TQ s104 := by first | (intro h; exact absurd rfl h) | (intro h; exfalso; revert h; first | (unfold In at i39; omega) | (unfold In at i104; omega) | (unfold In at i144; omega))
              have n107g : (z104).toInt ≠ 0 → s104.2.2.1 46 6 = s.2.2.1 46 6 ∧ s104.2.2.1 46 7 = s.2.2.1 46 7 := by first | (intro h; exact absurd rfl h) | (intro h; exfalso; revert h; first | (unfold In at i39; omega) | (unfold In at i104; omega) | (unfold In at i144; omega))
              have n107h : (z104).toInt = 0 → 0 ≤ (s104.2.2.1 46 7).toInt := by intro _; rw [p104.2, ← e70a]; have a0 := oa13 ro_46_1 ((inv_F hIc46 448 28000 rfl v46_30_0)) ((inv_F hIc46 0 32 rfl v46_2_1)) ((inv_F hIc46 0 4000 rfl v46_2_0)) ((inv_F hIc46 0 1000 rfl v46_46_2)) i63 j46_4 j46_3 j46_2 ((in_c 1 rfl)) i93 i70b i70a; have oc := oc_136_1_46; omega
              have n107i : (z104).toInt ≠ 0 → LGC s s104 := by first | (intro h; exact absurd rfl h) | (intro h; exfalso; revert h; first | (unfold In at i39; omega) | (unfold In at i104; omega) | (unfold In at i144; omega))
              have n107j : (z70a).toInt ≤ (u_46_1).toInt := by have a0 := oa13 ro_46_1 ((inv_F hIc46 448 28000 rfl v46_30_0)) ((inv_F hIc46 0 32 rfl v46_2_1)) ((inv_F hIc46 0 4000 rfl v46_2_0)) ((inv_F hIc46 0 1000 rfl v46_46_2)) i63 j46_4 j46_3 j46_2 ((in_c 1 rfl)) i93 i70b i70a; have oc := oc_136_1_46; omega
              have n107k : (s104.2.2.1 46 2).toInt ≤ (s104.2.2.1 46 1).toInt := by have b0 : z70a = s104.2.2.1 46 2 := fr_F (e70) hF104 rfl; have b1 : u_46_1 = s104.2.2.1 46 1 := fr_F (fr_F (fr_F e_46_1 hFc46 rfl) hF70 rfl) hF104 rfl; rw [← b0, ← b1]; exact n107j
              have n107l : (u_2_0).toInt ≤ (w46_2_0).toInt := by first | exact n46_1 | (have a0 := oa13 ro_46_1 ((inv_F hIc46 448 28000 rfl v46_30_0)) ((inv_F hIc46 0 32 rfl v46_2_1)) ((inv_F hIc46 0 4000 rfl v46_2_0)) ((inv_F hIc46 0 1000 rfl v46_46_2)) i63 j46_4 j46_3 j46_2 ((in_c 1 rfl)) i93 i70b i70a; have oc := oc_136_1_46; omega)
              have n107m : (s.2.2.1 2 0).toInt ≤ (s104.2.2.1 2 0).toInt := by have b0 : w46_2_0 = s104.2.2.1 2 0 := fr_F (fr_F (v46_2_0) hF70 rfl) hF104 rfl; first | (rw [← b0, ← e_2_0]; exact n107l) | (rw [← b0]; exact n107l)
              exact g_ireturn (gd rfl) rfl (nb01 (in_w 0 1 i104 rfl)) (hP _ _ ⟨(A 30), s104, hI104, (fr_tr rfl (fr_tr rfl hFc46 hF70) hF104), n107k, n107m, z104, rfl, (by rw [ax_id]), in_w 0 1 i104 rfl, n107, n107a, n107b, n107c, n107d, n107e, n107f, n107g, n107h, n107i⟩)
  refine g_enter2 (k := 136) (N := 6301) (by first | exact dq1 hd rfl | exact dq0 hd rfl | exact dq2 hd rfl | exact dq3 hd rfl | omega) rfl (Nat.le_of_ble_eq_true rfl) ?_
  refine g_aload_n 1 (gd rfl) rfl rfl ?_
  refine g_getI 4 (gd rfl) rfl rfl rfl (fun z1 e1 => ?_)
  have q1 : u_46_4 = z1 := (e_46_4).trans e1.symm
  subst q1
  refine g_istore_n 5 (gd rfl) rfl (Nat.le_of_ble_eq_true rfl) ?_
  refine g_aload_n 6 (gd rfl) rfl rfl ?_
  refine g_getI 9 (gd rfl) rfl rfl rfl (fun z6 e6 => ?_)
  have q6 : u_46_3 = z6 := (e_46_3).trans e6.symm
  subst q6
  refine g_iconst 1 10 (gd rfl) rfl rfl ?_
  refine g_cmp_ne 13 20 (gd rfl) rfl rfl (fun c10 => ?_) (fun c10 => ?_)
  · skip
    refine g_iconst (-1) 21 (gd rfl) rfl rfl ?_
    refine g_istore_n 22 (gd rfl) rfl (Nat.le_of_ble_eq_true rfl) ?_
    refine g_iload_n 23 (gd rfl) rfl rfl ?_
    refine g_calls (As := [.int (Int32.ofInt (-1))]) (r := []) 26 (gd rfl) rfl rfl rfl rfl rfl (Nat.le_of_ble_eq_true rfl) (mc := 0) (ms := 0) (Nat.zero_le _) (Nat.zero_le _) (P := fun v u => _) ?_ (fun v u h => h)
    intro po23 xx23 hp23 hx23
    refine g_enter2 (k := 137) (N := 300) (by first | exact dq1 hd rfl | exact dq0 hd rfl | exact dq2 hd rfl | exact dq3 hd rfl | omega) rfl (Nat.le_of_ble_eq_true rfl) ?_
    refine g_iload_n 1 (gd rfl) rfl rfl ?_
    refine g_lsw [(0, 47), (13, 44), (19, 50), (22, 53)] 56 (gd rfl) rfl rfl rfl ⟨fun c23x1 => ?_, fun c23x1_0 => ⟨fun c23x1 => ?_, fun c23x1_1 => ⟨fun c23x1 => ?_, fun c23x1_2 => ⟨fun c23x1 => ?_, fun c23x1_3 => ?_⟩⟩⟩⟩
    · skip
      exact sw_ne c23x1 (in_c (-1) rfl) rfl
    · skip
      exact sw_ne c23x1 (in_c (-1) rfl) rfl
    · skip
      exact sw_ne c23x1 (in_c (-1) rfl) rfl
    · skip
      exact sw_ne c23x1 (in_c (-1) rfl) rfl
    · skip
      refine g_ldcs 5 58 (gd rfl) rfl rfl ?_
      refine g_areturn (gd rfl) rfl (hp23 _ _ ?_)
      show GG _ _ _ _ _ _ _ _ [.ref (zq Z (Int32.ofInt 5))] _ _ _
      refine g_astore 28 (gd rfl) rfl (Nat.le_of_ble_eq_true rfl) ?_
      refine g_aload 30 (gd rfl) rfl rfl ?_
      have i30 : In (Int32.ofInt 5) 0 6 := in_w 0 6 (in_c 5 rfl) rfl
      refine g_callS (X := _) (As := []) (r := []) (x := (Int32.ofInt 5)) 33 (gd rfl) rfl rfl rfl zm_428 rfl rfl rfl i30 (Nat.le_of_ble_eq_true rfl) (f_428 i30 (by omega)) (fun e u h => h) (fun v u h => ?_)
      obtain ⟨z30, rfl, rfl, i30a, p30, p30a⟩ := h
      show GG _ _ _ _ _ _ _ _ [.int z30] _ _ _
      refine g_if_eq 36 43 (gd rfl) rfl rfl (fun c33 => ?_) (fun c33 => ?_)
      · skip
        have i33 := z_eq 0 0 c33 i30a rfl
        refine g_iconst 0 44 (gd rfl) rfl rfl ?_
        refine g_istore 46 (gd rfl) rfl (Nat.le_of_ble_eq_true rfl) ?_
        have n46 : (u_46_2).toInt ≤ (u_46_1).toInt := by have a0 := oa9 ((inv_F hI 0 1000 rfl e_46_4)) ((inv_F hI 0 5 rfl e_46_3)) ((inv_F hI 0 1000 rfl e_46_1)) ((inv_F hI 0 1000 rfl e_46_2)) ((inv_F hI 448 28000 rfl e_30_0)) ((inv_F hI 0 32 rfl e_2_1)) ((inv_F hI 0 4000 rfl e_2_0)) ((in_c 0 rfl)) ((in_c (-1) rfl)); have oc := oc_136_1_46; omega
        have n46a : (u_2_0).toInt ≤ (u_2_0).toInt := by exact Int.le_refl _
        have n46b : ((Int32.ofInt (-1))).toInt = 13 → ((Int32.ofInt 5)).toInt = 1 := by exact fun h => absurd h (by decide)
        have n46c : ((Int32.ofInt 5)).toInt = 1 → 1 ≤ ((Int32.ofInt 0)).toInt → In (s.1 31 0) 0 25 := by intro _ h; exfalso; revert h; decide
        have n46d : Fr ([31], [], [(46, 2), (46, 3), (46, 4), (46, 5), (46, 6), (46, 7)], []) s s := by exact fr_rf
        have n46e : SHQ ((Int32.ofInt (-1))).toInt ((Int32.ofInt 5)).toInt := by first | (exfalso; have h9 := p30 (by have a0 := oa9 ((inv_F hI 0 1000 rfl e_46_4)) ((inv_F hI 0 5 rfl e_46_3)) ((inv_F hI 0 1000 rfl e_46_1)) ((inv_F hI 0 1000 rfl e_46_2)) ((inv_F hI 448 28000 rfl e_30_0)) ((inv_F hI 0 32 rfl e_2_1)) ((inv_F hI 0 4000 rfl e_2_0)) ((in_c 0 rfl)) ((in_c (-1) rfl)); have oc := oc_136_1_46; omega); revert h9; decide) | exact Or.inl ⟨by have a0 := oa9 ((inv_F hI 0 1000 rfl e_46_4)) ((inv_F hI 0 5 rfl e_46_3)) ((inv_F hI 0 1000 rfl e_46_1)) ((inv_F hI 0 1000 rfl e_46_2)) ((inv_F hI 448 28000 rfl e_30_0)) ((inv_F hI 0 32 rfl e_2_1)) ((inv_F hI 0 4000 rfl e_2_0)) ((in_c 0 rfl)) ((in_c (-1) rfl)); have oc := oc_136_1_46; omega, by decide⟩ | exact Or.inr (Or.inl ⟨by have a0 := oa9 ((inv_F hI 0 1000 rfl e_46_4)) ((inv_F hI 0 5 rfl e_46_3)) ((inv_F hI 0 1000 rfl e_46_1)) ((inv_F hI 0 1000 rfl e_46_2)) ((inv_F hI 448 28000 rfl e_30_0)) ((inv_F hI 0 32 rfl e_2_1)) ((inv_F hI 0 4000 rfl e_2_0)) ((in_c 0 rfl)) ((in_c (-1) rfl)); have oc := oc_136_1_46; omega, by decide⟩) | exact Or.inr (Or.inr (Or.inl ⟨by have a0 := oa9 ((inv_F hI 0 1000 rfl e_46_4)) ((inv_F hI 0 5 rfl e_46_3)) ((inv_F hI 0 1000 rfl e_46_1)) ((inv_F hI 0 1000 rfl e_46_2)) ((inv_F hI 448 28000 rfl e_30_0)) ((inv_F hI 0 32 rfl e_2_1)) ((inv_F hI 0 4000 rfl e_2_0)) ((in_c 0 rfl)) ((in_c (-1) rfl)); have oc := oc_136_1_46; omega, by decide⟩)) | exact Or.inr (Or.inr (Or.inr ⟨by have a0 := oa9 ((inv_F hI 0 1000 rfl e_46_4)) ((inv_F hI 0 5 rfl e_46_3)) ((inv_F hI 0 1000 rfl e_46_1)) ((inv_F hI 0 1000 rfl e_46_2)) ((inv_F hI 448 28000 rfl e_30_0)) ((inv_F hI 0 32 rfl e_2_1)) ((inv_F hI 0 4000 rfl e_2_0)) ((in_c 0 rfl)) ((in_c (-1) rfl)); have oc := oc_136_1_46; omega, by decide⟩))
        have n46f : (s.2.2.1 46 3).toInt = 1 ∧ (s.2.2.1 46 5).toInt = ((Int32.ofInt (-1))).toInt ∧ (u_46_4) = s.2.2.1 46 4 := by first | (exfalso; have h9 := p30 (by have a0 := oa9 ((inv_F hI 0 1000 rfl e_46_4)) ((inv_F hI 0 5 rfl e_46_3)) ((inv_F hI 0 1000 rfl e_46_1)) ((inv_F hI 0 1000 rfl e_46_2)) ((inv_F hI 448 28000 rfl e_30_0)) ((inv_F hI 0 32 rfl e_2_1)) ((inv_F hI 0 4000 rfl e_2_0)) ((in_c 0 rfl)) ((in_c (-1) rfl)); have oc := oc_136_1_46; omega); revert h9; decide) | exact ⟨by rw [← e_46_3]; have a0 := oa9 ((inv_F hI 0 1000 rfl e_46_4)) ((inv_F hI 0 5 rfl e_46_3)) ((inv_F hI 0 1000 rfl e_46_1)) ((inv_F hI 0 1000 rfl e_46_2)) ((inv_F hI 448 28000 rfl e_30_0)) ((inv_F hI 0 32 rfl e_2_1)) ((inv_F hI 0 4000 rfl e_2_0)) ((in_c 0 rfl)) ((in_c (-1) rfl)); have oc := oc_136_1_46; omega, by rw [← e_46_5], e_46_4⟩
        have n46g : ((Int32.ofInt 0)).toInt ≤ (cmA ((Int32.ofInt (-1))).toInt : Int) := by exact Int.natCast_nonneg _
        have n46h : ∀ a : Nat, TKN (s.1 47) (s.2.2.1 46 1).toInt.toNat a (s.2.2.1 46 4).toInt.toNat (s.2.2.1 46 2).toInt.toNat (s.2.2.1 46 3).toInt (s.2.2.1 46 5).toInt → (∀ j, j < ((Int32.ofInt 0)).toInt.toNat → ∃ q f, TSQ (s.1 47) (s.2.2.1 46 1).toInt.toNat a (j + 1) q f (cmK ((Int32.ofInt (-1))).toInt (j + 1)) (s.1 31 j).toInt) ∧ ∃ p k v, TSQ (s.1 47) (s.2.2.1 46 1).toInt.toNat a ((Int32.ofInt 0)).toInt.toNat p (u_46_2).toInt.toNat k v := by intro a ha; exact ⟨fun j hj => absurd hj (by have h9 : (Int32.ofInt 0).toInt.toNat = 0 := rfl; omega), _, _, _, by rw [e_46_2]; exact ha⟩
        have n46i : s.2.2.1 46 6 = s.2.2.1 46 6 ∧ s.2.2.1 46 7 = s.2.2.1 46 7 := by exact ⟨rfl, rfl⟩
        exact gg_w (by first | exact Nat.le_of_ble_eq_true rfl | omega) (gg_f (gf_cons rfl (gf_cons rfl (gf_cons rfl (gf_cons rfl (gf_cons rfl (gf_cons rfl gf_nil)))))) (ct46 6 s u_46_4 (Int32.ofInt (-1)) (Int32.ofInt 5) (Int32.ofInt 0) u_46_2 u_2_0 u_2_1 u_30_0 hI fr_rf (in_w 0 1000 (inv_F hI 0 1000 rfl e_46_4) rfl) (in_w (-1) 25 (in_c (-1) rfl) rfl) (in_w 1 5 (in_c 5 rfl) rfl) (in_w 0 5 (in_c 0 rfl) rfl) e_46_2 e_2_0 e_2_1 e_30_0 n46 n46a n46b n46c n46d n46e n46f n46g n46h n46i (m_in 6 (in_w 0 5 (in_c 0 rfl) rfl) rfl)))
      · skip
        have i33 := z_ne 1 1 c33 i30a rfl
        refine g_aload_n 37 (gd rfl) rfl rfl ?_
        refine g_iconst 2 38 (gd rfl) rfl rfl ?_
        refine g_iconst 3 39 (gd rfl) rfl rfl ?_
        refine g_callv (X := _) (As := [.int (Int32.ofInt 2), .int (Int32.ofInt 3)]) (r := []) (b := A 46) (q := 46) 42 (gd rfl) rfl rfl rfl rfl rfl (ww_o rfl) (Nat.le_of_ble_eq_true rfl) (Nat.zero_le _) (Nat.zero_le _) (f_169_46 (by first | exact dq1 hd rfl | exact dq0 hd rfl | exact dq2 hd rfl | exact dq3 hd rfl | omega) hI (in_w 2 2 (in_c 2 rfl) rfl) (in_w 3 3 (in_c 3 rfl) rfl) e_46_3 e_46_4) (fun e u h => h) (fun v u h => ?_)
        obtain ⟨s39, hI39, hF39, z39, rfl, rfl, i39, p39⟩ := h
        show GG _ _ _ _ _ _ _ _ [.int z39] _ _ _
        have n42 : KL s39 := by have hL9 : Fr ([31], [], [(46, 2), (46, 3), (46, 4), (46, 5), (46, 6), (46, 7)], []) s s39 := (fr_tr rfl fr_rf hF39); exact kl_fr q_0 hL9 rfl
        have n42a : (z39).toInt ≠ 0 → (s39.2.2.1 30 0).toInt = nln s := by first | (intro h; exact absurd rfl h) | (intro h; exfalso; revert h; first | (unfold In at i39; omega) | (unfold In at i104; omega) | (unfold In at i144; omega))
        have n42b : (z39).toInt ≠ 0 → (s.2.2.1 2 0).toInt ≤ 3999 := by first | (intro h; exact absurd rfl h) | (intro h; exfalso; revert h; first | (unfold In at i39; omega) | (unfold In at i104; omega) | (unfold In at i144; omega))
        have n42c : ∀ k : Nat, (k : Int) < 7 * (s.2.2.1 2 0).toInt → s39.1 30 k = s.1 30 k := by have hL9 : Fr ([31], [], [(46, 2), (46, 3), (46, 4), (46, 5), (46, 6), (46, 7)], []) s s39 := (fr_tr rfl fr_rf hF39); exact fun k _ => by rw [hL9.1 30 rfl]
        have n42d : (z39).toInt ≠ 0 → ∀ a : Nat, TKN (s.1 47) (s.2.2.1 46 1).toInt.toNat a (s.2.2.1 46 4).toInt.toNat (s.2.2.1 46 2).toInt.toNat (s.2.2.1 46 3).toInt (s.2.2.1 46 5).toInt → ∃ c V, CMP (s.1 47) (s.2.2.1 46 1).toInt.toNat a (s.2.2.1 46 4).toInt.toNat c V (s39.2.2.1 46 2).toInt.toNat ∧ dkC (gvC s) c V ∧ gvC s39 = opC (gvC s) c V := by first | (intro h; exact absurd rfl h) | (intro h; exfalso; revert h; first | (unfold In at i39; omega) | (unfold In at i104; omega) | (unfold In at i144; omega))
        have n42e : (z39).toInt = 0 → ∀ a : Nat, TKN (s.1 47) (s.2.2.1 46 1).toInt.toNat a (s.2.2.1 46 4).toInt.toNat (s.2.2.1 46 2).toInt.toNat (s.2.2.1 46 3).toInt (s.2.2.1 46 5).toInt → CMX (s.1 47) (s.2.2.1 46 1).toInt.toNat a (s39.2.2.1 46 6).toInt (s39.2.2.1 46 7).toInt.toNat ∨ ∃ c V e, CMP (s.1 47) (s.2.2.1 46 1).toInt.toNat a (s39.2.2.1 46 7).toInt.toNat c V e ∧ ¬ dkC (gvC s) c V ∧ (s39.2.2.1 46 6).toInt = 4 := by intro _ a ha; refine Or.inl (Or.inl ⟨_, _, _, by rw [p39.2]; exact ha, q_4, ?_, p39.1⟩); first | (rintro ⟨h8, h9⟩; rw [← e_46_3] at h8; have a0 := oa8 ((inv_F hI 0 1000 rfl e_46_4)) ((inv_F hI 0 5 rfl e_46_3)) ((inv_F hI 0 1000 rfl e_46_1)) ((inv_F hI 0 1000 rfl e_46_2)) ((inv_F hI 448 28000 rfl e_30_0)) ((inv_F hI 0 32 rfl e_2_1)) ((inv_F hI 0 4000 rfl e_2_0)) ((in_c (-1) rfl)); have oc := oc_136_1_46; omega) | (rintro ⟨h8, h9⟩; rw [← e_46_5] at h9; unfold cmI at h9; have a0 := oa8 ((inv_F hI 0 1000 rfl e_46_4)) ((inv_F hI 0 5 rfl e_46_3)) ((inv_F hI 0 1000 rfl e_46_1)) ((inv_F hI 0 1000 rfl e_46_2)) ((inv_F hI 448 28000 rfl e_30_0)) ((inv_F hI 0 32 rfl e_2_1)) ((inv_F hI 0 4000 rfl e_2_0)) ((in_c (-1) rfl)); have oc := oc_136_1_46; omega) | (exfalso; have h9 := p30a (by have a0 := oa8 ((inv_F hI 0 1000 rfl e_46_4)) ((inv_F hI 0 5 rfl e_46_3)) ((inv_F hI 0 1000 rfl e_46_1)) ((inv_F hI 0 1000 rfl e_46_2)) ((inv_F hI 448 28000 rfl e_30_0)) ((inv_F hI 0 32 rfl e_2_1)) ((inv_F hI 0 4000 rfl e_2_0)) ((in_c (-1) rfl)); have oc := oc_136_1_46; omega); revert h9; decide)
        have n42f : (z39).toInt ≠ 0 → TQ s39 := by first | (intro h; exact absurd rfl h) | (intro h; exfalso; revert h; first | (unfold In at i39; omega) | (unfold In at i104; omega) | (unfold In at i144; omega))
        have n42g : (z39).toInt ≠ 0 → s39.2.2.1 46 6 = s.2.2.1 46 6 ∧ s39.2.2.1 46 7 = s.2.2.1 46 7 := by first | (intro h; exact absurd rfl h) | (intro h; exfalso; revert h; first | (unfold In at i39; omega) | (unfold In at i104; omega) | (unfold In at i144; omega))
        have n42h : (z39).toInt = 0 → 0 ≤ (s39.2.2.1 46 7).toInt := by intro _; rw [p39.2, ← e_46_4]; have a0 := oa8 ((inv_F hI 0 1000 rfl e_46_4)) ((inv_F hI 0 5 rfl e_46_3)) ((inv_F hI 0 1000 rfl e_46_1)) ((inv_F hI 0 1000 rfl e_46_2)) ((inv_F hI 448 28000 rfl e_30_0)) ((inv_F hI 0 32 rfl e_2_1)) ((inv_F hI 0 4000 rfl e_2_0)) ((in_c (-1) rfl)); have oc := oc_136_1_46; omega
        have n42i : (z39).toInt ≠ 0 → LGC s s39 := by first | (intro h; exact absurd rfl h) | (intro h; exfalso; revert h; first | (unfold In at i39; omega) | (unfold In at i104; omega) | (unfold In at i144; omega))
        have n42j : (u_46_2).toInt ≤ (u_46_1).toInt := by have a0 := oa8 ((inv_F hI 0 1000 rfl e_46_4)) ((inv_F hI 0 5 rfl e_46_3)) ((inv_F hI 0 1000 rfl e_46_1)) ((inv_F hI 0 1000 rfl e_46_2)) ((inv_F hI 448 28000 rfl e_30_0)) ((inv_F hI 0 32 rfl e_2_1)) ((inv_F hI 0 4000 rfl e_2_0)) ((in_c (-1) rfl)); have oc := oc_136_1_46; omega
        have n42k : (s39.2.2.1 46 2).toInt ≤ (s39.2.2.1 46 1).toInt := by have b0 : u_46_2 = s39.2.2.1 46 2 := fr_F (e_46_2) hF39 rfl; have b1 : u_46_1 = s39.2.2.1 46 1 := fr_F (e_46_1) hF39 rfl; rw [← b0, ← b1]; exact n42j
        have n42l : (u_2_0).toInt ≤ (u_2_0).toInt := by exact Int.le_refl _
        have n42m : (s.2.2.1 2 0).toInt ≤ (s39.2.2.1 2 0).toInt := by have b0 : u_2_0 = s39.2.2.1 2 0 := fr_F (e_2_0) hF39 rfl; first | (rw [← b0, ← e_2_0]; exact n42l) | (rw [← b0]; exact n42l)
        exact g_ireturn (gd rfl) rfl (nb01 (in_w 0 1 i39 rfl)) (hP _ _ ⟨(A 30), s39, hI39, (fr_tr rfl fr_rf hF39), n42k, n42m, z39, rfl, (by rw [ax_id]), in_w 0 1 i39 rfl, n42, n42a, n42b, n42c, n42d, n42e, n42f, n42g, n42h, n42i⟩)
  · skip
    have i10 := r_eq1 1 1 c10 (inv_F hI 0 5 rfl e_46_3) (in_c 1 rfl) rfl
    refine g_aload_n 14 (gd rfl) rfl rfl ?_
    refine g_getI 17 (gd rfl) rfl rfl rfl (fun z14 e14 => ?_)
    have q14 : u_46_5 = z14 := (e_46_5).trans e14.symm
    subst q14
    have i17 : In u_46_5 0 25 := by rw [e14]; exact q_1 (by rw [← e6]; exact c10.trans (by decide))
    refine g_goto 21 (gd rfl) rfl ?_
    refine g_istore_n 22 (gd rfl) rfl (Nat.le_of_ble_eq_true rfl) ?_
    refine g_iload_n 23 (gd rfl) rfl rfl ?_
    refine g_calls (As := [.int u_46_5]) (r := []) 26 (gd rfl) rfl rfl rfl rfl rfl (Nat.le_of_ble_eq_true rfl) (mc := 0) (ms := 0) (Nat.zero_le _) (Nat.zero_le _) (P := fun v u => _) ?_ (fun v u h => h)
    intro po23 xx23 hp23 hx23
    refine g_enter2 (k := 137) (N := 300) (by first | exact dq1 hd rfl | exact dq0 hd rfl | exact dq2 hd rfl | exact dq3 hd rfl | omega) rfl (Nat.le_of_ble_eq_true rfl) ?_
    refine g_iload_n 1 (gd rfl) rfl rfl ?_
    refine g_lsw [(0, 47), (13, 44), (19, 50), (22, 53)] 56 (gd rfl) rfl rfl rfl ⟨fun c23x1 => ?_, fun c23x1_0 => ⟨fun c23x1 => ?_, fun c23x1_1 => ⟨fun c23x1 => ?_, fun c23x1_2 => ⟨fun c23x1 => ?_, fun c23x1_3 => ?_⟩⟩⟩⟩
    · skip
      have i23x1 := sw_eq c23x1
      refine g_ldcs 2 49 (gd rfl) rfl rfl ?_
      refine g_areturn (gd rfl) rfl (hp23 _ _ ?_)
      show GG _ _ _ _ _ _ _ _ [.ref (zq Z (Int32.ofInt 2))] _ _ _
      refine g_astore 28 (gd rfl) rfl (Nat.le_of_ble_eq_true rfl) ?_
      refine g_aload 30 (gd rfl) rfl rfl ?_
      have i30 : In (Int32.ofInt 2) 0 6 := in_w 0 6 (in_c 2 rfl) rfl
      refine g_callS (X := _) (As := []) (r := []) (x := (Int32.ofInt 2)) 33 (gd rfl) rfl rfl rfl zm_428 rfl rfl rfl i30 (Nat.le_of_ble_eq_true rfl) (f_428 i30 (by omega)) (fun e u h => h) (fun v u h => ?_)
      obtain ⟨z30, rfl, rfl, i30a, p30, p30a⟩ := h
      show GG _ _ _ _ _ _ _ _ [.int z30] _ _ _
      refine g_if_eq 36 43 (gd rfl) rfl rfl (fun c33 => ?_) (fun c33 => ?_)
      · skip
        have i33 := z_eq 0 0 c33 i30a rfl
        refine g_iconst 0 44 (gd rfl) rfl rfl ?_
        refine g_istore 46 (gd rfl) rfl (Nat.le_of_ble_eq_true rfl) ?_
        have n46 : (u_46_2).toInt ≤ (u_46_1).toInt := by have a0 := oa9 i23x1 ((inv_F hI 0 1000 rfl e_46_4)) i10 ((inv_F hI 0 1000 rfl e_46_1)) ((inv_F hI 0 1000 rfl e_46_2)) ((inv_F hI 448 28000 rfl e_30_0)) ((inv_F hI 0 32 rfl e_2_1)) ((inv_F hI 0 4000 rfl e_2_0)) ((in_c 0 rfl)); have oc := oc_136_1_46; omega
        have n46a : (u_2_0).toInt ≤ (u_2_0).toInt := by exact Int.le_refl _
        have n46b : (u_46_5).toInt = 13 → ((Int32.ofInt 2)).toInt = 1 := by intro h; first | decide | (exfalso; have a0 := oa9 i23x1 ((inv_F hI 0 1000 rfl e_46_4)) i10 ((inv_F hI 0 1000 rfl e_46_1)) ((inv_F hI 0 1000 rfl e_46_2)) ((inv_F hI 448 28000 rfl e_30_0)) ((inv_F hI 0 32 rfl e_2_1)) ((inv_F hI 0 4000 rfl e_2_0)) ((in_c 0 rfl)); have oc := oc_136_1_46; omega)
        have n46c : ((Int32.ofInt 2)).toInt = 1 → 1 ≤ ((Int32.ofInt 0)).toInt → In (s.1 31 0) 0 25 := by intro _ h; exfalso; revert h; decide
        have n46d : Fr ([31], [], [(46, 2), (46, 3), (46, 4), (46, 5), (46, 6), (46, 7)], []) s s := by exact fr_rf
        have n46e : SHQ (u_46_5).toInt ((Int32.ofInt 2)).toInt := by first | (exfalso; have h9 := p30 (by have a0 := oa9 i23x1 ((inv_F hI 0 1000 rfl e_46_4)) i10 ((inv_F hI 0 1000 rfl e_46_1)) ((inv_F hI 0 1000 rfl e_46_2)) ((inv_F hI 448 28000 rfl e_30_0)) ((inv_F hI 0 32 rfl e_2_1)) ((inv_F hI 0 4000 rfl e_2_0)) ((in_c 0 rfl)); have oc := oc_136_1_46; omega); revert h9; decide) | exact Or.inl ⟨by have a0 := oa9 i23x1 ((inv_F hI 0 1000 rfl e_46_4)) i10 ((inv_F hI 0 1000 rfl e_46_1)) ((inv_F hI 0 1000 rfl e_46_2)) ((inv_F hI 448 28000 rfl e_30_0)) ((inv_F hI 0 32 rfl e_2_1)) ((inv_F hI 0 4000 rfl e_2_0)) ((in_c 0 rfl)); have oc := oc_136_1_46; omega, by decide⟩ | exact Or.inr (Or.inl ⟨by have a0 := oa9 i23x1 ((inv_F hI 0 1000 rfl e_46_4)) i10 ((inv_F hI 0 1000 rfl e_46_1)) ((inv_F hI 0 1000 rfl e_46_2)) ((inv_F hI 448 28000 rfl e_30_0)) ((inv_F hI 0 32 rfl e_2_1)) ((inv_F hI 0 4000 rfl e_2_0)) ((in_c 0 rfl)); have oc := oc_136_1_46; omega, by decide⟩) | exact Or.inr (Or.inr (Or.inl ⟨by have a0 := oa9 i23x1 ((inv_F hI 0 1000 rfl e_46_4)) i10 ((inv_F hI 0 1000 rfl e_46_1)) ((inv_F hI 0 1000 rfl e_46_2)) ((inv_F hI 448 28000 rfl e_30_0)) ((inv_F hI 0 32 rfl e_2_1)) ((inv_F hI 0 4000 rfl e_2_0)) ((in_c 0 rfl)); have oc := oc_136_1_46; omega, by decide⟩)) | exact Or.inr (Or.inr (Or.inr ⟨by have a0 := oa9 i23x1 ((inv_F hI 0 1000 rfl e_46_4)) i10 ((inv_F hI 0 1000 rfl e_46_1)) ((inv_F hI 0 1000 rfl e_46_2)) ((inv_F hI 448 28000 rfl e_30_0)) ((inv_F hI 0 32 rfl e_2_1)) ((inv_F hI 0 4000 rfl e_2_0)) ((in_c 0 rfl)); have oc := oc_136_1_46; omega, by decide⟩))
        have n46f : (s.2.2.1 46 3).toInt = 1 ∧ (s.2.2.1 46 5).toInt = (u_46_5).toInt ∧ (u_46_4) = s.2.2.1 46 4 := by first | (exfalso; have h9 := p30 (by have a0 := oa9 i23x1 ((inv_F hI 0 1000 rfl e_46_4)) i10 ((inv_F hI 0 1000 rfl e_46_1)) ((inv_F hI 0 1000 rfl e_46_2)) ((inv_F hI 448 28000 rfl e_30_0)) ((inv_F hI 0 32 rfl e_2_1)) ((inv_F hI 0 4000 rfl e_2_0)) ((in_c 0 rfl)); have oc := oc_136_1_46; omega); revert h9; decide) | exact ⟨by rw [← e_46_3]; have a0 := oa9 i23x1 ((inv_F hI 0 1000 rfl e_46_4)) i10 ((inv_F hI 0 1000 rfl e_46_1)) ((inv_F hI 0 1000 rfl e_46_2)) ((inv_F hI 448 28000 rfl e_30_0)) ((inv_F hI 0 32 rfl e_2_1)) ((inv_F hI 0 4000 rfl e_2_0)) ((in_c 0 rfl)); have oc := oc_136_1_46; omega, by rw [← e_46_5], e_46_4⟩
        have n46g : ((Int32.ofInt 0)).toInt ≤ (cmA (u_46_5).toInt : Int) := by exact Int.natCast_nonneg _
        have n46h : ∀ a : Nat, TKN (s.1 47) (s.2.2.1 46 1).toInt.toNat a (s.2.2.1 46 4).toInt.toNat (s.2.2.1 46 2).toInt.toNat (s.2.2.1 46 3).toInt (s.2.2.1 46 5).toInt → (∀ j, j < ((Int32.ofInt 0)).toInt.toNat → ∃ q f, TSQ (s.1 47) (s.2.2.1 46 1).toInt.toNat a (j + 1) q f (cmK (u_46_5).toInt (j + 1)) (s.1 31 j).toInt) ∧ ∃ p k v, TSQ (s.1 47) (s.2.2.1 46 1).toInt.toNat a ((Int32.ofInt 0)).toInt.toNat p (u_46_2).toInt.toNat k v := by intro a ha; exact ⟨fun j hj => absurd hj (by have h9 : (Int32.ofInt 0).toInt.toNat = 0 := rfl; omega), _, _, _, by rw [e_46_2]; exact ha⟩
        have n46i : s.2.2.1 46 6 = s.2.2.1 46 6 ∧ s.2.2.1 46 7 = s.2.2.1 46 7 := by exact ⟨rfl, rfl⟩
        exact gg_w (by first | exact Nat.le_of_ble_eq_true rfl | omega) (gg_f (gf_cons rfl (gf_cons rfl (gf_cons rfl (gf_cons rfl (gf_cons rfl (gf_cons rfl gf_nil)))))) (ct46 6 s u_46_4 u_46_5 (Int32.ofInt 2) (Int32.ofInt 0) u_46_2 u_2_0 u_2_1 u_30_0 hI fr_rf (in_w 0 1000 (inv_F hI 0 1000 rfl e_46_4) rfl) (in_w (-1) 25 i23x1 rfl) (in_w 1 5 (in_c 2 rfl) rfl) (in_w 0 5 (in_c 0 rfl) rfl) e_46_2 e_2_0 e_2_1 e_30_0 n46 n46a n46b n46c n46d n46e n46f n46g n46h n46i (m_in 6 (in_w 0 5 (in_c 0 rfl) rfl) rfl)))
      · skip
        have i33 := z_ne 1 1 c33 i30a rfl
        refine g_aload_n 37 (gd rfl) rfl rfl ?_
        refine g_iconst 2 38 (gd rfl) rfl rfl ?_
        refine g_iconst 3 39 (gd rfl) rfl rfl ?_
        refine g_callv (X := _) (As := [.int (Int32.ofInt 2), .int (Int32.ofInt 3)]) (r := []) (b := A 46) (q := 46) 42 (gd rfl) rfl rfl rfl rfl rfl (ww_o rfl) (Nat.le_of_ble_eq_true rfl) (Nat.zero_le _) (Nat.zero_le _) (f_169_46 (by first | exact dq1 hd rfl | exact dq0 hd rfl | exact dq2 hd rfl | exact dq3 hd rfl | omega) hI (in_w 2 2 (in_c 2 rfl) rfl) (in_w 3 3 (in_c 3 rfl) rfl) e_46_3 e_46_4) (fun e u h => h) (fun v u h => ?_)
        obtain ⟨s39, hI39, hF39, z39, rfl, rfl, i39, p39⟩ := h
        show GG _ _ _ _ _ _ _ _ [.int z39] _ _ _
        have n42 : KL s39 := by have hL9 : Fr ([31], [], [(46, 2), (46, 3), (46, 4), (46, 5), (46, 6), (46, 7)], []) s s39 := (fr_tr rfl fr_rf hF39); exact kl_fr q_0 hL9 rfl
        have n42a : (z39).toInt ≠ 0 → (s39.2.2.1 30 0).toInt = nln s := by first | (intro h; exact absurd rfl h) | (intro h; exfalso; revert h; first | (unfold In at i39; omega) | (unfold In at i104; omega) | (unfold In at i144; omega))
        have n42b : (z39).toInt ≠ 0 → (s.2.2.1 2 0).toInt ≤ 3999 := by first | (intro h; exact absurd rfl h) | (intro h; exfalso; revert h; first | (unfold In at i39; omega) | (unfold In at i104; omega) | (unfold In at i144; omega))
        have n42c : ∀ k : Nat, (k : Int) < 7 * (s.2.2.1 2 0).toInt → s39.1 30 k = s.1 30 k := by have hL9 : Fr ([31], [], [(46, 2), (46, 3), (46, 4), (46, 5), (46, 6), (46, 7)], []) s s39 := (fr_tr rfl fr_rf hF39); exact fun k _ => by rw [hL9.1 30 rfl]
        have n42d : (z39).toInt ≠ 0 → ∀ a : Nat, TKN (s.1 47) (s.2.2.1 46 1).toInt.toNat a (s.2.2.1 46 4).toInt.toNat (s.2.2.1 46 2).toInt.toNat (s.2.2.1 46 3).toInt (s.2.2.1 46 5).toInt → ∃ c V, CMP (s.1 47) (s.2.2.1 46 1).toInt.toNat a (s.2.2.1 46 4).toInt.toNat c V (s39.2.2.1 46 2).toInt.toNat ∧ dkC (gvC s) c V ∧ gvC s39 = opC (gvC s) c V := by first | (intro h; exact absurd rfl h) | (intro h; exfalso; revert h; first | (unfold In at i39; omega) | (unfold In at i104; omega) | (unfold In at i144; omega))
        have n42e : (z39).toInt = 0 → ∀ a : Nat, TKN (s.1 47) (s.2.2.1 46 1).toInt.toNat a (s.2.2.1 46 4).toInt.toNat (s.2.2.1 46 2).toInt.toNat (s.2.2.1 46 3).toInt (s.2.2.1 46 5).toInt → CMX (s.1 47) (s.2.2.1 46 1).toInt.toNat a (s39.2.2.1 46 6).toInt (s39.2.2.1 46 7).toInt.toNat ∨ ∃ c V e, CMP (s.1 47) (s.2.2.1 46 1).toInt.toNat a (s39.2.2.1 46 7).toInt.toNat c V e ∧ ¬ dkC (gvC s) c V ∧ (s39.2.2.1 46 6).toInt = 4 := by intro _ a ha; refine Or.inl (Or.inl ⟨_, _, _, by rw [p39.2]; exact ha, q_4, ?_, p39.1⟩); first | (rintro ⟨h8, h9⟩; rw [← e_46_3] at h8; have a0 := oa8 i23x1 ((inv_F hI 0 1000 rfl e_46_4)) i10 ((inv_F hI 0 1000 rfl e_46_1)) ((inv_F hI 0 1000 rfl e_46_2)) ((inv_F hI 448 28000 rfl e_30_0)) ((inv_F hI 0 32 rfl e_2_1)) ((inv_F hI 0 4000 rfl e_2_0)); have oc := oc_136_1_46; omega) | (rintro ⟨h8, h9⟩; rw [← e_46_5] at h9; unfold cmI at h9; have a0 := oa8 i23x1 ((inv_F hI 0 1000 rfl e_46_4)) i10 ((inv_F hI 0 1000 rfl e_46_1)) ((inv_F hI 0 1000 rfl e_46_2)) ((inv_F hI 448 28000 rfl e_30_0)) ((inv_F hI 0 32 rfl e_2_1)) ((inv_F hI 0 4000 rfl e_2_0)); have oc := oc_136_1_46; omega) | (exfalso; have h9 := p30a (by have a0 := oa8 i23x1 ((inv_F hI 0 1000 rfl e_46_4)) i10 ((inv_F hI 0 1000 rfl e_46_1)) ((inv_F hI 0 1000 rfl e_46_2)) ((inv_F hI 448 28000 rfl e_30_0)) ((inv_F hI 0 32 rfl e_2_1)) ((inv_F hI 0 4000 rfl e_2_0)); have oc := oc_136_1_46; omega); revert h9; decide)
        have n42f : (z39).toInt ≠ 0 → TQ s39 := by first | (intro h; exact absurd rfl h) | (intro h; exfalso; revert h; first | (unfold In at i39; omega) | (unfold In at i104; omega) | (unfold In at i144; omega))
        have n42g : (z39).toInt ≠ 0 → s39.2.2.1 46 6 = s.2.2.1 46 6 ∧ s39.2.2.1 46 7 = s.2.2.1 46 7 := by first | (intro h; exact absurd rfl h) | (intro h; exfalso; revert h; first | (unfold In at i39; omega) | (unfold In at i104; omega) | (unfold In at i144; omega))
        have n42h : (z39).toInt = 0 → 0 ≤ (s39.2.2.1 46 7).toInt := by intro _; rw [p39.2, ← e_46_4]; have a0 := oa8 i23x1 ((inv_F hI 0 1000 rfl e_46_4)) i10 ((inv_F hI 0 1000 rfl e_46_1)) ((inv_F hI 0 1000 rfl e_46_2)) ((inv_F hI 448 28000 rfl e_30_0)) ((inv_F hI 0 32 rfl e_2_1)) ((inv_F hI 0 4000 rfl e_2_0)); have oc := oc_136_1_46; omega
        have n42i : (z39).toInt ≠ 0 → LGC s s39 := by first | (intro h; exact absurd rfl h) | (intro h; exfalso; revert h; first | (unfold In at i39; omega) | (unfold In at i104; omega) | (unfold In at i144; omega))
        have n42j : (u_46_2).toInt ≤ (u_46_1).toInt := by have a0 := oa8 i23x1 ((inv_F hI 0 1000 rfl e_46_4)) i10 ((inv_F hI 0 1000 rfl e_46_1)) ((inv_F hI 0 1000 rfl e_46_2)) ((inv_F hI 448 28000 rfl e_30_0)) ((inv_F hI 0 32 rfl e_2_1)) ((inv_F hI 0 4000 rfl e_2_0)); have oc := oc_136_1_46; omega
        have n42k : (s39.2.2.1 46 2).toInt ≤ (s39.2.2.1 46 1).toInt := by have b0 : u_46_2 = s39.2.2.1 46 2 := fr_F (e_46_2) hF39 rfl; have b1 : u_46_1 = s39.2.2.1 46 1 := fr_F (e_46_1) hF39 rfl; rw [← b0, ← b1]; exact n42j
        have n42l : (u_2_0).toInt ≤ (u_2_0).toInt := by exact Int.le_refl _
        have n42m : (s.2.2.1 2 0).toInt ≤ (s39.2.2.1 2 0).toInt := by have b0 : u_2_0 = s39.2.2.1 2 0 := fr_F (e_2_0) hF39 rfl; first | (rw [← b0, ← e_2_0]; exact n42l) | (rw [← b0]; exact n42l)
        exact g_ireturn (gd rfl) rfl (nb01 (in_w 0 1 i39 rfl)) (hP _ _ ⟨(A 30), s39, hI39, (fr_tr rfl fr_rf hF39), n42k, n42m, z39, rfl, (by rw [ax_id]), in_w 0 1 i39 rfl, n42, n42a, n42b, n42c, n42d, n42e, n42f, n42g, n42h, n42i⟩)
    · skip
      have i23x1 := sw_eq c23x1
      refine g_ldcs 1 46 (gd rfl) rfl rfl ?_
      refine g_areturn (gd rfl) rfl (hp23 _ _ ?_)
      show GG _ _ _ _ _ _ _ _ [.ref (zq Z (Int32.ofInt 1))] _ _ _
      refine g_astore 28 (gd rfl) rfl (Nat.le_of_ble_eq_true rfl) ?_
      refine g_aload 30 (gd rfl) rfl rfl ?_
      have i30 : In (Int32.ofInt 1) 0 6 := in_w 0 6 (in_c 1 rfl) rfl
      refine g_callS (X := _) (As := []) (r := []) (x := (Int32.ofInt 1)) 33 (gd rfl) rfl rfl rfl zm_428 rfl rfl rfl i30 (Nat.le_of_ble_eq_true rfl) (f_428 i30 (by omega)) (fun e u h => h) (fun v u h => ?_)
      obtain ⟨z30, rfl, rfl, i30a, p30, p30a⟩ := h
      show GG _ _ _ _ _ _ _ _ [.int z30] _ _ _
      refine g_if_eq 36 43 (gd rfl) rfl rfl (fun c33 => ?_) (fun c33 => ?_)
      · skip
        have i33 := z_eq 0 0 c33 i30a rfl
        refine g_iconst 0 44 (gd rfl) rfl rfl ?_
        refine g_istore 46 (gd rfl) rfl (Nat.le_of_ble_eq_true rfl) ?_
        have n46 : (u_46_2).toInt ≤ (u_46_1).toInt := by have a0 := oa9 i23x1 ((inv_F hI 0 1000 rfl e_46_4)) i10 ((inv_F hI 0 1000 rfl e_46_1)) ((inv_F hI 0 1000 rfl e_46_2)) ((inv_F hI 448 28000 rfl e_30_0)) ((inv_F hI 0 32 rfl e_2_1)) ((inv_F hI 0 4000 rfl e_2_0)) ((in_c 0 rfl)); have oc := oc_136_1_46; omega
        have n46a : (u_2_0).toInt ≤ (u_2_0).toInt := by exact Int.le_refl _
        have n46b : (u_46_5).toInt = 13 → ((Int32.ofInt 1)).toInt = 1 := by intro h; first | decide | (exfalso; have a0 := oa9 i23x1 ((inv_F hI 0 1000 rfl e_46_4)) i10 ((inv_F hI 0 1000 rfl e_46_1)) ((inv_F hI 0 1000 rfl e_46_2)) ((inv_F hI 448 28000 rfl e_30_0)) ((inv_F hI 0 32 rfl e_2_1)) ((inv_F hI 0 4000 rfl e_2_0)) ((in_c 0 rfl)); have oc := oc_136_1_46; omega)
        have n46c : ((Int32.ofInt 1)).toInt = 1 → 1 ≤ ((Int32.ofInt 0)).toInt → In (s.1 31 0) 0 25 := by intro _ h; exfalso; revert h; decide
        have n46d : Fr ([31], [], [(46, 2), (46, 3), (46, 4), (46, 5), (46, 6), (46, 7)], []) s s := by exact fr_rf
        have n46e : SHQ (u_46_5).toInt ((Int32.ofInt 1)).toInt := by first | (exfalso; have h9 := p30 (by have a0 := oa9 i23x1 ((inv_F hI 0 1000 rfl e_46_4)) i10 ((inv_F hI 0 1000 rfl e_46_1)) ((inv_F hI 0 1000 rfl e_46_2)) ((inv_F hI 448 28000 rfl e_30_0)) ((inv_F hI 0 32 rfl e_2_1)) ((inv_F hI 0 4000 rfl e_2_0)) ((in_c 0 rfl)); have oc := oc_136_1_46; omega); revert h9; decide) | exact Or.inl ⟨by have a0 := oa9 i23x1 ((inv_F hI 0 1000 rfl e_46_4)) i10 ((inv_F hI 0 1000 rfl e_46_1)) ((inv_F hI 0 1000 rfl e_46_2)) ((inv_F hI 448 28000 rfl e_30_0)) ((inv_F hI 0 32 rfl e_2_1)) ((inv_F hI 0 4000 rfl e_2_0)) ((in_c 0 rfl)); have oc := oc_136_1_46; omega, by decide⟩ | exact Or.inr (Or.inl ⟨by have a0 := oa9 i23x1 ((inv_F hI 0 1000 rfl e_46_4)) i10 ((inv_F hI 0 1000 rfl e_46_1)) ((inv_F hI 0 1000 rfl e_46_2)) ((inv_F hI 448 28000 rfl e_30_0)) ((inv_F hI 0 32 rfl e_2_1)) ((inv_F hI 0 4000 rfl e_2_0)) ((in_c 0 rfl)); have oc := oc_136_1_46; omega, by decide⟩) | exact Or.inr (Or.inr (Or.inl ⟨by have a0 := oa9 i23x1 ((inv_F hI 0 1000 rfl e_46_4)) i10 ((inv_F hI 0 1000 rfl e_46_1)) ((inv_F hI 0 1000 rfl e_46_2)) ((inv_F hI 448 28000 rfl e_30_0)) ((inv_F hI 0 32 rfl e_2_1)) ((inv_F hI 0 4000 rfl e_2_0)) ((in_c 0 rfl)); have oc := oc_136_1_46; omega, by decide⟩)) | exact Or.inr (Or.inr (Or.inr ⟨by have a0 := oa9 i23x1 ((inv_F hI 0 1000 rfl e_46_4)) i10 ((inv_F hI 0 1000 rfl e_46_1)) ((inv_F hI 0 1000 rfl e_46_2)) ((inv_F hI 448 28000 rfl e_30_0)) ((inv_F hI 0 32 rfl e_2_1)) ((inv_F hI 0 4000 rfl e_2_0)) ((in_c 0 rfl)); have oc := oc_136_1_46; omega, by decide⟩))
        have n46f : (s.2.2.1 46 3).toInt = 1 ∧ (s.2.2.1 46 5).toInt = (u_46_5).toInt ∧ (u_46_4) = s.2.2.1 46 4 := by first | (exfalso; have h9 := p30 (by have a0 := oa9 i23x1 ((inv_F hI 0 1000 rfl e_46_4)) i10 ((inv_F hI 0 1000 rfl e_46_1)) ((inv_F hI 0 1000 rfl e_46_2)) ((inv_F hI 448 28000 rfl e_30_0)) ((inv_F hI 0 32 rfl e_2_1)) ((inv_F hI 0 4000 rfl e_2_0)) ((in_c 0 rfl)); have oc := oc_136_1_46; omega); revert h9; decide) | exact ⟨by rw [← e_46_3]; have a0 := oa9 i23x1 ((inv_F hI 0 1000 rfl e_46_4)) i10 ((inv_F hI 0 1000 rfl e_46_1)) ((inv_F hI 0 1000 rfl e_46_2)) ((inv_F hI 448 28000 rfl e_30_0)) ((inv_F hI 0 32 rfl e_2_1)) ((inv_F hI 0 4000 rfl e_2_0)) ((in_c 0 rfl)); have oc := oc_136_1_46; omega, by rw [← e_46_5], e_46_4⟩
        have n46g : ((Int32.ofInt 0)).toInt ≤ (cmA (u_46_5).toInt : Int) := by exact Int.natCast_nonneg _
        have n46h : ∀ a : Nat, TKN (s.1 47) (s.2.2.1 46 1).toInt.toNat a (s.2.2.1 46 4).toInt.toNat (s.2.2.1 46 2).toInt.toNat (s.2.2.1 46 3).toInt (s.2.2.1 46 5).toInt → (∀ j, j < ((Int32.ofInt 0)).toInt.toNat → ∃ q f, TSQ (s.1 47) (s.2.2.1 46 1).toInt.toNat a (j + 1) q f (cmK (u_46_5).toInt (j + 1)) (s.1 31 j).toInt) ∧ ∃ p k v, TSQ (s.1 47) (s.2.2.1 46 1).toInt.toNat a ((Int32.ofInt 0)).toInt.toNat p (u_46_2).toInt.toNat k v := by intro a ha; exact ⟨fun j hj => absurd hj (by have h9 : (Int32.ofInt 0).toInt.toNat = 0 := rfl; omega), _, _, _, by rw [e_46_2]; exact ha⟩
        have n46i : s.2.2.1 46 6 = s.2.2.1 46 6 ∧ s.2.2.1 46 7 = s.2.2.1 46 7 := by exact ⟨rfl, rfl⟩
        exact gg_w (by first | exact Nat.le_of_ble_eq_true rfl | omega) (gg_f (gf_cons rfl (gf_cons rfl (gf_cons rfl (gf_cons rfl (gf_cons rfl (gf_cons rfl gf_nil)))))) (ct46 6 s u_46_4 u_46_5 (Int32.ofInt 1) (Int32.ofInt 0) u_46_2 u_2_0 u_2_1 u_30_0 hI fr_rf (in_w 0 1000 (inv_F hI 0 1000 rfl e_46_4) rfl) (in_w (-1) 25 i23x1 rfl) (in_w 1 5 (in_c 1 rfl) rfl) (in_w 0 5 (in_c 0 rfl) rfl) e_46_2 e_2_0 e_2_1 e_30_0 n46 n46a n46b n46c n46d n46e n46f n46g n46h n46i (m_in 6 (in_w 0 5 (in_c 0 rfl) rfl) rfl)))
      · skip
        have i33 := z_ne 1 1 c33 i30a rfl
        refine g_aload_n 37 (gd rfl) rfl rfl ?_
        refine g_iconst 2 38 (gd rfl) rfl rfl ?_
        refine g_iconst 3 39 (gd rfl) rfl rfl ?_
        refine g_callv (X := _) (As := [.int (Int32.ofInt 2), .int (Int32.ofInt 3)]) (r := []) (b := A 46) (q := 46) 42 (gd rfl) rfl rfl rfl rfl rfl (ww_o rfl) (Nat.le_of_ble_eq_true rfl) (Nat.zero_le _) (Nat.zero_le _) (f_169_46 (by first | exact dq1 hd rfl | exact dq0 hd rfl | exact dq2 hd rfl | exact dq3 hd rfl | omega) hI (in_w 2 2 (in_c 2 rfl) rfl) (in_w 3 3 (in_c 3 rfl) rfl) e_46_3 e_46_4) (fun e u h => h) (fun v u h => ?_)
        obtain ⟨s39, hI39, hF39, z39, rfl, rfl, i39, p39⟩ := h
        show GG _ _ _ _ _ _ _ _ [.int z39] _ _ _
        have n42 : KL s39 := by have hL9 : Fr ([31], [], [(46, 2), (46, 3), (46, 4), (46, 5), (46, 6), (46, 7)], []) s s39 := (fr_tr rfl fr_rf hF39); exact kl_fr q_0 hL9 rfl
        have n42a : (z39).toInt ≠ 0 → (s39.2.2.1 30 0).toInt = nln s := by first | (intro h; exact absurd rfl h) | (intro h; exfalso; revert h; first | (unfold In at i39; omega) | (unfold In at i104; omega) | (unfold In at i144; omega))
        have n42b : (z39).toInt ≠ 0 → (s.2.2.1 2 0).toInt ≤ 3999 := by first | (intro h; exact absurd rfl h) | (intro h; exfalso; revert h; first | (unfold In at i39; omega) | (unfold In at i104; omega) | (unfold In at i144; omega))
        have n42c : ∀ k : Nat, (k : Int) < 7 * (s.2.2.1 2 0).toInt → s39.1 30 k = s.1 30 k := by have hL9 : Fr ([31], [], [(46, 2), (46, 3), (46, 4), (46, 5), (46, 6), (46, 7)], []) s s39 := (fr_tr rfl fr_rf hF39); exact fun k _ => by rw [hL9.1 30 rfl]
        have n42d : (z39).toInt ≠ 0 → ∀ a : Nat, TKN (s.1 47) (s.2.2.1 46 1).toInt.toNat a (s.2.2.1 46 4).toInt.toNat (s.2.2.1 46 2).toInt.toNat (s.2.2.1 46 3).toInt (s.2.2.1 46 5).toInt → ∃ c V, CMP (s.1 47) (s.2.2.1 46 1).toInt.toNat a (s.2.2.1 46 4).toInt.toNat c V (s39.2.2.1 46 2).toInt.toNat ∧ dkC (gvC s) c V ∧ gvC s39 = opC (gvC s) c V := by first | (intro h; exact absurd rfl h) | (intro h; exfalso; revert h; first | (unfold In at i39; omega) | (unfold In at i104; omega) | (unfold In at i144; omega))
        have n42e : (z39).toInt = 0 → ∀ a : Nat, TKN (s.1 47) (s.2.2.1 46 1).toInt.toNat a (s.2.2.1 46 4).toInt.toNat (s.2.2.1 46 2).toInt.toNat (s.2.2.1 46 3).toInt (s.2.2.1 46 5).toInt → CMX (s.1 47) (s.2.2.1 46 1).toInt.toNat a (s39.2.2.1 46 6).toInt (s39.2.2.1 46 7).toInt.toNat ∨ ∃ c V e, CMP (s.1 47) (s.2.2.1 46 1).toInt.toNat a (s39.2.2.1 46 7).toInt.toNat c V e ∧ ¬ dkC (gvC s) c V ∧ (s39.2.2.1 46 6).toInt = 4 := by intro _ a ha; refine Or.inl (Or.inl ⟨_, _, _, by rw [p39.2]; exact ha, q_4, ?_, p39.1⟩); first | (rintro ⟨h8, h9⟩; rw [← e_46_3] at h8; have a0 := oa8 i23x1 ((inv_F hI 0 1000 rfl e_46_4)) i10 ((inv_F hI 0 1000 rfl e_46_1)) ((inv_F hI 0 1000 rfl e_46_2)) ((inv_F hI 448 28000 rfl e_30_0)) ((inv_F hI 0 32 rfl e_2_1)) ((inv_F hI 0 4000 rfl e_2_0)); have oc := oc_136_1_46; omega) | (rintro ⟨h8, h9⟩; rw [← e_46_5] at h9; unfold cmI at h9; have a0 := oa8 i23x1 ((inv_F hI 0 1000 rfl e_46_4)) i10 ((inv_F hI 0 1000 rfl e_46_1)) ((inv_F hI 0 1000 rfl e_46_2)) ((inv_F hI 448 28000 rfl e_30_0)) ((inv_F hI 0 32 rfl e_2_1)) ((inv_F hI 0 4000 rfl e_2_0)); have oc := oc_136_1_46; omega) | (exfalso; have h9 := p30a (by have a0 := oa8 i23x1 ((inv_F hI 0 1000 rfl e_46_4)) i10 ((inv_F hI 0 1000 rfl e_46_1)) ((inv_F hI 0 1000 rfl e_46_2)) ((inv_F hI 448 28000 rfl e_30_0)) ((inv_F hI 0 32 rfl e_2_1)) ((inv_F hI 0 4000 rfl e_2_0)); have oc := oc_136_1_46; omega); revert h9; decide)
        have n42f : (z39).toInt ≠ 0 → TQ s39 := by first | (intro h; exact absurd rfl h) | (intro h; exfalso; revert h; first | (unfold In at i39; omega) | (unfold In at i104; omega) | (unfold In at i144; omega))
        have n42g : (z39).toInt ≠ 0 → s39.2.2.1 46 6 = s.2.2.1 46 6 ∧ s39.2.2.1 46 7 = s.2.2.1 46 7 := by first | (intro h; exact absurd rfl h) | (intro h; exfalso; revert h; first | (unfold In at i39; omega) | (unfold In at i104; omega) | (unfold In at i144; omega))
        have n42h : (z39).toInt = 0 → 0 ≤ (s39.2.2.1 46 7).toInt := by intro _; rw [p39.2, ← e_46_4]; have a0 := oa8 i23x1 ((inv_F hI 0 1000 rfl e_46_4)) i10 ((inv_F hI 0 1000 rfl e_46_1)) ((inv_F hI 0 1000 rfl e_46_2)) ((inv_F hI 448 28000 rfl e_30_0)) ((inv_F hI 0 32 rfl e_2_1)) ((inv_F hI 0 4000 rfl e_2_0)); have oc := oc_136_1_46; omega
        have n42i : (z39).toInt ≠ 0 → LGC s s39 := by first | (intro h; exact absurd rfl h) | (intro h; exfalso; revert h; first | (unfold In at i39; omega) | (unfold In at i104; omega) | (unfold In at i144; omega))
        have n42j : (u_46_2).toInt ≤ (u_46_1).toInt := by have a0 := oa8 i23x1 ((inv_F hI 0 1000 rfl e_46_4)) i10 ((inv_F hI 0 1000 rfl e_46_1)) ((inv_F hI 0 1000 rfl e_46_2)) ((inv_F hI 448 28000 rfl e_30_0)) ((inv_F hI 0 32 rfl e_2_1)) ((inv_F hI 0 4000 rfl e_2_0)); have oc := oc_136_1_46; omega
        have n42k : (s39.2.2.1 46 2).toInt ≤ (s39.2.2.1 46 1).toInt := by have b0 : u_46_2 = s39.2.2.1 46 2 := fr_F (e_46_2) hF39 rfl; have b1 : u_46_1 = s39.2.2.1 46 1 := fr_F (e_46_1) hF39 rfl; rw [← b0, ← b1]; exact n42j
        have n42l : (u_2_0).toInt ≤ (u_2_0).toInt := by exact Int.le_refl _
        have n42m : (s.2.2.1 2 0).toInt ≤ (s39.2.2.1 2 0).toInt := by have b0 : u_2_0 = s39.2.2.1 2 0 := fr_F (e_2_0) hF39 rfl; first | (rw [← b0, ← e_2_0]; exact n42l) | (rw [← b0]; exact n42l)
        exact g_ireturn (gd rfl) rfl (nb01 (in_w 0 1 i39 rfl)) (hP _ _ ⟨(A 30), s39, hI39, (fr_tr rfl fr_rf hF39), n42k, n42m, z39, rfl, (by rw [ax_id]), in_w 0 1 i39 rfl, n42, n42a, n42b, n42c, n42d, n42e, n42f, n42g, n42h, n42i⟩)
    · skip
      have i23x1 := sw_eq c23x1
      refine g_ldcs 3 52 (gd rfl) rfl rfl ?_
      refine g_areturn (gd rfl) rfl (hp23 _ _ ?_)
      show GG _ _ _ _ _ _ _ _ [.ref (zq Z (Int32.ofInt 3))] _ _ _
      refine g_astore 28 (gd rfl) rfl (Nat.le_of_ble_eq_true rfl) ?_
      refine g_aload 30 (gd rfl) rfl rfl ?_
      have i30 : In (Int32.ofInt 3) 0 6 := in_w 0 6 (in_c 3 rfl) rfl
      refine g_callS (X := _) (As := []) (r := []) (x := (Int32.ofInt 3)) 33 (gd rfl) rfl rfl rfl zm_428 rfl rfl rfl i30 (Nat.le_of_ble_eq_true rfl) (f_428 i30 (by omega)) (fun e u h => h) (fun v u h => ?_)
      obtain ⟨z30, rfl, rfl, i30a, p30, p30a⟩ := h
      show GG _ _ _ _ _ _ _ _ [.int z30] _ _ _
      refine g_if_eq 36 43 (gd rfl) rfl rfl (fun c33 => ?_) (fun c33 => ?_)
      · skip
        have i33 := z_eq 0 0 c33 i30a rfl
        refine g_iconst 0 44 (gd rfl) rfl rfl ?_
        refine g_istore 46 (gd rfl) rfl (Nat.le_of_ble_eq_true rfl) ?_
        have n46 : (u_46_2).toInt ≤ (u_46_1).toInt := by have a0 := oa9 i23x1 ((inv_F hI 0 1000 rfl e_46_4)) i10 ((inv_F hI 0 1000 rfl e_46_1)) ((inv_F hI 0 1000 rfl e_46_2)) ((inv_F hI 448 28000 rfl e_30_0)) ((inv_F hI 0 32 rfl e_2_1)) ((inv_F hI 0 4000 rfl e_2_0)) ((in_c 0 rfl)); have oc := oc_136_1_46; omega
        have n46a : (u_2_0).toInt ≤ (u_2_0).toInt := by exact Int.le_refl _
        have n46b : (u_46_5).toInt = 13 → ((Int32.ofInt 3)).toInt = 1 := by intro h; first | decide | (exfalso; have a0 := oa9 i23x1 ((inv_F hI 0 1000 rfl e_46_4)) i10 ((inv_F hI 0 1000 rfl e_46_1)) ((inv_F hI 0 1000 rfl e_46_2)) ((inv_F hI 448 28000 rfl e_30_0)) ((inv_F hI 0 32 rfl e_2_1)) ((inv_F hI 0 4000 rfl e_2_0)) ((in_c 0 rfl)); have oc := oc_136_1_46; omega)
        have n46c : ((Int32.ofInt 3)).toInt = 1 → 1 ≤ ((Int32.ofInt 0)).toInt → In (s.1 31 0) 0 25 := by intro _ h; exfalso; revert h; decide
        have n46d : Fr ([31], [], [(46, 2), (46, 3), (46, 4), (46, 5), (46, 6), (46, 7)], []) s s := by exact fr_rf
        have n46e : SHQ (u_46_5).toInt ((Int32.ofInt 3)).toInt := by first | (exfalso; have h9 := p30 (by have a0 := oa9 i23x1 ((inv_F hI 0 1000 rfl e_46_4)) i10 ((inv_F hI 0 1000 rfl e_46_1)) ((inv_F hI 0 1000 rfl e_46_2)) ((inv_F hI 448 28000 rfl e_30_0)) ((inv_F hI 0 32 rfl e_2_1)) ((inv_F hI 0 4000 rfl e_2_0)) ((in_c 0 rfl)); have oc := oc_136_1_46; omega); revert h9; decide) | exact Or.inl ⟨by have a0 := oa9 i23x1 ((inv_F hI 0 1000 rfl e_46_4)) i10 ((inv_F hI 0 1000 rfl e_46_1)) ((inv_F hI 0 1000 rfl e_46_2)) ((inv_F hI 448 28000 rfl e_30_0)) ((inv_F hI 0 32 rfl e_2_1)) ((inv_F hI 0 4000 rfl e_2_0)) ((in_c 0 rfl)); have oc := oc_136_1_46; omega, by decide⟩ | exact Or.inr (Or.inl ⟨by have a0 := oa9 i23x1 ((inv_F hI 0 1000 rfl e_46_4)) i10 ((inv_F hI 0 1000 rfl e_46_1)) ((inv_F hI 0 1000 rfl e_46_2)) ((inv_F hI 448 28000 rfl e_30_0)) ((inv_F hI 0 32 rfl e_2_1)) ((inv_F hI 0 4000 rfl e_2_0)) ((in_c 0 rfl)); have oc := oc_136_1_46; omega, by decide⟩) | exact Or.inr (Or.inr (Or.inl ⟨by have a0 := oa9 i23x1 ((inv_F hI 0 1000 rfl e_46_4)) i10 ((inv_F hI 0 1000 rfl e_46_1)) ((inv_F hI 0 1000 rfl e_46_2)) ((inv_F hI 448 28000 rfl e_30_0)) ((inv_F hI 0 32 rfl e_2_1)) ((inv_F hI 0 4000 rfl e_2_0)) ((in_c 0 rfl)); have oc := oc_136_1_46; omega, by decide⟩)) | exact Or.inr (Or.inr (Or.inr ⟨by have a0 := oa9 i23x1 ((inv_F hI 0 1000 rfl e_46_4)) i10 ((inv_F hI 0 1000 rfl e_46_1)) ((inv_F hI 0 1000 rfl e_46_2)) ((inv_F hI 448 28000 rfl e_30_0)) ((inv_F hI 0 32 rfl e_2_1)) ((inv_F hI 0 4000 rfl e_2_0)) ((in_c 0 rfl)); have oc := oc_136_1_46; omega, by decide⟩))
        have n46f : (s.2.2.1 46 3).toInt = 1 ∧ (s.2.2.1 46 5).toInt = (u_46_5).toInt ∧ (u_46_4) = s.2.2.1 46 4 := by first | (exfalso; have h9 := p30 (by have a0 := oa9 i23x1 ((inv_F hI 0 1000 rfl e_46_4)) i10 ((inv_F hI 0 1000 rfl e_46_1)) ((inv_F hI 0 1000 rfl e_46_2)) ((inv_F hI 448 28000 rfl e_30_0)) ((inv_F hI 0 32 rfl e_2_1)) ((inv_F hI 0 4000 rfl e_2_0)) ((in_c 0 rfl)); have oc := oc_136_1_46; omega); revert h9; decide) | exact ⟨by rw [← e_46_3]; have a0 := oa9 i23x1 ((inv_F hI 0 1000 rfl e_46_4)) i10 ((inv_F hI 0 1000 rfl e_46_1)) ((inv_F hI 0 1000 rfl e_46_2)) ((inv_F hI 448 28000 rfl e_30_0)) ((inv_F hI 0 32 rfl e_2_1)) ((inv_F hI 0 4000 rfl e_2_0)) ((in_c 0 rfl)); have oc := oc_136_1_46; omega, by rw [← e_46_5], e_46_4⟩
        have n46g : ((Int32.ofInt 0)).toInt ≤ (cmA (u_46_5).toInt : Int) := by exact Int.natCast_nonneg _
        have n46h : ∀ a : Nat, TKN (s.1 47) (s.2.2.1 46 1).toInt.toNat a (s.2.2.1 46 4).toInt.toNat (s.2.2.1 46 2).toInt.toNat (s.2.2.1 46 3).toInt (s.2.2.1 46 5).toInt → (∀ j, j < ((Int32.ofInt 0)).toInt.toNat → ∃ q f, TSQ (s.1 47) (s.2.2.1 46 1).toInt.toNat a (j + 1) q f (cmK (u_46_5).toInt (j + 1)) (s.1 31 j).toInt) ∧ ∃ p k v, TSQ (s.1 47) (s.2.2.1 46 1).toInt.toNat a ((Int32.ofInt 0)).toInt.toNat p (u_46_2).toInt.toNat k v := by intro a ha; exact ⟨fun j hj => absurd hj (by have h9 : (Int32.ofInt 0).toInt.toNat = 0 := rfl; omega), _, _, _, by rw [e_46_2]; exact ha⟩
        have n46i : s.2.2.1 46 6 = s.2.2.1 46 6 ∧ s.2.2.1 46 7 = s.2.2.1 46 7 := by exact ⟨rfl, rfl⟩
        exact gg_w (by first | exact Nat.le_of_ble_eq_true rfl | omega) (gg_f (gf_cons rfl (gf_cons rfl (gf_cons rfl (gf_cons rfl (gf_cons rfl (gf_cons rfl gf_nil)))))) (ct46 6 s u_46_4 u_46_5 (Int32.ofInt 3) (Int32.ofInt 0) u_46_2 u_2_0 u_2_1 u_30_0 hI fr_rf (in_w 0 1000 (inv_F hI 0 1000 rfl e_46_4) rfl) (in_w (-1) 25 i23x1 rfl) (in_w 1 5 (in_c 3 rfl) rfl) (in_w 0 5 (in_c 0 rfl) rfl) e_46_2 e_2_0 e_2_1 e_30_0 n46 n46a n46b n46c n46d n46e n46f n46g n46h n46i (m_in 6 (in_w 0 5 (in_c 0 rfl) rfl) rfl)))
      · skip
        have i33 := z_ne 1 1 c33 i30a rfl
        refine g_aload_n 37 (gd rfl) rfl rfl ?_
        refine g_iconst 2 38 (gd rfl) rfl rfl ?_
        refine g_iconst 3 39 (gd rfl) rfl rfl ?_
        refine g_callv (X := _) (As := [.int (Int32.ofInt 2), .int (Int32.ofInt 3)]) (r := []) (b := A 46) (q := 46) 42 (gd rfl) rfl rfl rfl rfl rfl (ww_o rfl) (Nat.le_of_ble_eq_true rfl) (Nat.zero_le _) (Nat.zero_le _) (f_169_46 (by first | exact dq1 hd rfl | exact dq0 hd rfl | exact dq2 hd rfl | exact dq3 hd rfl | omega) hI (in_w 2 2 (in_c 2 rfl) rfl) (in_w 3 3 (in_c 3 rfl) rfl) e_46_3 e_46_4) (fun e u h => h) (fun v u h => ?_)
        obtain ⟨s39, hI39, hF39, z39, rfl, rfl, i39, p39⟩ := h
        show GG _ _ _ _ _ _ _ _ [.int z39] _ _ _
        have n42 : KL s39 := by have hL9 : Fr ([31], [], [(46, 2), (46, 3), (46, 4), (46, 5), (46, 6), (46, 7)], []) s s39 := (fr_tr rfl fr_rf hF39); exact kl_fr q_0 hL9 rfl
        have n42a : (z39).toInt ≠ 0 → (s39.2.2.1 30 0).toInt = nln s := by first | (intro h; exact absurd rfl h) | (intro h; exfalso; revert h; first | (unfold In at i39; omega) | (unfold In at i104; omega) | (unfold In at i144; omega))
        have n42b : (z39).toInt ≠ 0 → (s.2.2.1 2 0).toInt ≤ 3999 := by first | (intro h; exact absurd rfl h) | (intro h; exfalso; revert h; first | (unfold In at i39; omega) | (unfold In at i104; omega) | (unfold In at i144; omega))
        have n42c : ∀ k : Nat, (k : Int) < 7 * (s.2.2.1 2 0).toInt → s39.1 30 k = s.1 30 k := by have hL9 : Fr ([31], [], [(46, 2), (46, 3), (46, 4), (46, 5), (46, 6), (46, 7)], []) s s39 := (fr_tr rfl fr_rf hF39); exact fun k _ => by rw [hL9.1 30 rfl]
        have n42d : (z39).toInt ≠ 0 → ∀ a : Nat, TKN (s.1 47) (s.2.2.1 46 1).toInt.toNat a (s.2.2.1 46 4).toInt.toNat (s.2.2.1 46 2).toInt.toNat (s.2.2.1 46 3).toInt (s.2.2.1 46 5).toInt → ∃ c V, CMP (s.1 47) (s.2.2.1 46 1).toInt.toNat a (s.2.2.1 46 4).toInt.toNat c V (s39.2.2.1 46 2).toInt.toNat ∧ dkC (gvC s) c V ∧ gvC s39 = opC (gvC s) c V := by first | (intro h; exact absurd rfl h) | (intro h; exfalso; revert h; first | (unfold In at i39; omega) | (unfold In at i104; omega) | (unfold In at i144; omega))
        have n42e : (z39).toInt = 0 → ∀ a : Nat, TKN (s.1 47) (s.2.2.1 46 1).toInt.toNat a (s.2.2.1 46 4).toInt.toNat (s.2.2.1 46 2).toInt.toNat (s.2.2.1 46 3).toInt (s.2.2.1 46 5).toInt → CMX (s.1 47) (s.2.2.1 46 1).toInt.toNat a (s39.2.2.1 46 6).toInt (s39.2.2.1 46 7).toInt.toNat ∨ ∃ c V e, CMP (s.1 47) (s.2.2.1 46 1).toInt.toNat a (s39.2.2.1 46 7).toInt.toNat c V e ∧ ¬ dkC (gvC s) c V ∧ (s39.2.2.1 46 6).toInt = 4 := by intro _ a ha; refine Or.inl (Or.inl ⟨_, _, _, by rw [p39.2]; exact ha, q_4, ?_, p39.1⟩); first | (rintro ⟨h8, h9⟩; rw [← e_46_3] at h8; have a0 := oa8 i23x1 ((inv_F hI 0 1000 rfl e_46_4)) i10 ((inv_F hI 0 1000 rfl e_46_1)) ((inv_F hI 0 1000 rfl e_46_2)) ((inv_F hI 448 28000 rfl e_30_0)) ((inv_F hI 0 32 rfl e_2_1)) ((inv_F hI 0 4000 rfl e_2_0)); have oc := oc_136_1_46; omega) | (rintro ⟨h8, h9⟩; rw [← e_46_5] at h9; unfold cmI at h9; have a0 := oa8 i23x1 ((inv_F hI 0 1000 rfl e_46_4)) i10 ((inv_F hI 0 1000 rfl e_46_1)) ((inv_F hI 0 1000 rfl e_46_2)) ((inv_F hI 448 28000 rfl e_30_0)) ((inv_F hI 0 32 rfl e_2_1)) ((inv_F hI 0 4000 rfl e_2_0)); have oc := oc_136_1_46; omega) | (exfalso; have h9 := p30a (by have a0 := oa8 i23x1 ((inv_F hI 0 1000 rfl e_46_4)) i10 ((inv_F hI 0 1000 rfl e_46_1)) ((inv_F hI 0 1000 rfl e_46_2)) ((inv_F hI 448 28000 rfl e_30_0)) ((inv_F hI 0 32 rfl e_2_1)) ((inv_F hI 0 4000 rfl e_2_0)); have oc := oc_136_1_46; omega); revert h9; decide)
        have n42f : (z39).toInt ≠ 0 → TQ s39 := by first | (intro h; exact absurd rfl h) | (intro h; exfalso; revert h; first | (unfold In at i39; omega) | (unfold In at i104; omega) | (unfold In at i144; omega))
        have n42g : (z39).toInt ≠ 0 → s39.2.2.1 46 6 = s.2.2.1 46 6 ∧ s39.2.2.1 46 7 = s.2.2.1 46 7 := by first | (intro h; exact absurd rfl h) | (intro h; exfalso; revert h; first | (unfold In at i39; omega) | (unfold In at i104; omega) | (unfold In at i144; omega))
        have n42h : (z39).toInt = 0 → 0 ≤ (s39.2.2.1 46 7).toInt := by intro _; rw [p39.2, ← e_46_4]; have a0 := oa8 i23x1 ((inv_F hI 0 1000 rfl e_46_4)) i10 ((inv_F hI 0 1000 rfl e_46_1)) ((inv_F hI 0 1000 rfl e_46_2)) ((inv_F hI 448 28000 rfl e_30_0)) ((inv_F hI 0 32 rfl e_2_1)) ((inv_F hI 0 4000 rfl e_2_0)); have oc := oc_136_1_46; omega
        have n42i : (z39).toInt ≠ 0 → LGC s s39 := by first | (intro h; exact absurd rfl h) | (intro h; exfalso; revert h; first | (unfold In at i39; omega) | (unfold In at i104; omega) | (unfold In at i144; omega))
        have n42j : (u_46_2).toInt ≤ (u_46_1).toInt := by have a0 := oa8 i23x1 ((inv_F hI 0 1000 rfl e_46_4)) i10 ((inv_F hI 0 1000 rfl e_46_1)) ((inv_F hI 0 1000 rfl e_46_2)) ((inv_F hI 448 28000 rfl e_30_0)) ((inv_F hI 0 32 rfl e_2_1)) ((inv_F hI 0 4000 rfl e_2_0)); have oc := oc_136_1_46; omega
        have n42k : (s39.2.2.1 46 2).toInt ≤ (s39.2.2.1 46 1).toInt := by have b0 : u_46_2 = s39.2.2.1 46 2 := fr_F (e_46_2) hF39 rfl; have b1 : u_46_1 = s39.2.2.1 46 1 := fr_F (e_46_1) hF39 rfl; rw [← b0, ← b1]; exact n42j
        have n42l : (u_2_0).toInt ≤ (u_2_0).toInt := by exact Int.le_refl _
        have n42m : (s.2.2.1 2 0).toInt ≤ (s39.2.2.1 2 0).toInt := by have b0 : u_2_0 = s39.2.2.1 2 0 := fr_F (e_2_0) hF39 rfl; first | (rw [← b0, ← e_2_0]; exact n42l) | (rw [← b0]; exact n42l)
        exact g_ireturn (gd rfl) rfl (nb01 (in_w 0 1 i39 rfl)) (hP _ _ ⟨(A 30), s39, hI39, (fr_tr rfl fr_rf hF39), n42k, n42m, z39, rfl, (by rw [ax_id]), in_w 0 1 i39 rfl, n42, n42a, n42b, n42c, n42d, n42e, n42f, n42g, n42h, n42i⟩)
    · skip
      have i23x1 := sw_eq c23x1
      refine g_ldcs 4 55 (gd rfl) rfl rfl ?_
      refine g_areturn (gd rfl) rfl (hp23 _ _ ?_)
      show GG _ _ _ _ _ _ _ _ [.ref (zq Z (Int32.ofInt 4))] _ _ _
      refine g_astore 28 (gd rfl) rfl (Nat.le_of_ble_eq_true rfl) ?_
      refine g_aload 30 (gd rfl) rfl rfl ?_
      have i30 : In (Int32.ofInt 4) 0 6 := in_w 0 6 (in_c 4 rfl) rfl
      refine g_callS (X := _) (As := []) (r := []) (x := (Int32.ofInt 4)) 33 (gd rfl) rfl rfl rfl zm_428 rfl rfl rfl i30 (Nat.le_of_ble_eq_true rfl) (f_428 i30 (by omega)) (fun e u h => h) (fun v u h => ?_)
      obtain ⟨z30, rfl, rfl, i30a, p30, p30a⟩ := h
      show GG _ _ _ _ _ _ _ _ [.int z30] _ _ _
      refine g_if_eq 36 43 (gd rfl) rfl rfl (fun c33 => ?_) (fun c33 => ?_)
      · skip
        have i33 := z_eq 0 0 c33 i30a rfl
        refine g_iconst 0 44 (gd rfl) rfl rfl ?_
        refine g_istore 46 (gd rfl) rfl (Nat.le_of_ble_eq_true rfl) ?_
        have n46 : (u_46_2).toInt ≤ (u_46_1).toInt := by have a0 := oa9 i23x1 ((inv_F hI 0 1000 rfl e_46_4)) i10 ((inv_F hI 0 1000 rfl e_46_1)) ((inv_F hI 0 1000 rfl e_46_2)) ((inv_F hI 448 28000 rfl e_30_0)) ((inv_F hI 0 32 rfl e_2_1)) ((inv_F hI 0 4000 rfl e_2_0)) ((in_c 0 rfl)); have oc := oc_136_1_46; omega
        have n46a : (u_2_0).toInt ≤ (u_2_0).toInt := by exact Int.le_refl _
        have n46b : (u_46_5).toInt = 13 → ((Int32.ofInt 4)).toInt = 1 := by intro h; first | decide | (exfalso; have a0 := oa9 i23x1 ((inv_F hI 0 1000 rfl e_46_4)) i10 ((inv_F hI 0 1000 rfl e_46_1)) ((inv_F hI 0 1000 rfl e_46_2)) ((inv_F hI 448 28000 rfl e_30_0)) ((inv_F hI 0 32 rfl e_2_1)) ((inv_F hI 0 4000 rfl e_2_0)) ((in_c 0 rfl)); have oc := oc_136_1_46; omega)
        have n46c : ((Int32.ofInt 4)).toInt = 1 → 1 ≤ ((Int32.ofInt 0)).toInt → In (s.1 31 0) 0 25 := by intro _ h; exfalso; revert h; decide
        have n46d : Fr ([31], [], [(46, 2), (46, 3), (46, 4), (46, 5), (46, 6), (46, 7)], []) s s := by exact fr_rf
        have n46e : SHQ (u_46_5).toInt ((Int32.ofInt 4)).toInt := by first | (exfalso; have h9 := p30 (by have a0 := oa9 i23x1 ((inv_F hI 0 1000 rfl e_46_4)) i10 ((inv_F hI 0 1000 rfl e_46_1)) ((inv_F hI 0 1000 rfl e_46_2)) ((inv_F hI 448 28000 rfl e_30_0)) ((inv_F hI 0 32 rfl e_2_1)) ((inv_F hI 0 4000 rfl e_2_0)) ((in_c 0 rfl)); have oc := oc_136_1_46; omega); revert h9; decide) | exact Or.inl ⟨by have a0 := oa9 i23x1 ((inv_F hI 0 1000 rfl e_46_4)) i10 ((inv_F hI 0 1000 rfl e_46_1)) ((inv_F hI 0 1000 rfl e_46_2)) ((inv_F hI 448 28000 rfl e_30_0)) ((inv_F hI 0 32 rfl e_2_1)) ((inv_F hI 0 4000 rfl e_2_0)) ((in_c 0 rfl)); have oc := oc_136_1_46; omega, by decide⟩ | exact Or.inr (Or.inl ⟨by have a0 := oa9 i23x1 ((inv_F hI 0 1000 rfl e_46_4)) i10 ((inv_F hI 0 1000 rfl e_46_1)) ((inv_F hI 0 1000 rfl e_46_2)) ((inv_F hI 448 28000 rfl e_30_0)) ((inv_F hI 0 32 rfl e_2_1)) ((inv_F hI 0 4000 rfl e_2_0)) ((in_c 0 rfl)); have oc := oc_136_1_46; omega, by decide⟩) | exact Or.inr (Or.inr (Or.inl ⟨by have a0 := oa9 i23x1 ((inv_F hI 0 1000 rfl e_46_4)) i10 ((inv_F hI 0 1000 rfl e_46_1)) ((inv_F hI 0 1000 rfl e_46_2)) ((inv_F hI 448 28000 rfl e_30_0)) ((inv_F hI 0 32 rfl e_2_1)) ((inv_F hI 0 4000 rfl e_2_0)) ((in_c 0 rfl)); have oc := oc_136_1_46; omega, by decide⟩)) | exact Or.inr (Or.inr (Or.inr ⟨by have a0 := oa9 i23x1 ((inv_F hI 0 1000 rfl e_46_4)) i10 ((inv_F hI 0 1000 rfl e_46_1)) ((inv_F hI 0 1000 rfl e_46_2)) ((inv_F hI 448 28000 rfl e_30_0)) ((inv_F hI 0 32 rfl e_2_1)) ((inv_F hI 0 4000 rfl e_2_0)) ((in_c 0 rfl)); have oc := oc_136_1_46; omega, by decide⟩))
        have n46f : (s.2.2.1 46 3).toInt = 1 ∧ (s.2.2.1 46 5).toInt = (u_46_5).toInt ∧ (u_46_4) = s.2.2.1 46 4 := by first | (exfalso; have h9 := p30 (by have a0 := oa9 i23x1 ((inv_F hI 0 1000 rfl e_46_4)) i10 ((inv_F hI 0 1000 rfl e_46_1)) ((inv_F hI 0 1000 rfl e_46_2)) ((inv_F hI 448 28000 rfl e_30_0)) ((inv_F hI 0 32 rfl e_2_1)) ((inv_F hI 0 4000 rfl e_2_0)) ((in_c 0 rfl)); have oc := oc_136_1_46; omega); revert h9; decide) | exact ⟨by rw [← e_46_3]; have a0 := oa9 i23x1 ((inv_F hI 0 1000 rfl e_46_4)) i10 ((inv_F hI 0 1000 rfl e_46_1)) ((inv_F hI 0 1000 rfl e_46_2)) ((inv_F hI 448 28000 rfl e_30_0)) ((inv_F hI 0 32 rfl e_2_1)) ((inv_F hI 0 4000 rfl e_2_0)) ((in_c 0 rfl)); have oc := oc_136_1_46; omega, by rw [← e_46_5], e_46_4⟩
        have n46g : ((Int32.ofInt 0)).toInt ≤ (cmA (u_46_5).toInt : Int) := by exact Int.natCast_nonneg _
        have n46h : ∀ a : Nat, TKN (s.1 47) (s.2.2.1 46 1).toInt.toNat a (s.2.2.1 46 4).toInt.toNat (s.2.2.1 46 2).toInt.toNat (s.2.2.1 46 3).toInt (s.2.2.1 46 5).toInt → (∀ j, j < ((Int32.ofInt 0)).toInt.toNat → ∃ q f, TSQ (s.1 47) (s.2.2.1 46 1).toInt.toNat a (j + 1) q f (cmK (u_46_5).toInt (j + 1)) (s.1 31 j).toInt) ∧ ∃ p k v, TSQ (s.1 47) (s.2.2.1 46 1).toInt.toNat a ((Int32.ofInt 0)).toInt.toNat p (u_46_2).toInt.toNat k v := by intro a ha; exact ⟨fun j hj => absurd hj (by have h9 : (Int32.ofInt 0).toInt.toNat = 0 := rfl; omega), _, _, _, by rw [e_46_2]; exact ha⟩
        have n46i : s.2.2.1 46 6 = s.2.2.1 46 6 ∧ s.2.2.1 46 7 = s.2.2.1 46 7 := by exact ⟨rfl, rfl⟩
        exact gg_w (by first | exact Nat.le_of_ble_eq_true rfl | omega) (gg_f (gf_cons rfl (gf_cons rfl (gf_cons rfl (gf_cons rfl (gf_cons rfl (gf_cons rfl gf_nil)))))) (ct46 6 s u_46_4 u_46_5 (Int32.ofInt 4) (Int32.ofInt 0) u_46_2 u_2_0 u_2_1 u_30_0 hI fr_rf (in_w 0 1000 (inv_F hI 0 1000 rfl e_46_4) rfl) (in_w (-1) 25 i23x1 rfl) (in_w 1 5 (in_c 4 rfl) rfl) (in_w 0 5 (in_c 0 rfl) rfl) e_46_2 e_2_0 e_2_1 e_30_0 n46 n46a n46b n46c n46d n46e n46f n46g n46h n46i (m_in 6 (in_w 0 5 (in_c 0 rfl) rfl) rfl)))
      · skip
        have i33 := z_ne 1 1 c33 i30a rfl
        refine g_aload_n 37 (gd rfl) rfl rfl ?_
        refine g_iconst 2 38 (gd rfl) rfl rfl ?_
        refine g_iconst 3 39 (gd rfl) rfl rfl ?_
        refine g_callv (X := _) (As := [.int (Int32.ofInt 2), .int (Int32.ofInt 3)]) (r := []) (b := A 46) (q := 46) 42 (gd rfl) rfl rfl rfl rfl rfl (ww_o rfl) (Nat.le_of_ble_eq_true rfl) (Nat.zero_le _) (Nat.zero_le _) (f_169_46 (by first | exact dq1 hd rfl | exact dq0 hd rfl | exact dq2 hd rfl | exact dq3 hd rfl | omega) hI (in_w 2 2 (in_c 2 rfl) rfl) (in_w 3 3 (in_c 3 rfl) rfl) e_46_3 e_46_4) (fun e u h => h) (fun v u h => ?_)
        obtain ⟨s39, hI39, hF39, z39, rfl, rfl, i39, p39⟩ := h
        show GG _ _ _ _ _ _ _ _ [.int z39] _ _ _
        have n42 : KL s39 := by have hL9 : Fr ([31], [], [(46, 2), (46, 3), (46, 4), (46, 5), (46, 6), (46, 7)], []) s s39 := (fr_tr rfl fr_rf hF39); exact kl_fr q_0 hL9 rfl
        have n42a : (z39).toInt ≠ 0 → (s39.2.2.1 30 0).toInt = nln s := by first | (intro h; exact absurd rfl h) | (intro h; exfalso; revert h; first | (unfold In at i39; omega) | (unfold In at i104; omega) | (unfold In at i144; omega))
        have n42b : (z39).toInt ≠ 0 → (s.2.2.1 2 0).toInt ≤ 3999 := by first | (intro h; exact absurd rfl h) | (intro h; exfalso; revert h; first | (unfold In at i39; omega) | (unfold In at i104; omega) | (unfold In at i144; omega))
        have n42c : ∀ k : Nat, (k : Int) < 7 * (s.2.2.1 2 0).toInt → s39.1 30 k = s.1 30 k := by have hL9 : Fr ([31], [], [(46, 2), (46, 3), (46, 4), (46, 5), (46, 6), (46, 7)], []) s s39 := (fr_tr rfl fr_rf hF39); exact fun k _ => by rw [hL9.1 30 rfl]
        have n42d : (z39).toInt ≠ 0 → ∀ a : Nat, TKN (s.1 47) (s.2.2.1 46 1).toInt.toNat a (s.2.2.1 46 4).toInt.toNat (s.2.2.1 46 2).toInt.toNat (s.2.2.1 46 3).toInt (s.2.2.1 46 5).toInt → ∃ c V, CMP (s.1 47) (s.2.2.1 46 1).toInt.toNat a (s.2.2.1 46 4).toInt.toNat c V (s39.2.2.1 46 2).toInt.toNat ∧ dkC (gvC s) c V ∧ gvC s39 = opC (gvC s) c V := by first | (intro h; exact absurd rfl h) | (intro h; exfalso; revert h; first | (unfold In at i39; omega) | (unfold In at i104; omega) | (unfold In at i144; omega))
        have n42e : (z39).toInt = 0 → ∀ a : Nat, TKN (s.1 47) (s.2.2.1 46 1).toInt.toNat a (s.2.2.1 46 4).toInt.toNat (s.2.2.1 46 2).toInt.toNat (s.2.2.1 46 3).toInt (s.2.2.1 46 5).toInt → CMX (s.1 47) (s.2.2.1 46 1).toInt.toNat a (s39.2.2.1 46 6).toInt (s39.2.2.1 46 7).toInt.toNat ∨ ∃ c V e, CMP (s.1 47) (s.2.2.1 46 1).toInt.toNat a (s39.2.2.1 46 7).toInt.toNat c V e ∧ ¬ dkC (gvC s) c V ∧ (s39.2.2.1 46 6).toInt = 4 := by intro _ a ha; refine Or.inl (Or.inl ⟨_, _, _, by rw [p39.2]; exact ha, q_4, ?_, p39.1⟩); first | (rintro ⟨h8, h9⟩; rw [← e_46_3] at h8; have a0 := oa8 i23x1 ((inv_F hI 0 1000 rfl e_46_4)) i10 ((inv_F hI 0 1000 rfl e_46_1)) ((inv_F hI 0 1000 rfl e_46_2)) ((inv_F hI 448 28000 rfl e_30_0)) ((inv_F hI 0 32 rfl e_2_1)) ((inv_F hI 0 4000 rfl e_2_0)); have oc := oc_136_1_46; omega) | (rintro ⟨h8, h9⟩; rw [← e_46_5] at h9; unfold cmI at h9; have a0 := oa8 i23x1 ((inv_F hI 0 1000 rfl e_46_4)) i10 ((inv_F hI 0 1000 rfl e_46_1)) ((inv_F hI 0 1000 rfl e_46_2)) ((inv_F hI 448 28000 rfl e_30_0)) ((inv_F hI 0 32 rfl e_2_1)) ((inv_F hI 0 4000 rfl e_2_0)); have oc := oc_136_1_46; omega) | (exfalso; have h9 := p30a (by have a0 := oa8 i23x1 ((inv_F hI 0 1000 rfl e_46_4)) i10 ((inv_F hI 0 1000 rfl e_46_1)) ((inv_F hI 0 1000 rfl e_46_2)) ((inv_F hI 448 28000 rfl e_30_0)) ((inv_F hI 0 32 rfl e_2_1)) ((inv_F hI 0 4000 rfl e_2_0)); have oc := oc_136_1_46; omega); revert h9; decide)
        have n42f : (z39).toInt ≠ 0 → TQ s39 := by first | (intro h; exact absurd rfl h) | (intro h; exfalso; revert h; first | (unfold In at i39; omega) | (unfold In at i104; omega) | (unfold In at i144; omega))
        have n42g : (z39).toInt ≠ 0 → s39.2.2.1 46 6 = s.2.2.1 46 6 ∧ s39.2.2.1 46 7 = s.2.2.1 46 7 := by first | (intro h; exact absurd rfl h) | (intro h; exfalso; revert h; first | (unfold In at i39; omega) | (unfold In at i104; omega) | (unfold In at i144; omega))
        have n42h : (z39).toInt = 0 → 0 ≤ (s39.2.2.1 46 7).toInt := by intro _; rw [p39.2, ← e_46_4]; have a0 := oa8 i23x1 ((inv_F hI 0 1000 rfl e_46_4)) i10 ((inv_F hI 0 1000 rfl e_46_1)) ((inv_F hI 0 1000 rfl e_46_2)) ((inv_F hI 448 28000 rfl e_30_0)) ((inv_F hI 0 32 rfl e_2_1)) ((inv_F hI 0 4000 rfl e_2_0)); have oc := oc_136_1_46; omega
        have n42i : (z39).toInt ≠ 0 → LGC s s39 := by first | (intro h; exact absurd rfl h) | (intro h; exfalso; revert h; first | (unfold In at i39; omega) | (unfold In at i104; omega) | (unfold In at i144; omega))
        have n42j : (u_46_2).toInt ≤ (u_46_1).toInt := by have a0 := oa8 i23x1 ((inv_F hI 0 1000 rfl e_46_4)) i10 ((inv_F hI 0 1000 rfl e_46_1)) ((inv_F hI 0 1000 rfl e_46_2)) ((inv_F hI 448 28000 rfl e_30_0)) ((inv_F hI 0 32 rfl e_2_1)) ((inv_F hI 0 4000 rfl e_2_0)); have oc := oc_136_1_46; omega
        have n42k : (s39.2.2.1 46 2).toInt ≤ (s39.2.2.1 46 1).toInt := by have b0 : u_46_2 = s39.2.2.1 46 2 := fr_F (e_46_2) hF39 rfl; have b1 : u_46_1 = s39.2.2.1 46 1 := fr_F (e_46_1) hF39 rfl; rw [← b0, ← b1]; exact n42j
        have n42l : (u_2_0).toInt ≤ (u_2_0).toInt := by exact Int.le_refl _
        have n42m : (s.2.2.1 2 0).toInt ≤ (s39.2.2.1 2 0).toInt := by have b0 : u_2_0 = s39.2.2.1 2 0 := fr_F (e_2_0) hF39 rfl; first | (rw [← b0, ← e_2_0]; exact n42l) | (rw [← b0]; exact n42l)
        exact g_ireturn (gd rfl) rfl (nb01 (in_w 0 1 i39 rfl)) (hP _ _ ⟨(A 30), s39, hI39, (fr_tr rfl fr_rf hF39), n42k, n42m, z39, rfl, (by rw [ax_id]), in_w 0 1 i39 rfl, n42, n42a, n42b, n42c, n42d, n42e, n42f, n42g, n42h, n42i⟩)
    · skip
      refine g_ldcs 5 58 (gd rfl) rfl rfl ?_
      refine g_areturn (gd rfl) rfl (hp23 _ _ ?_)
      show GG _ _ _ _ _ _ _ _ [.ref (zq Z (Int32.ofInt 5))] _ _ _
      refine g_astore 28 (gd rfl) rfl (Nat.le_of_ble_eq_true rfl) ?_
      refine g_aload 30 (gd rfl) rfl rfl ?_
      have i30 : In (Int32.ofInt 5) 0 6 := in_w 0 6 (in_c 5 rfl) rfl
      refine g_callS (X := _) (As := []) (r := []) (x := (Int32.ofInt 5)) 33 (gd rfl) rfl rfl rfl zm_428 rfl rfl rfl i30 (Nat.le_of_ble_eq_true rfl) (f_428 i30 (by omega)) (fun e u h => h) (fun v u h => ?_)
      obtain ⟨z30, rfl, rfl, i30a, p30, p30a⟩ := h
      show GG _ _ _ _ _ _ _ _ [.int z30] _ _ _
      refine g_if_eq 36 43 (gd rfl) rfl rfl (fun c33 => ?_) (fun c33 => ?_)
      · skip
        have i33 := z_eq 0 0 c33 i30a rfl
        refine g_iconst 0 44 (gd rfl) rfl rfl ?_
        refine g_istore 46 (gd rfl) rfl (Nat.le_of_ble_eq_true rfl) ?_
        have n46 : (u_46_2).toInt ≤ (u_46_1).toInt := by have a0 := oa9 i17 ((inv_F hI 0 1000 rfl e_46_4)) i10 ((inv_F hI 0 1000 rfl e_46_1)) ((inv_F hI 0 1000 rfl e_46_2)) ((inv_F hI 448 28000 rfl e_30_0)) ((inv_F hI 0 32 rfl e_2_1)) ((inv_F hI 0 4000 rfl e_2_0)) ((in_c 0 rfl)); have oc := oc_136_1_46; omega
        have n46a : (u_2_0).toInt ≤ (u_2_0).toInt := by exact Int.le_refl _
        have n46b : (u_46_5).toInt = 13 → ((Int32.ofInt 5)).toInt = 1 := by intro h; first | decide | (exfalso; have a0 := oa9 i17 ((inv_F hI 0 1000 rfl e_46_4)) i10 ((inv_F hI 0 1000 rfl e_46_1)) ((inv_F hI 0 1000 rfl e_46_2)) ((inv_F hI 448 28000 rfl e_30_0)) ((inv_F hI 0 32 rfl e_2_1)) ((inv_F hI 0 4000 rfl e_2_0)) ((in_c 0 rfl)); have oc := oc_136_1_46; omega)
        have n46c : ((Int32.ofInt 5)).toInt = 1 → 1 ≤ ((Int32.ofInt 0)).toInt → In (s.1 31 0) 0 25 := by intro _ h; exfalso; revert h; decide
        have n46d : Fr ([31], [], [(46, 2), (46, 3), (46, 4), (46, 5), (46, 6), (46, 7)], []) s s := by exact fr_rf
        have n46e : SHQ (u_46_5).toInt ((Int32.ofInt 5)).toInt := by first | (exfalso; have h9 := p30 (by have a0 := oa9 i17 ((inv_F hI 0 1000 rfl e_46_4)) i10 ((inv_F hI 0 1000 rfl e_46_1)) ((inv_F hI 0 1000 rfl e_46_2)) ((inv_F hI 448 28000 rfl e_30_0)) ((inv_F hI 0 32 rfl e_2_1)) ((inv_F hI 0 4000 rfl e_2_0)) ((in_c 0 rfl)); have oc := oc_136_1_46; omega); revert h9; decide) | exact Or.inl ⟨by have a0 := oa9 i17 ((inv_F hI 0 1000 rfl e_46_4)) i10 ((inv_F hI 0 1000 rfl e_46_1)) ((inv_F hI 0 1000 rfl e_46_2)) ((inv_F hI 448 28000 rfl e_30_0)) ((inv_F hI 0 32 rfl e_2_1)) ((inv_F hI 0 4000 rfl e_2_0)) ((in_c 0 rfl)); have oc := oc_136_1_46; omega, by decide⟩ | exact Or.inr (Or.inl ⟨by have a0 := oa9 i17 ((inv_F hI 0 1000 rfl e_46_4)) i10 ((inv_F hI 0 1000 rfl e_46_1)) ((inv_F hI 0 1000 rfl e_46_2)) ((inv_F hI 448 28000 rfl e_30_0)) ((inv_F hI 0 32 rfl e_2_1)) ((inv_F hI 0 4000 rfl e_2_0)) ((in_c 0 rfl)); have oc := oc_136_1_46; omega, by decide⟩) | exact Or.inr (Or.inr (Or.inl ⟨by have a0 := oa9 i17 ((inv_F hI 0 1000 rfl e_46_4)) i10 ((inv_F hI 0 1000 rfl e_46_1)) ((inv_F hI 0 1000 rfl e_46_2)) ((inv_F hI 448 28000 rfl e_30_0)) ((inv_F hI 0 32 rfl e_2_1)) ((inv_F hI 0 4000 rfl e_2_0)) ((in_c 0 rfl)); have oc := oc_136_1_46; omega, by decide⟩)) | exact Or.inr (Or.inr (Or.inr ⟨by have a0 := oa9 i17 ((inv_F hI 0 1000 rfl e_46_4)) i10 ((inv_F hI 0 1000 rfl e_46_1)) ((inv_F hI 0 1000 rfl e_46_2)) ((inv_F hI 448 28000 rfl e_30_0)) ((inv_F hI 0 32 rfl e_2_1)) ((inv_F hI 0 4000 rfl e_2_0)) ((in_c 0 rfl)); have oc := oc_136_1_46; omega, by decide⟩))
        have n46f : (s.2.2.1 46 3).toInt = 1 ∧ (s.2.2.1 46 5).toInt = (u_46_5).toInt ∧ (u_46_4) = s.2.2.1 46 4 := by first | (exfalso; have h9 := p30 (by have a0 := oa9 i17 ((inv_F hI 0 1000 rfl e_46_4)) i10 ((inv_F hI 0 1000 rfl e_46_1)) ((inv_F hI 0 1000 rfl e_46_2)) ((inv_F hI 448 28000 rfl e_30_0)) ((inv_F hI 0 32 rfl e_2_1)) ((inv_F hI 0 4000 rfl e_2_0)) ((in_c 0 rfl)); have oc := oc_136_1_46; omega); revert h9; decide) | exact ⟨by rw [← e_46_3]; have a0 := oa9 i17 ((inv_F hI 0 1000 rfl e_46_4)) i10 ((inv_F hI 0 1000 rfl e_46_1)) ((inv_F hI 0 1000 rfl e_46_2)) ((inv_F hI 448 28000 rfl e_30_0)) ((inv_F hI 0 32 rfl e_2_1)) ((inv_F hI 0 4000 rfl e_2_0)) ((in_c 0 rfl)); have oc := oc_136_1_46; omega, by rw [← e_46_5], e_46_4⟩
        have n46g : ((Int32.ofInt 0)).toInt ≤ (cmA (u_46_5).toInt : Int) := by exact Int.natCast_nonneg _
        have n46h : ∀ a : Nat, TKN (s.1 47) (s.2.2.1 46 1).toInt.toNat a (s.2.2.1 46 4).toInt.toNat (s.2.2.1 46 2).toInt.toNat (s.2.2.1 46 3).toInt (s.2.2.1 46 5).toInt → (∀ j, j < ((Int32.ofInt 0)).toInt.toNat → ∃ q f, TSQ (s.1 47) (s.2.2.1 46 1).toInt.toNat a (j + 1) q f (cmK (u_46_5).toInt (j + 1)) (s.1 31 j).toInt) ∧ ∃ p k v, TSQ (s.1 47) (s.2.2.1 46 1).toInt.toNat a ((Int32.ofInt 0)).toInt.toNat p (u_46_2).toInt.toNat k v := by intro a ha; exact ⟨fun j hj => absurd hj (by have h9 : (Int32.ofInt 0).toInt.toNat = 0 := rfl; omega), _, _, _, by rw [e_46_2]; exact ha⟩
        have n46i : s.2.2.1 46 6 = s.2.2.1 46 6 ∧ s.2.2.1 46 7 = s.2.2.1 46 7 := by exact ⟨rfl, rfl⟩
        exact gg_w (by first | exact Nat.le_of_ble_eq_true rfl | omega) (gg_f (gf_cons rfl (gf_cons rfl (gf_cons rfl (gf_cons rfl (gf_cons rfl (gf_cons rfl gf_nil)))))) (ct46 6 s u_46_4 u_46_5 (Int32.ofInt 5) (Int32.ofInt 0) u_46_2 u_2_0 u_2_1 u_30_0 hI fr_rf (in_w 0 1000 (inv_F hI 0 1000 rfl e_46_4) rfl) (in_w (-1) 25 i17 rfl) (in_w 1 5 (in_c 5 rfl) rfl) (in_w 0 5 (in_c 0 rfl) rfl) e_46_2 e_2_0 e_2_1 e_30_0 n46 n46a n46b n46c n46d n46e n46f n46g n46h n46i (m_in 6 (in_w 0 5 (in_c 0 rfl) rfl) rfl)))
      · skip
        have i33 := z_ne 1 1 c33 i30a rfl
        refine g_aload_n 37 (gd rfl) rfl rfl ?_
        refine g_iconst 2 38 (gd rfl) rfl rfl ?_
        refine g_iconst 3 39 (gd rfl) rfl rfl ?_
        refine g_callv (X := _) (As := [.int (Int32.ofInt 2), .int (Int32.ofInt 3)]) (r := []) (b := A 46) (q := 46) 42 (gd rfl) rfl rfl rfl rfl rfl (ww_o rfl) (Nat.le_of_ble_eq_true rfl) (Nat.zero_le _) (Nat.zero_le _) (f_169_46 (by first | exact dq1 hd rfl | exact dq0 hd rfl | exact dq2 hd rfl | exact dq3 hd rfl | omega) hI (in_w 2 2 (in_c 2 rfl) rfl) (in_w 3 3 (in_c 3 rfl) rfl) e_46_3 e_46_4) (fun e u h => h) (fun v u h => ?_)
        obtain ⟨s39, hI39, hF39, z39, rfl, rfl, i39, p39⟩ := h
        show GG _ _ _ _ _ _ _ _ [.int z39] _ _ _
        have n42 : KL s39 := by have hL9 : Fr ([31], [], [(46, 2), (46, 3), (46, 4), (46, 5), (46, 6), (46, 7)], []) s s39 := (fr_tr rfl fr_rf hF39); exact kl_fr q_0 hL9 rfl
        have n42a : (z39).toInt ≠ 0 → (s39.2.2.1 30 0).toInt = nln s := by first | (intro h; exact absurd rfl h) | (intro h; exfalso; revert h; first | (unfold In at i39; omega) | (unfold In at i104; omega) | (unfold In at i144; omega))
        have n42b : (z39).toInt ≠ 0 → (s.2.2.1 2 0).toInt ≤ 3999 := by first | (intro h; exact absurd rfl h) | (intro h; exfalso; revert h; first | (unfold In at i39; omega) | (unfold In at i104; omega) | (unfold In at i144; omega))
        have n42c : ∀ k : Nat, (k : Int) < 7 * (s.2.2.1 2 0).toInt → s39.1 30 k = s.1 30 k := by have hL9 : Fr ([31], [], [(46, 2), (46, 3), (46, 4), (46, 5), (46, 6), (46, 7)], []) s s39 := (fr_tr rfl fr_rf hF39); exact fun k _ => by rw [hL9.1 30 rfl]
        have n42d : (z39).toInt ≠ 0 → ∀ a : Nat, TKN (s.1 47) (s.2.2.1 46 1).toInt.toNat a (s.2.2.1 46 4).toInt.toNat (s.2.2.1 46 2).toInt.toNat (s.2.2.1 46 3).toInt (s.2.2.1 46 5).toInt → ∃ c V, CMP (s.1 47) (s.2.2.1 46 1).toInt.toNat a (s.2.2.1 46 4).toInt.toNat c V (s39.2.2.1 46 2).toInt.toNat ∧ dkC (gvC s) c V ∧ gvC s39 = opC (gvC s) c V := by first | (intro h; exact absurd rfl h) | (intro h; exfalso; revert h; first | (unfold In at i39; omega) | (unfold In at i104; omega) | (unfold In at i144; omega))
        have n42e : (z39).toInt = 0 → ∀ a : Nat, TKN (s.1 47) (s.2.2.1 46 1).toInt.toNat a (s.2.2.1 46 4).toInt.toNat (s.2.2.1 46 2).toInt.toNat (s.2.2.1 46 3).toInt (s.2.2.1 46 5).toInt → CMX (s.1 47) (s.2.2.1 46 1).toInt.toNat a (s39.2.2.1 46 6).toInt (s39.2.2.1 46 7).toInt.toNat ∨ ∃ c V e, CMP (s.1 47) (s.2.2.1 46 1).toInt.toNat a (s39.2.2.1 46 7).toInt.toNat c V e ∧ ¬ dkC (gvC s) c V ∧ (s39.2.2.1 46 6).toInt = 4 := by intro _ a ha; refine Or.inl (Or.inl ⟨_, _, _, by rw [p39.2]; exact ha, q_4, ?_, p39.1⟩); first | (rintro ⟨h8, h9⟩; rw [← e_46_3] at h8; have a0 := oa8 i17 ((inv_F hI 0 1000 rfl e_46_4)) i10 ((inv_F hI 0 1000 rfl e_46_1)) ((inv_F hI 0 1000 rfl e_46_2)) ((inv_F hI 448 28000 rfl e_30_0)) ((inv_F hI 0 32 rfl e_2_1)) ((inv_F hI 0 4000 rfl e_2_0)); have oc := oc_136_1_46; omega) | (rintro ⟨h8, h9⟩; rw [← e_46_5] at h9; unfold cmI at h9; have a0 := oa8 i17 ((inv_F hI 0 1000 rfl e_46_4)) i10 ((inv_F hI 0 1000 rfl e_46_1)) ((inv_F hI 0 1000 rfl e_46_2)) ((inv_F hI 448 28000 rfl e_30_0)) ((inv_F hI 0 32 rfl e_2_1)) ((inv_F hI 0 4000 rfl e_2_0)); have oc := oc_136_1_46; omega) | (exfalso; have h9 := p30a (by have a0 := oa8 i17 ((inv_F hI 0 1000 rfl e_46_4)) i10 ((inv_F hI 0 1000 rfl e_46_1)) ((inv_F hI 0 1000 rfl e_46_2)) ((inv_F hI 448 28000 rfl e_30_0)) ((inv_F hI 0 32 rfl e_2_1)) ((inv_F hI 0 4000 rfl e_2_0)); have oc := oc_136_1_46; omega); revert h9; decide)
        have n42f : (z39).toInt ≠ 0 → TQ s39 := by first | (intro h; exact absurd rfl h) | (intro h; exfalso; revert h; first | (unfold In at i39; omega) | (unfold In at i104; omega) | (unfold In at i144; omega))
        have n42g : (z39).toInt ≠ 0 → s39.2.2.1 46 6 = s.2.2.1 46 6 ∧ s39.2.2.1 46 7 = s.2.2.1 46 7 := by first | (intro h; exact absurd rfl h) | (intro h; exfalso; revert h; first | (unfold In at i39; omega) | (unfold In at i104; omega) | (unfold In at i144; omega))
        have n42h : (z39).toInt = 0 → 0 ≤ (s39.2.2.1 46 7).toInt := by intro _; rw [p39.2, ← e_46_4]; have a0 := oa8 i17 ((inv_F hI 0 1000 rfl e_46_4)) i10 ((inv_F hI 0 1000 rfl e_46_1)) ((inv_F hI 0 1000 rfl e_46_2)) ((inv_F hI 448 28000 rfl e_30_0)) ((inv_F hI 0 32 rfl e_2_1)) ((inv_F hI 0 4000 rfl e_2_0)); have oc := oc_136_1_46; omega
        have n42i : (z39).toInt ≠ 0 → LGC s s39 := by first | (intro h; exact absurd rfl h) | (intro h; exfalso; revert h; first | (unfold In at i39; omega) | (unfold In at i104; omega) | (unfold In at i144; omega))
        have n42j : (u_46_2).toInt ≤ (u_46_1).toInt := by have a0 := oa8 i17 ((inv_F hI 0 1000 rfl e_46_4)) i10 ((inv_F hI 0 1000 rfl e_46_1)) ((inv_F hI 0 1000 rfl e_46_2)) ((inv_F hI 448 28000 rfl e_30_0)) ((inv_F hI 0 32 rfl e_2_1)) ((inv_F hI 0 4000 rfl e_2_0)); have oc := oc_136_1_46; omega
        have n42k : (s39.2.2.1 46 2).toInt ≤ (s39.2.2.1 46 1).toInt := by have b0 : u_46_2 = s39.2.2.1 46 2 := fr_F (e_46_2) hF39 rfl; have b1 : u_46_1 = s39.2.2.1 46 1 := fr_F (e_46_1) hF39 rfl; rw [← b0, ← b1]; exact n42j
        have n42l : (u_2_0).toInt ≤ (u_2_0).toInt := by exact Int.le_refl _
        have n42m : (s.2.2.1 2 0).toInt ≤ (s39.2.2.1 2 0).toInt := by have b0 : u_2_0 = s39.2.2.1 2 0 := fr_F (e_2_0) hF39 rfl; first | (rw [← b0, ← e_2_0]; exact n42l) | (rw [← b0]; exact n42l)
        exact g_ireturn (gd rfl) rfl (nb01 (in_w 0 1 i39 rfl)) (hP _ _ ⟨(A 30), s39, hI39, (fr_tr rfl fr_rf hF39), n42k, n42m, z39, rfl, (by rw [ax_id]), in_w 0 1 i39 rfl, n42, n42a, n42b, n42c, n42d, n42e, n42f, n42g, n42h, n42i⟩)
end
