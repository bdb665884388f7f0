/-! FUNCTIONAL CONTRACTS, by fgen.py -/
theorem oc_302_109 : (Int32.ofInt (-4)).toInt = (-4) ∧ (Int32.ofInt (-1)).toInt = (-1) ∧ (Int32.ofInt 0).toInt = 0 ∧ (Int32.ofInt 1).toInt = 1 ∧ (Int32.ofInt 2).toInt = 2 ∧ (Int32.ofInt 3).toInt = 3 ∧ (Int32.ofInt 4).toInt = 4 ∧ (Int32.ofInt 5).toInt = 5 := ⟨rfl, rfl, rfl, rfl, rfl, rfl, rfl, rfl⟩
/-- GraphHouseModel.load -/
theorem f_302 {Z : AmZ} {A : Nat → Nat} {s : GS} {ex : va_W} {d : Nat} {X : AmX} {u_109_22 : Int32} (hd : 6 ≤ d) (hI : Inv s) (e_109_22 : u_109_22 = s.2.2.1 109 22) : GC Z d 302 [.ref (A 109)] (WW Z A s ++ ex) 0 0 (fun v u => ∃ t : GS, Inv t ∧ Fr fm_302 s t ∧ ∃ z : Int32, v = some (.int z) ∧ u = WW Z A t ++ ex ∧ In z (-4) 500 ∧ (LOT (s.1 125) (s.2.2.1 109 22).toInt.toNat (gvR s) (z).toInt (t.2.2.1 109 23).toInt (t.2.2.1 109 24).toInt (gvR t))) X := by
  intro post xp hP hX
  have ro_109_22 := inv_F hI 0 1000 rfl e_109_22
  have ct72 : ∀ (k72 : Nat) (sc72 : GS) (y72_1 : Int32) (w72_109_9 : Int32) (w72_109_32 : Int32), Inv sc72 → Fr fm_302 s sc72 → (In y72_1 0 500) → (w72_109_9 = sc72.2.2.1 109 9) → (w72_109_32 = sc72.2.2.1 109 32) → ((w72_109_9).toInt + (w72_109_32).toInt - (y72_1).toInt ≤ 4000) → (LDK sc72 (sc72.2.2.1 109 32).toNatClampNeg (y72_1).toNatClampNeg) → (LD3 s sc72 (y72_1).toNatClampNeg) → 500 - (y72_1).toInt < (k72 : Int) → GG Z (d - 1) 302 post (gx xp) (1 + k72 * 900) 72 (fun j => xlook j [(0, .ref (A 109)), (1, .int y72_1)]) [] (WW Z A sc72 ++ ex) 0 0 := by
    intro k72
    induction k72 with
    | zero => intro sc72 y72_1 w72_109_9 w72_109_32 hIc72 hFc72 j72_1 v72_109_9 v72_109_32 n72_0 g72_0 g72_1 mm72; exact m_no mm72 j72_1 rfl
    | succ k72 ih72 =>
      intro sc72 y72_1 w72_109_9 w72_109_32 hIc72 hFc72 j72_1 v72_109_9 v72_109_32 n72_0 g72_0 g72_1 mm72
      refine gg_w (M := 1 + k72 * 900 + 900) gws ?_
      refine g_iload_n 73 (gd rfl) rfl rfl ?_
      refine g_aload_n 74 (gd rfl) rfl rfl ?_
      refine g_getI 77 (gd rfl) rfl rfl rfl (fun z74 e74 => ?_)
      have q74 : w72_109_32 = z74 := (v72_109_32).trans e74.symm
      subst q74
      refine g_cmp_ge 80 242 (gd rfl) rfl rfl (fun c77 => ?_) (fun c77 => ?_)
      · skip
        refine g_aload_n 243 (gd rfl) rfl rfl ?_
        refine g_getI 246 (gd rfl) rfl rfl rfl (fun z243 e243 => ?_)
        have q243 : w72_109_32 = z243 := (v72_109_32).trans e243.symm
        subst q243
        have n246 : LOT (s.1 125) (s.2.2.1 109 22).toInt.toNat (gvR s) (w72_109_32).toInt (sc72.2.2.1 109 23).toInt (sc72.2.2.1 109 24).toInt (gvR sc72) := by exact ld3_e g72_1 (by rw [← v72_109_32]; show w72_109_32.toInt.toNat ≤ y72_1.toInt.toNat; exact (have a0 := in_u ro_109_22; have a1 := in_u ((inv_F hIc72 0 500 rfl v72_109_32)); have a2 := in_u ((inv_F hIc72 0 4000 rfl v72_109_9)); have a3 := in_u j72_1; have oc := oc_302_109; by omega)) (by rw [← v72_109_32]; show w72_109_32.toInt = ((w72_109_32.toInt.toNat : Nat) : Int); exact (have a0 := in_u ro_109_22; have a1 := in_u ((inv_F hIc72 0 500 rfl v72_109_32)); have a2 := in_u ((inv_F hIc72 0 4000 rfl v72_109_9)); have a3 := in_u j72_1; have oc := oc_302_109; by omega)) rfl
        exact g_ireturn (gd rfl) rfl rfl (hP _ _ ⟨sc72, hIc72, hFc72, w72_109_32, rfl, rfl, in_w (-4) 500 (inv_F hIc72 0 500 rfl v72_109_32) rfl, n246⟩)
      · skip
        have i77 := r_lt1 0 499 c77 j72_1 (inv_F hIc72 0 500 rfl v72_109_32) rfl
        have i77a := r_lt2 1 500 c77 j72_1 (inv_F hIc72 0 500 rfl v72_109_32) rfl
        have i80 : In w72_109_9 0 3999 := by exact ⟨(inv_F hIc72 0 4000 rfl v72_109_9).1, by exact (have a0 := in_u ro_109_22; have a1 := in_u i77a; have a2 := in_u ((inv_F hIc72 0 4000 rfl v72_109_9)); have a3 := in_u i77; have oc := oc_302_109; by omega)⟩
        refine g_iconst 5 81 (gd rfl) rfl rfl ?_
        refine g_iload_n 82 (gd rfl) rfl rfl ?_
        refine g_imul 83 (gd rfl) rfl (fun z82 e82 => ?_)
        have i82 := in_mulc 5 0 2495 (Or.inl e82) i77 rfl rfl
        refine g_istore_n 84 (gd rfl) rfl (Nat.le_of_ble_eq_true rfl) ?_
        have hr := ldk_r g72_0 (show y72_1.toNatClampNeg < (sc72.2.2.1 109 32).toNatClampNeg from (by rw [← v72_109_32]; show y72_1.toInt.toNat < w72_109_32.toInt.toNat; exact (have a0 := in_u ro_109_22; have a1 := in_u i77a; have a2 := in_u i80; have a3 := in_u i77; have a4 := in_u i82; have a5 := (t_mulc 5 (Or.inl e82) i77 rfl).1; have oc := oc_302_109; by omega))); have hn0 := inv_n0 hIc72
        refine g_aload_n 85 (gd rfl) rfl rfl ?_
        refine g_getA (q2 := 127) 88 (gd rfl) rfl rfl rfl rfl ?_
        refine g_iload_n 89 (gd rfl) rfl rfl ?_
        refine g_iaload 90 (gd rfl) rfl (n := 500) rfl (in_ix i77 rfl) (fun z89 e89 => ?_)
        refine g_lsw [(97, 143), (110, 124), (116, 194)] 213 (gd rfl) rfl rfl rfl ⟨fun c90 => ?_, fun c90_0 => ⟨fun c90 => ?_, fun c90_1 => ⟨fun c90 => ?_, fun c90_2 => ?_⟩⟩⟩
        · skip
          have i90 := sw_eq c90
          refine g_aload_n 144 (gd rfl) rfl rfl ?_
          refine g_iconst 1 145 (gd rfl) rfl rfl ?_
          refine g_aload_n 146 (gd rfl) rfl rfl ?_
          refine g_iconst 0 147 (gd rfl) rfl rfl ?_
          refine g_callv (X := _) (As := [.int (Int32.ofInt 0)]) (r := [.int (Int32.ofInt 1), .ref (A 109)]) (b := A 109) (q := 109) 150 (gd rfl) rfl rfl rfl rfl rfl (ww_o rfl) (Nat.le_of_ble_eq_true rfl) (Nat.zero_le _) (Nat.zero_le _) (k_280 (by first | exact dq1 hd rfl | exact dq0 hd rfl | exact dq2 hd rfl | exact dq3 hd rfl | omega) hIc72 (in_w 0 2 (in_c 0 rfl) rfl)) (fun e u h => h) (fun v u h => ?_)
          obtain ⟨z147, rfl, rfl, i147, p147⟩ := h
          show GG _ _ _ _ _ _ _ _ [.int z147, .int (Int32.ofInt 1), .ref (A 109)] _ _ _
          have i150 : In z147 0 159 := by have q := (hr.2.1 (show (sc72.1 127 y72_1.toNatClampNeg).toInt = 97 from (by rw [← e89]; exact c90))).1; have p := p147; have r := i147; unfold In at r; have e : z147.toNatClampNeg = z147.toInt.toNat := rfl; have p2 : z147.toNatClampNeg = fpl (thg sc72 0) := p; exact ⟨r.1, by omega⟩
          refine g_aload_n 151 (gd rfl) rfl rfl ?_
          refine g_getA (q2 := 128) 154 (gd rfl) rfl rfl rfl rfl ?_
          refine g_iload_n 155 (gd rfl) rfl rfl ?_
          refine g_iaload 156 (gd rfl) rfl (n := 2500) rfl (in_ix i82 rfl) (fun z155 e155 => ?_)
          have i156 : In z155 0 31 := by have q := (hr.2.1 (show (sc72.1 127 y72_1.toNatClampNeg).toInt = 97 from (by rw [← e89]; exact c90))).2.1; rw [show 5 * y72_1.toNatClampNeg = z82.toNatClampNeg from (by show 5 * y72_1.toInt.toNat = z82.toInt.toNat; exact (have a0 := in_u ro_109_22; have a1 := in_u i77a; have a2 := in_u i80; have a3 := in_u i77; have a4 := in_u i82; have a5 := (t_mulc 5 (Or.inl e82) i77 rfl).1; have oc := oc_302_109; by omega)), ← e155] at q; obtain ⟨q1, q2⟩ := q; exact ⟨q1, by omega⟩
          refine g_aload_n 157 (gd rfl) rfl rfl ?_
          refine g_getA (q2 := 128) 160 (gd rfl) rfl rfl rfl rfl ?_
          refine g_iload_n 161 (gd rfl) rfl rfl ?_
          refine g_iconst 1 162 (gd rfl) rfl rfl ?_
          refine g_iadd 163 (gd rfl) rfl (fun z162 e162 => ?_)
          have i162 := in_add 1 2496 e162 i82 (in_c 1 rfl) rfl rfl
          refine g_iaload 164 (gd rfl) rfl (n := 2500) rfl (in_ix i162 rfl) (fun z163 e163 => ?_)
          have i164 : In z163 0 31 := by have q := (hr.2.1 (show (sc72.1 127 y72_1.toNatClampNeg).toInt = 97 from (by rw [← e89]; exact c90))).2.2.1; rw [show 5 * y72_1.toNatClampNeg + 1 = z162.toNatClampNeg from (by show 5 * y72_1.toInt.toNat + 1 = z162.toInt.toNat; exact (have a0 := in_u ro_109_22; have a1 := in_u i77a; have a2 := in_u i80; have a3 := in_u i77; have a4 := in_u i82; have a5 := (t_mulc 5 (Or.inl e82) i77 rfl).1; have a6 := in_u i162; have a7 := t_add e162 i82 (in_c 1 rfl) rfl; have a8 := in_u ((in_c 1 rfl)); have oc := oc_302_109; by omega)), ← e163] at q; obtain ⟨q1, q2⟩ := q; exact ⟨q1, by omega⟩
          refine g_aload_n 165 (gd rfl) rfl rfl ?_
          refine g_getA (q2 := 128) 168 (gd rfl) rfl rfl rfl rfl ?_
          refine g_iload_n 169 (gd rfl) rfl rfl ?_
          refine g_iconst 2 170 (gd rfl) rfl rfl ?_
          refine g_iadd 171 (gd rfl) rfl (fun z170 e170 => ?_)
          have i170 := in_add 2 2497 e170 i82 (in_c 2 rfl) rfl rfl
          refine g_iaload 172 (gd rfl) rfl (n := 2500) rfl (in_ix i170 rfl) (fun z171 e171 => ?_)
          have i172 : In z171 (-1000000) 1000000 := by have q := (hr.2.1 (show (sc72.1 127 y72_1.toNatClampNeg).toInt = 97 from (by rw [← e89]; exact c90))).2.2.2.1; rw [show 5 * y72_1.toNatClampNeg + 2 = z170.toNatClampNeg from (by show 5 * y72_1.toInt.toNat + 2 = z170.toInt.toNat; exact (have a0 := in_u ro_109_22; have a1 := in_u i77a; have a2 := in_u i80; have a3 := in_u i77; have a4 := in_u i82; have a5 := (t_mulc 5 (Or.inl e82) i77 rfl).1; have a6 := in_u i170; have a7 := t_add e170 i82 (in_c 2 rfl) rfl; have a8 := in_u ((in_c 2 rfl)); have a9 := in_u i162; have a10 := t_add e162 i82 (in_c 1 rfl) rfl; have a11 := in_u ((in_c 1 rfl)); have oc := oc_302_109; by omega)), ← e171] at q; exact q
          refine g_aload_n 173 (gd rfl) rfl rfl ?_
          refine g_getA (q2 := 128) 176 (gd rfl) rfl rfl rfl rfl ?_
          refine g_iload_n 177 (gd rfl) rfl rfl ?_
          refine g_iconst 3 178 (gd rfl) rfl rfl ?_
          refine g_iadd 179 (gd rfl) rfl (fun z178 e178 => ?_)
          have i178 := in_add 3 2498 e178 i82 (in_c 3 rfl) rfl rfl
          refine g_iaload 180 (gd rfl) rfl (n := 2500) rfl (in_ix i178 rfl) (fun z179 e179 => ?_)
          have i180 : In z179 0 1000000 := by have q := (hr.2.1 (show (sc72.1 127 y72_1.toNatClampNeg).toInt = 97 from (by rw [← e89]; exact c90))).2.2.2.2.1; rw [show 5 * y72_1.toNatClampNeg + 3 = z178.toNatClampNeg from (by show 5 * y72_1.toInt.toNat + 3 = z178.toInt.toNat; exact (have a0 := in_u ro_109_22; have a1 := in_u i77a; have a2 := in_u i80; have a3 := in_u i77; have a4 := in_u i82; have a5 := (t_mulc 5 (Or.inl e82) i77 rfl).1; have a6 := in_u i178; have a7 := t_add e178 i82 (in_c 3 rfl) rfl; have a8 := in_u ((in_c 3 rfl)); have a9 := in_u i170; have a10 := t_add e170 i82 (in_c 2 rfl) rfl; have a11 := in_u ((in_c 2 rfl)); have a12 := in_u i162; have a13 := t_add e162 i82 (in_c 1 rfl) rfl; have a14 := in_u ((in_c 1 rfl)); have oc := oc_302_109; by omega)), ← e179] at q; exact q
          refine g_aload_n 181 (gd rfl) rfl rfl ?_
          refine g_getA (q2 := 128) 184 (gd rfl) rfl rfl rfl rfl ?_
          refine g_iload_n 185 (gd rfl) rfl rfl ?_
          refine g_iconst 4 186 (gd rfl) rfl rfl ?_
          refine g_iadd 187 (gd rfl) rfl (fun z186 e186 => ?_)
          have i186 := in_add 4 2499 e186 i82 (in_c 4 rfl) rfl rfl
          refine g_iaload 188 (gd rfl) rfl (n := 2500) rfl (in_ix i186 rfl) (fun z187 e187 => ?_)
          have i188 : In z187 0 25 := by have q := (hr.2.1 (show (sc72.1 127 y72_1.toNatClampNeg).toInt = 97 from (by rw [← e89]; exact c90))).2.2.2.2.2; rw [show 5 * y72_1.toNatClampNeg + 4 = z186.toNatClampNeg from (by show 5 * y72_1.toInt.toNat + 4 = z186.toInt.toNat; exact (have a0 := in_u ro_109_22; have a1 := in_u i77a; have a2 := in_u i80; have a3 := in_u i77; have a4 := in_u i82; have a5 := (t_mulc 5 (Or.inl e82) i77 rfl).1; have a6 := in_u i186; have a7 := t_add e186 i82 (in_c 4 rfl) rfl; have a8 := in_u ((in_c 4 rfl)); have a9 := in_u i178; have a10 := t_add e178 i82 (in_c 3 rfl) rfl; have a11 := in_u ((in_c 3 rfl)); have a12 := in_u i170; have a13 := t_add e170 i82 (in_c 2 rfl) rfl; have a14 := in_u ((in_c 2 rfl)); have a15 := in_u i162; have a16 := t_add e162 i82 (in_c 1 rfl) rfl; have a17 := in_u ((in_c 1 rfl)); have oc := oc_302_109; by omega)), ← e187] at q; exact q
          have p188 : MK sc72 (Int32.ofInt 1) z147 z155 z163 := by have q1 := (hr.2.1 (show (sc72.1 127 y72_1.toNatClampNeg).toInt = 97 from (by rw [← e89]; exact c90))).2.1; have q2 := (hr.2.1 (show (sc72.1 127 y72_1.toNatClampNeg).toInt = 97 from (by rw [← e89]; exact c90))).2.2.1; rw [show 5 * y72_1.toNatClampNeg = z82.toNatClampNeg from (by show 5 * y72_1.toInt.toNat = z82.toInt.toNat; exact (have a0 := in_u ro_109_22; have a1 := in_u i77a; have a2 := in_u i80; have a3 := in_u i77; have a4 := in_u i82; have a5 := (t_mulc 5 (Or.inl e82) i77 rfl).1; have a6 := in_u i186; have a7 := t_add e186 i82 (in_c 4 rfl) rfl; have a8 := in_u ((in_c 4 rfl)); have a9 := in_u i178; have a10 := t_add e178 i82 (in_c 3 rfl) rfl; have a11 := in_u ((in_c 3 rfl)); have a12 := in_u i170; have a13 := t_add e170 i82 (in_c 2 rfl) rfl; have a14 := in_u ((in_c 2 rfl)); have a15 := in_u i162; have a16 := t_add e162 i82 (in_c 1 rfl) rfl; have a17 := in_u ((in_c 1 rfl)); have oc := oc_302_109; by omega)), ← e155] at q1; rw [show 5 * y72_1.toNatClampNeg + 1 = z162.toNatClampNeg from (by show 5 * y72_1.toInt.toNat + 1 = z162.toInt.toNat; exact (have a0 := in_u ro_109_22; have a1 := in_u i77a; have a2 := in_u i80; have a3 := in_u i77; have a4 := in_u i82; have a5 := (t_mulc 5 (Or.inl e82) i77 rfl).1; have a6 := in_u i186; have a7 := t_add e186 i82 (in_c 4 rfl) rfl; have a8 := in_u ((in_c 4 rfl)); have a9 := in_u i178; have a10 := t_add e178 i82 (in_c 3 rfl) rfl; have a11 := in_u ((in_c 3 rfl)); have a12 := in_u i170; have a13 := t_add e170 i82 (in_c 2 rfl) rfl; have a14 := in_u ((in_c 2 rfl)); have a15 := in_u i162; have a16 := t_add e162 i82 (in_c 1 rfl) rfl; have a17 := in_u ((in_c 1 rfl)); have oc := oc_302_109; by omega)), ← e163] at q2; obtain ⟨a1, a2⟩ := q1; obtain ⟨a3, a4⟩ := q2; exact ⟨fun h => absurd h (by decide), fun _ => ⟨by omega, a3, by omega⟩, fun h => absurd h (by decide), fun h => absurd h (by decide), fun h => absurd h (by decide)⟩
          refine g_callv (X := _) (As := [.int (Int32.ofInt 1), .int z147, .int z155, .int z163, .int z171, .int z179, .int z187]) (r := []) (b := A 109) (q := 109) 191 (gd rfl) rfl rfl rfl rfl rfl (ww_o rfl) (Nat.le_of_ble_eq_true rfl) (Nat.zero_le _) (Nat.zero_le _) (f_274 (by first | exact dq1 hd rfl | exact dq0 hd rfl | exact dq2 hd rfl | exact dq3 hd rfl | omega) hIc72 (in_w 0 4 (in_c 1 rfl) rfl) (in_w 0 159 i150 rfl) (in_w 0 31 i156 rfl) (in_w (-1000000) 1000000 i164 rfl) (in_w (-1000000) 1000000 i172 rfl) (in_w 0 1000000 i180 rfl) (in_w 0 25 i188 rfl) v72_109_9 (in_w 0 3999 i80 rfl) p188) (fun e u h => h) (fun v u h => ?_)
          obtain ⟨s188, hI188, hF188, n188, rfl, rfl, p188a, p188b, p188c⟩ := h
          obtain ⟨z188a, e188⟩ : ∃ w, w = s188.2.2.1 109 9 := ⟨_, rfl⟩
          have i188b := inv_F hI188 0 4000 rfl e188
          rw [← (show w72_109_9 = sc72.2.2.1 109 9 from v72_109_9)] at n188
          rw [← (show z188a = s188.2.2.1 109 9 from e188)] at n188
          show GG _ _ _ _ _ _ _ _ [] _ _ _
          refine g_goto 236 (gd rfl) rfl ?_
          refine g_iinc 239 (gd rfl) rfl rfl (Nat.le_of_ble_eq_true rfl) (fun z236 e236 => ?_)
          have i236 := in_add 1 500 e236 i77 (in_c 1 rfl) rfl rfl
          refine g_goto 72 (gd rfl) rfl ?_
          have v72 : w72_109_32 = s188.2.2.1 109 32 := fr_F (v72_109_32) hF188 rfl
          have n72 : (z188a).toInt + (w72_109_32).toInt - (z236).toInt ≤ 4000 := by exact (have a0 := in_u ro_109_22; have a1 := in_u i77a; have a2 := in_u i80; have a3 := in_u i77; have a4 := in_u i82; have a5 := (t_mulc 5 (Or.inl e82) i77 rfl).1; have a6 := in_u i236; have a7 := t_add e236 i77 (in_c 1 rfl) rfl; have a8 := in_u ((in_c 1 rfl)); have a9 := in_u i188b; have a10 := in_u i186; have a11 := t_add e186 i82 (in_c 4 rfl) rfl; have a12 := in_u ((in_c 4 rfl)); have a13 := in_u i178; have a14 := t_add e178 i82 (in_c 3 rfl) rfl; have a15 := in_u ((in_c 3 rfl)); have a16 := in_u i170; have a17 := t_add e170 i82 (in_c 2 rfl) rfl; have a18 := in_u ((in_c 2 rfl)); have a19 := in_u i162; have a20 := t_add e162 i82 (in_c 1 rfl) rfl; have oc := oc_302_109; by omega)
          have n72a : LDK s188 (s188.2.2.1 109 32).toNatClampNeg (z236).toNatClampNeg := by rw [hF188.2.2.1 109 32 rfl, show z236.toNatClampNeg = y72_1.toNatClampNeg + 1 from (by show z236.toInt.toNat = y72_1.toInt.toNat + 1; exact (have a0 := in_u ro_109_22; have a1 := in_u i77a; have a2 := in_u i80; have a3 := in_u i77; have a4 := in_u i82; have a5 := (t_mulc 5 (Or.inl e82) i77 rfl).1; have a6 := in_u i236; have a7 := t_add e236 i77 (in_c 1 rfl) rfl; have a8 := in_u ((in_c 1 rfl)); have a9 := in_u i188b; have a10 := in_u i186; have a11 := t_add e186 i82 (in_c 4 rfl) rfl; have a12 := in_u ((in_c 4 rfl)); have a13 := in_u i178; have a14 := t_add e178 i82 (in_c 3 rfl) rfl; have a15 := in_u ((in_c 3 rfl)); have a16 := in_u i170; have a17 := t_add e170 i82 (in_c 2 rfl) rfl; have a18 := in_u ((in_c 2 rfl)); have a19 := in_u i162; have a20 := t_add e162 i82 (in_c 1 rfl) rfl; have oc := oc_302_109; by omega))]; exact ldk_s g72_0 p188a (hF188.1 127 rfl) (hF188.1 128 rfl) (by have hw := (show (sc72.1 127 y72_1.toNatClampNeg).toInt = 97 from (by rw [← e89]; exact c90)); exact ⟨fun h => (by omega), fun _ => ⟨by decide, p147⟩, fun h => (by omega), fun _ h _ => absurd hw h⟩)
          have n72b : LD3 s s188 (z236).toNatClampNeg := by rw [show z236.toNatClampNeg = y72_1.toNatClampNeg + 1 from (by show z236.toInt.toNat = y72_1.toInt.toNat + 1; exact (have a0 := in_u ro_109_22; have a1 := in_u i77a; have a2 := in_u i80; have a3 := in_u i77; have a4 := in_u i82; have a5 := (t_mulc 5 (Or.inl e82) i77 rfl).1; have a6 := in_u i236; have a7 := t_add e236 i77 (in_c 1 rfl) rfl; have a8 := in_u ((in_c 1 rfl)); have a9 := in_u i188b; have a10 := in_u i186; have a11 := t_add e186 i82 (in_c 4 rfl) rfl; have a12 := in_u ((in_c 4 rfl)); have a13 := in_u i178; have a14 := t_add e178 i82 (in_c 3 rfl) rfl; have a15 := in_u ((in_c 3 rfl)); have a16 := in_u i170; have a17 := t_add e170 i82 (in_c 2 rfl) rfl; have a18 := in_u ((in_c 2 rfl)); have a19 := in_u i162; have a20 := t_add e162 i82 (in_c 1 rfl) rfl; have oc := oc_302_109; by omega))]; exact ld3_s g72_1 (by rw [← v72_109_32]; show y72_1.toInt.toNat < w72_109_32.toInt.toNat; exact (have a0 := in_u ro_109_22; have a1 := in_u i77a; have a2 := in_u i80; have a3 := in_u i77; have a4 := in_u i82; have a5 := (t_mulc 5 (Or.inl e82) i77 rfl).1; have a6 := in_u i236; have a7 := t_add e236 i77 (in_c 1 rfl) rfl; have a8 := in_u ((in_c 1 rfl)); have a9 := in_u i188b; have a10 := in_u i186; have a11 := t_add e186 i82 (in_c 4 rfl) rfl; have a12 := in_u ((in_c 4 rfl)); have a13 := in_u i178; have a14 := t_add e178 i82 (in_c 3 rfl) rfl; have a15 := in_u ((in_c 3 rfl)); have a16 := in_u i170; have a17 := t_add e170 i82 (in_c 2 rfl) rfl; have a18 := in_u ((in_c 2 rfl)); have a19 := in_u i162; have a20 := t_add e162 i82 (in_c 1 rfl) rfl; have oc := oc_302_109; by omega)) ((p188b.2.1 rfl).trans (oR_a hIc72 (by rw [← e89]; omega) p147 (by show (sc72.1 128 (5 * y72_1.toNatClampNeg + 0)).toInt = _; rw [show 5 * y72_1.toNatClampNeg + 0 = z82.toNatClampNeg from (by show 5 * y72_1.toInt.toNat + 0 = z82.toInt.toNat; exact (have a0 := in_u ro_109_22; have a1 := in_u i77a; have a2 := in_u i80; have a3 := in_u i77; have a4 := in_u i82; have a5 := (t_mulc 5 (Or.inl e82) i77 rfl).1; have a6 := in_u i236; have a7 := t_add e236 i77 (in_c 1 rfl) rfl; have a8 := in_u ((in_c 1 rfl)); have a9 := in_u i188b; have a10 := in_u i186; have a11 := t_add e186 i82 (in_c 4 rfl) rfl; have a12 := in_u ((in_c 4 rfl)); have a13 := in_u i178; have a14 := t_add e178 i82 (in_c 3 rfl) rfl; have a15 := in_u ((in_c 3 rfl)); have a16 := in_u i170; have a17 := t_add e170 i82 (in_c 2 rfl) rfl; have a18 := in_u ((in_c 2 rfl)); have a19 := in_u i162; have a20 := t_add e162 i82 (in_c 1 rfl) rfl; have oc := oc_302_109; by omega)), ← e155]) (by show (sc72.1 128 (5 * y72_1.toNatClampNeg + 1)).toInt = _; rw [show 5 * y72_1.toNatClampNeg + 1 = z162.toNatClampNeg from (by show 5 * y72_1.toInt.toNat + 1 = z162.toInt.toNat; exact (have a0 := in_u ro_109_22; have a1 := in_u i77a; have a2 := in_u i80; have a3 := in_u i77; have a4 := in_u i82; have a5 := (t_mulc 5 (Or.inl e82) i77 rfl).1; have a6 := in_u i236; have a7 := t_add e236 i77 (in_c 1 rfl) rfl; have a8 := in_u ((in_c 1 rfl)); have a9 := in_u i188b; have a10 := in_u i186; have a11 := t_add e186 i82 (in_c 4 rfl) rfl; have a12 := in_u ((in_c 4 rfl)); have a13 := in_u i178; have a14 := t_add e178 i82 (in_c 3 rfl) rfl; have a15 := in_u ((in_c 3 rfl)); have a16 := in_u i170; have a17 := t_add e170 i82 (in_c 2 rfl) rfl; have a18 := in_u ((in_c 2 rfl)); have a19 := in_u i162; have a20 := t_add e162 i82 (in_c 1 rfl) rfl; have oc := oc_302_109; by omega)), ← e163]) (by show (sc72.1 128 (5 * y72_1.toNatClampNeg + 2)).toInt = _; rw [show 5 * y72_1.toNatClampNeg + 2 = z170.toNatClampNeg from (by show 5 * y72_1.toInt.toNat + 2 = z170.toInt.toNat; exact (have a0 := in_u ro_109_22; have a1 := in_u i77a; have a2 := in_u i80; have a3 := in_u i77; have a4 := in_u i82; have a5 := (t_mulc 5 (Or.inl e82) i77 rfl).1; have a6 := in_u i236; have a7 := t_add e236 i77 (in_c 1 rfl) rfl; have a8 := in_u ((in_c 1 rfl)); have a9 := in_u i188b; have a10 := in_u i186; have a11 := t_add e186 i82 (in_c 4 rfl) rfl; have a12 := in_u ((in_c 4 rfl)); have a13 := in_u i178; have a14 := t_add e178 i82 (in_c 3 rfl) rfl; have a15 := in_u ((in_c 3 rfl)); have a16 := in_u i170; have a17 := t_add e170 i82 (in_c 2 rfl) rfl; have a18 := in_u ((in_c 2 rfl)); have a19 := in_u i162; have a20 := t_add e162 i82 (in_c 1 rfl) rfl; have oc := oc_302_109; by omega)), ← e171]) (by show (sc72.1 128 (5 * y72_1.toNatClampNeg + 3)).toInt = _; rw [show 5 * y72_1.toNatClampNeg + 3 = z178.toNatClampNeg from (by show 5 * y72_1.toInt.toNat + 3 = z178.toInt.toNat; exact (have a0 := in_u ro_109_22; have a1 := in_u i77a; have a2 := in_u i80; have a3 := in_u i77; have a4 := in_u i82; have a5 := (t_mulc 5 (Or.inl e82) i77 rfl).1; have a6 := in_u i236; have a7 := t_add e236 i77 (in_c 1 rfl) rfl; have a8 := in_u ((in_c 1 rfl)); have a9 := in_u i188b; have a10 := in_u i186; have a11 := t_add e186 i82 (in_c 4 rfl) rfl; have a12 := in_u ((in_c 4 rfl)); have a13 := in_u i178; have a14 := t_add e178 i82 (in_c 3 rfl) rfl; have a15 := in_u ((in_c 3 rfl)); have a16 := in_u i170; have a17 := t_add e170 i82 (in_c 2 rfl) rfl; have a18 := in_u ((in_c 2 rfl)); have a19 := in_u i162; have a20 := t_add e162 i82 (in_c 1 rfl) rfl; have oc := oc_302_109; by omega)), ← e179]) (by show (sc72.1 128 (5 * y72_1.toNatClampNeg + 4)).toInt = _; rw [show 5 * y72_1.toNatClampNeg + 4 = z186.toNatClampNeg from (by show 5 * y72_1.toInt.toNat + 4 = z186.toInt.toNat; exact (have a0 := in_u ro_109_22; have a1 := in_u i77a; have a2 := in_u i80; have a3 := in_u i77; have a4 := in_u i82; have a5 := (t_mulc 5 (Or.inl e82) i77 rfl).1; have a6 := in_u i236; have a7 := t_add e236 i77 (in_c 1 rfl) rfl; have a8 := in_u ((in_c 1 rfl)); have a9 := in_u i188b; have a10 := in_u i186; have a11 := t_add e186 i82 (in_c 4 rfl) rfl; have a12 := in_u ((in_c 4 rfl)); have a13 := in_u i178; have a14 := t_add e178 i82 (in_c 3 rfl) rfl; have a15 := in_u ((in_c 3 rfl)); have a16 := in_u i170; have a17 := t_add e170 i82 (in_c 2 rfl) rfl; have a18 := in_u ((in_c 2 rfl)); have a19 := in_u i162; have a20 := t_add e162 i82 (in_c 1 rfl) rfl; have oc := oc_302_109; by omega)), ← e187])).symm) (hF188.1 127 rfl) (hF188.1 128 rfl) (hF188.2.2.1 109 32 rfl) (hF188.2.2.1 109 23 rfl)
          exact gg_w (by first | exact Nat.le_add_right _ _ | exact gw2 | exact gw3 | exact gwe rfl | exact gwf rfl | exact gwg rfl | exact gwh rfl | omega) (gg_f (gf_cons rfl (gf_cons rfl gf_nil)) (ih72 s188 z236 z188a w72_109_32 hI188 (fr_tr rfl hFc72 hF188) (in_w 0 500 i236 rfl) e188 v72 n72 n72a n72b (m_up mm72 (t_add e236 i77 (in_c 1 rfl) rfl) (in_w 1 1 (in_c 1 rfl) rfl))))
        · skip
          have i90 := sw_eq c90
          refine g_aload_n 125 (gd rfl) rfl rfl ?_
          refine g_iconst 0 126 (gd rfl) rfl rfl ?_
          refine g_aload_n 127 (gd rfl) rfl rfl ?_
          refine g_getA (q2 := 128) 130 (gd rfl) rfl rfl rfl rfl ?_
          refine g_iload_n 131 (gd rfl) rfl rfl ?_
          refine g_iaload 132 (gd rfl) rfl (n := 2500) rfl (in_ix i82 rfl) (fun z131 e131 => ?_)
          have i132 : In z131 0 25 := by have q := (hr.1 (show (sc72.1 127 y72_1.toNatClampNeg).toInt = 110 from (by rw [← e89]; exact c90))).1; rw [show 5 * y72_1.toNatClampNeg = z82.toNatClampNeg from (by show 5 * y72_1.toInt.toNat = z82.toInt.toNat; exact (have a0 := in_u ro_109_22; have a1 := in_u i77a; have a2 := in_u i80; have a3 := in_u i77; have a4 := in_u i82; have a5 := (t_mulc 5 (Or.inl e82) i77 rfl).1; have oc := oc_302_109; by omega)), ← e131] at q; exact q
          refine g_iconst 0 133 (gd rfl) rfl rfl ?_
          refine g_iconst 0 134 (gd rfl) rfl rfl ?_
          refine g_iconst 0 135 (gd rfl) rfl rfl ?_
          refine g_iconst 0 136 (gd rfl) rfl rfl ?_
          refine g_iconst 0 137 (gd rfl) rfl rfl ?_
          have p137 : MK sc72 (Int32.ofInt 0) z131 (Int32.ofInt 0) (Int32.ofInt 0) := by refine ⟨fun _ => ⟨(by have q := (hr.1 (show (sc72.1 127 y72_1.toNatClampNeg).toInt = 110 from (by rw [← e89]; exact c90))).1; rw [show 5 * y72_1.toNatClampNeg = z82.toNatClampNeg from (by show 5 * y72_1.toInt.toNat = z82.toInt.toNat; exact (have a0 := in_u ro_109_22; have a1 := in_u i77a; have a2 := in_u i80; have a3 := in_u i77; have a4 := in_u i82; have a5 := (t_mulc 5 (Or.inl e82) i77 rfl).1; have oc := oc_302_109; by omega)), ← e131] at q; exact q.2), (hr.1 (show (sc72.1 127 y72_1.toNatClampNeg).toInt = 110 from (by rw [← e89]; exact c90))).2⟩, fun h => absurd h (by decide), fun h => absurd h (by decide), fun h => absurd h (by decide), fun h => absurd h (by decide)⟩
          refine g_callv (X := _) (As := [.int (Int32.ofInt 0), .int z131, .int (Int32.ofInt 0), .int (Int32.ofInt 0), .int (Int32.ofInt 0), .int (Int32.ofInt 0), .int (Int32.ofInt 0)]) (r := []) (b := A 109) (q := 109) 140 (gd rfl) rfl rfl rfl rfl rfl (ww_o rfl) (Nat.le_of_ble_eq_true rfl) (Nat.zero_le _) (Nat.zero_le _) (f_274 (by first | exact dq1 hd rfl | exact dq0 hd rfl | exact dq2 hd rfl | exact dq3 hd rfl | omega) hIc72 (in_w 0 4 (in_c 0 rfl) rfl) (in_w 0 159 i132 rfl) (in_w 0 31 (in_c 0 rfl) rfl) (in_w (-1000000) 1000000 (in_c 0 rfl) rfl) (in_w (-1000000) 1000000 (in_c 0 rfl) rfl) (in_w 0 1000000 (in_c 0 rfl) rfl) (in_w 0 25 (in_c 0 rfl) rfl) v72_109_9 (in_w 0 3999 i80 rfl) p137) (fun e u h => h) (fun v u h => ?_)
          obtain ⟨s137, hI137, hF137, n137, rfl, rfl, p137a, p137b, p137c⟩ := h
          obtain ⟨z137a, e137⟩ : ∃ w, w = s137.2.2.1 109 9 := ⟨_, rfl⟩
          have i137a := inv_F hI137 0 4000 rfl e137
          rw [← (show w72_109_9 = sc72.2.2.1 109 9 from v72_109_9)] at n137
          rw [← (show z137a = s137.2.2.1 109 9 from e137)] at n137
          show GG _ _ _ _ _ _ _ _ [] _ _ _
          refine g_goto 236 (gd rfl) rfl ?_
          refine g_iinc 239 (gd rfl) rfl rfl (Nat.le_of_ble_eq_true rfl) (fun z236 e236 => ?_)
          have i236 := in_add 1 500 e236 i77 (in_c 1 rfl) rfl rfl
          refine g_goto 72 (gd rfl) rfl ?_
          have v72 : w72_109_32 = s137.2.2.1 109 32 := fr_F (v72_109_32) hF137 rfl
          have n72 : (z137a).toInt + (w72_109_32).toInt - (z236).toInt ≤ 4000 := by exact (have a0 := in_u ro_109_22; have a1 := in_u i77a; have a2 := in_u i80; have a3 := in_u i77; have a4 := in_u i82; have a5 := (t_mulc 5 (Or.inl e82) i77 rfl).1; have a6 := in_u i236; have a7 := t_add e236 i77 (in_c 1 rfl) rfl; have a8 := in_u ((in_c 1 rfl)); have a9 := in_u i137a; have oc := oc_302_109; by omega)
          have n72a : LDK s137 (s137.2.2.1 109 32).toNatClampNeg (z236).toNatClampNeg := by rw [hF137.2.2.1 109 32 rfl, show z236.toNatClampNeg = y72_1.toNatClampNeg + 1 from (by show z236.toInt.toNat = y72_1.toInt.toNat + 1; exact (have a0 := in_u ro_109_22; have a1 := in_u i77a; have a2 := in_u i80; have a3 := in_u i77; have a4 := in_u i82; have a5 := (t_mulc 5 (Or.inl e82) i77 rfl).1; have a6 := in_u i236; have a7 := t_add e236 i77 (in_c 1 rfl) rfl; have a8 := in_u ((in_c 1 rfl)); have a9 := in_u i137a; have oc := oc_302_109; by omega))]; exact ldk_s g72_0 p137a (hF137.1 127 rfl) (hF137.1 128 rfl) (by have hw := (show (sc72.1 127 y72_1.toNatClampNeg).toInt = 110 from (by rw [← e89]; exact c90)); exact ⟨fun _ => (by decide), fun h => (by omega), fun h => (by omega), fun h _ _ => absurd hw h⟩)
          have n72b : LD3 s s137 (z236).toNatClampNeg := by rw [show z236.toNatClampNeg = y72_1.toNatClampNeg + 1 from (by show z236.toInt.toNat = y72_1.toInt.toNat + 1; exact (have a0 := in_u ro_109_22; have a1 := in_u i77a; have a2 := in_u i80; have a3 := in_u i77; have a4 := in_u i82; have a5 := (t_mulc 5 (Or.inl e82) i77 rfl).1; have a6 := in_u i236; have a7 := t_add e236 i77 (in_c 1 rfl) rfl; have a8 := in_u ((in_c 1 rfl)); have a9 := in_u i137a; have oc := oc_302_109; by omega))]; exact ld3_s g72_1 (by rw [← v72_109_32]; show y72_1.toInt.toNat < w72_109_32.toInt.toNat; exact (have a0 := in_u ro_109_22; have a1 := in_u i77a; have a2 := in_u i80; have a3 := in_u i77; have a4 := in_u i82; have a5 := (t_mulc 5 (Or.inl e82) i77 rfl).1; have a6 := in_u i236; have a7 := t_add e236 i77 (in_c 1 rfl) rfl; have a8 := in_u ((in_c 1 rfl)); have a9 := in_u i137a; have oc := oc_302_109; by omega)) ((p137b.1 rfl).trans (oR_n (by rw [← e89]; omega) (by show (sc72.1 128 (5 * y72_1.toNatClampNeg + 0)).toInt = _; rw [show 5 * y72_1.toNatClampNeg + 0 = z82.toNatClampNeg from (by show 5 * y72_1.toInt.toNat + 0 = z82.toInt.toNat; exact (have a0 := in_u ro_109_22; have a1 := in_u i77a; have a2 := in_u i80; have a3 := in_u i77; have a4 := in_u i82; have a5 := (t_mulc 5 (Or.inl e82) i77 rfl).1; have a6 := in_u i236; have a7 := t_add e236 i77 (in_c 1 rfl) rfl; have a8 := in_u ((in_c 1 rfl)); have a9 := in_u i137a; have oc := oc_302_109; by omega)), ← e131])).symm) (hF137.1 127 rfl) (hF137.1 128 rfl) (hF137.2.2.1 109 32 rfl) (hF137.2.2.1 109 23 rfl)
          exact gg_w (by first | exact Nat.le_add_right _ _ | exact gw2 | exact gw3 | exact gwe rfl | exact gwf rfl | exact gwg rfl | exact gwh rfl | omega) (gg_f (gf_cons rfl (gf_cons rfl gf_nil)) (ih72 s137 z236 z137a w72_109_32 hI137 (fr_tr rfl hFc72 hF137) (in_w 0 500 i236 rfl) e137 v72 n72 n72a n72b (m_up mm72 (t_add e236 i77 (in_c 1 rfl) rfl) (in_w 1 1 (in_c 1 rfl) rfl))))
        · skip
          have i90 := sw_eq c90
          refine g_aload_n 195 (gd rfl) rfl rfl ?_
          refine g_iconst 2 196 (gd rfl) rfl rfl ?_
          refine g_aload_n 197 (gd rfl) rfl rfl ?_
          refine g_getA (q2 := 128) 200 (gd rfl) rfl rfl rfl rfl ?_
          refine g_iload_n 201 (gd rfl) rfl rfl ?_
          refine g_iaload 202 (gd rfl) rfl (n := 2500) rfl (in_ix i82 rfl) (fun z201 e201 => ?_)
          have i202 : In z201 0 159 := by have q := hr.2.2.1 (show (sc72.1 127 y72_1.toNatClampNeg).toInt = 116 from (by rw [← e89]; exact c90)); rw [show 5 * y72_1.toNatClampNeg = z82.toNatClampNeg from (by show 5 * y72_1.toInt.toNat = z82.toInt.toNat; exact (have a0 := in_u ro_109_22; have a1 := in_u i77a; have a2 := in_u i80; have a3 := in_u i77; have a4 := in_u i82; have a5 := (t_mulc 5 (Or.inl e82) i77 rfl).1; have oc := oc_302_109; by omega)), ← e201] at q; exact q
          refine g_iconst 0 203 (gd rfl) rfl rfl ?_
          refine g_iconst 0 204 (gd rfl) rfl rfl ?_
          refine g_iconst 0 205 (gd rfl) rfl rfl ?_
          refine g_iconst 0 206 (gd rfl) rfl rfl ?_
          refine g_iconst 0 207 (gd rfl) rfl rfl ?_
          have p207 : MK sc72 (Int32.ofInt 2) z201 (Int32.ofInt 0) (Int32.ofInt 0) := by exact ⟨fun h => absurd h (by decide), fun h => absurd h (by decide), fun h => absurd h (by decide), fun h => absurd h (by decide), fun h => absurd h (by decide)⟩
          refine g_callv (X := _) (As := [.int (Int32.ofInt 2), .int z201, .int (Int32.ofInt 0), .int (Int32.ofInt 0), .int (Int32.ofInt 0), .int (Int32.ofInt 0), .int (Int32.ofInt 0)]) (r := []) (b := A 109) (q := 109) 210 (gd rfl) rfl rfl rfl rfl rfl (ww_o rfl) (Nat.le_of_ble_eq_true rfl) (Nat.zero_le _) (Nat.zero_le _) (f_274 (by first | exact dq1 hd rfl | exact dq0 hd rfl | exact dq2 hd rfl | exact dq3 hd rfl | omega) hIc72 (in_w 0 4 (in_c 2 rfl) rfl) (in_w 0 159 i202 rfl) (in_w 0 31 (in_c 0 rfl) rfl) (in_w (-1000000) 1000000 (in_c 0 rfl) rfl) (in_w (-1000000) 1000000 (in_c 0 rfl) rfl) (in_w 0 1000000 (in_c 0 rfl) rfl) (in_w 0 25 (in_c 0 rfl) rfl) v72_109_9 (in_w 0 3999 i80 rfl) p207) (fun e u h => h) (fun v u h => ?_)
          obtain ⟨s207, hI207, hF207, n207, rfl, rfl, p207a, p207b, p207c⟩ := h
          obtain ⟨z207a, e207⟩ : ∃ w, w = s207.2.2.1 109 9 := ⟨_, rfl⟩
          have i207a := inv_F hI207 0 4000 rfl e207
          rw [← (show w72_109_9 = sc72.2.2.1 109 9 from v72_109_9)] at n207
          rw [← (show z207a = s207.2.2.1 109 9 from e207)] at n207
          show GG _ _ _ _ _ _ _ _ [] _ _ _
          refine g_goto 236 (gd rfl) rfl ?_
          refine g_iinc 239 (gd rfl) rfl rfl (Nat.le_of_ble_eq_true rfl) (fun z236 e236 => ?_)
          have i236 := in_add 1 500 e236 i77 (in_c 1 rfl) rfl rfl
          refine g_goto 72 (gd rfl) rfl ?_
          have v72 : w72_109_32 = s207.2.2.1 109 32 := fr_F (v72_109_32) hF207 rfl
          have n72 : (z207a).toInt + (w72_109_32).toInt - (z236).toInt ≤ 4000 := by exact (have a0 := in_u ro_109_22; have a1 := in_u i77a; have a2 := in_u i80; have a3 := in_u i77; have a4 := in_u i82; have a5 := (t_mulc 5 (Or.inl e82) i77 rfl).1; have a6 := in_u i236; have a7 := t_add e236 i77 (in_c 1 rfl) rfl; have a8 := in_u ((in_c 1 rfl)); have a9 := in_u i207a; have oc := oc_302_109; by omega)
          have n72a : LDK s207 (s207.2.2.1 109 32).toNatClampNeg (z236).toNatClampNeg := by rw [hF207.2.2.1 109 32 rfl, show z236.toNatClampNeg = y72_1.toNatClampNeg + 1 from (by show z236.toInt.toNat = y72_1.toInt.toNat + 1; exact (have a0 := in_u ro_109_22; have a1 := in_u i77a; have a2 := in_u i80; have a3 := in_u i77; have a4 := in_u i82; have a5 := (t_mulc 5 (Or.inl e82) i77 rfl).1; have a6 := in_u i236; have a7 := t_add e236 i77 (in_c 1 rfl) rfl; have a8 := in_u ((in_c 1 rfl)); have a9 := in_u i207a; have oc := oc_302_109; by omega))]; exact ldk_s g72_0 p207a (hF207.1 127 rfl) (hF207.1 128 rfl) (by have hw := (show (sc72.1 127 y72_1.toNatClampNeg).toInt = 116 from (by rw [← e89]; exact c90)); exact ⟨fun h => (by omega), fun h => (by omega), fun _ => ⟨by decide, by rw [show 5 * y72_1.toNatClampNeg = z82.toNatClampNeg from (by show 5 * y72_1.toInt.toNat = z82.toInt.toNat; exact (have a0 := in_u ro_109_22; have a1 := in_u i77a; have a2 := in_u i80; have a3 := in_u i77; have a4 := in_u i82; have a5 := (t_mulc 5 (Or.inl e82) i77 rfl).1; have a6 := in_u i236; have a7 := t_add e236 i77 (in_c 1 rfl) rfl; have a8 := in_u ((in_c 1 rfl)); have a9 := in_u i207a; have oc := oc_302_109; by omega)), ← e201]⟩, fun _ _ h => absurd hw h⟩)
          have n72b : LD3 s s207 (z236).toNatClampNeg := by rw [show z236.toNatClampNeg = y72_1.toNatClampNeg + 1 from (by show z236.toInt.toNat = y72_1.toInt.toNat + 1; exact (have a0 := in_u ro_109_22; have a1 := in_u i77a; have a2 := in_u i80; have a3 := in_u i77; have a4 := in_u i82; have a5 := (t_mulc 5 (Or.inl e82) i77 rfl).1; have a6 := in_u i236; have a7 := t_add e236 i77 (in_c 1 rfl) rfl; have a8 := in_u ((in_c 1 rfl)); have a9 := in_u i207a; have oc := oc_302_109; by omega))]; exact ld3_s g72_1 (by rw [← v72_109_32]; show y72_1.toInt.toNat < w72_109_32.toInt.toNat; exact (have a0 := in_u ro_109_22; have a1 := in_u i77a; have a2 := in_u i80; have a3 := in_u i77; have a4 := in_u i82; have a5 := (t_mulc 5 (Or.inl e82) i77 rfl).1; have a6 := in_u i236; have a7 := t_add e236 i77 (in_c 1 rfl) rfl; have a8 := in_u ((in_c 1 rfl)); have a9 := in_u i207a; have oc := oc_302_109; by omega)) ((p207b.2.2.1 rfl).trans (oR_t (by rw [← e89]; omega) (by show (sc72.1 128 (5 * y72_1.toNatClampNeg + 0)).toInt = _; rw [show 5 * y72_1.toNatClampNeg + 0 = z82.toNatClampNeg from (by show 5 * y72_1.toInt.toNat + 0 = z82.toInt.toNat; exact (have a0 := in_u ro_109_22; have a1 := in_u i77a; have a2 := in_u i80; have a3 := in_u i77; have a4 := in_u i82; have a5 := (t_mulc 5 (Or.inl e82) i77 rfl).1; have a6 := in_u i236; have a7 := t_add e236 i77 (in_c 1 rfl) rfl; have a8 := in_u ((in_c 1 rfl)); have a9 := in_u i207a; have oc := oc_302_109; by omega)), ← e201])).symm) (hF207.1 127 rfl) (hF207.1 128 rfl) (hF207.2.2.1 109 32 rfl) (hF207.2.2.1 109 23 rfl)
          exact gg_w (by first | exact Nat.le_add_right _ _ | exact gw2 | exact gw3 | exact gwe rfl | exact gwf rfl | exact gwg rfl | exact gwh rfl | omega) (gg_f (gf_cons rfl (gf_cons rfl gf_nil)) (ih72 s207 z236 z207a w72_109_32 hI207 (fr_tr rfl hFc72 hF207) (in_w 0 500 i236 rfl) e207 v72 n72 n72a n72b (m_up mm72 (t_add e236 i77 (in_c 1 rfl) rfl) (in_w 1 1 (in_c 1 rfl) rfl))))
        · skip
          refine g_aload_n 214 (gd rfl) rfl rfl ?_
          refine g_iconst 3 215 (gd rfl) rfl rfl ?_
          refine g_aload_n 216 (gd rfl) rfl rfl ?_
          refine g_getA (q2 := 128) 219 (gd rfl) rfl rfl rfl rfl ?_
          refine g_iload_n 220 (gd rfl) rfl rfl ?_
          refine g_iaload 221 (gd rfl) rfl (n := 2500) rfl (in_ix i82 rfl) (fun z220 e220 => ?_)
          have i221 : In z220 0 159 := by have q := (hr.2.2.2 (by rw [← e89]; exact c90_1) (by rw [← e89]; exact c90_0) (by rw [← e89]; exact c90_2)).1; rw [show 5 * y72_1.toNatClampNeg = z82.toNatClampNeg from (by show 5 * y72_1.toInt.toNat = z82.toInt.toNat; exact (have a0 := in_u ro_109_22; have a1 := in_u i77a; have a2 := in_u i80; have a3 := in_u i77; have a4 := in_u i82; have a5 := (t_mulc 5 (Or.inl e82) i77 rfl).1; have oc := oc_302_109; by omega)), ← e220] at q; exact q
          refine g_iconst 0 222 (gd rfl) rfl rfl ?_
          refine g_aload_n 223 (gd rfl) rfl rfl ?_
          refine g_getA (q2 := 128) 226 (gd rfl) rfl rfl rfl rfl ?_
          refine g_iload_n 227 (gd rfl) rfl rfl ?_
          refine g_iconst 1 228 (gd rfl) rfl rfl ?_
          refine g_iadd 229 (gd rfl) rfl (fun z228 e228 => ?_)
          have i228 := in_add 1 2496 e228 i82 (in_c 1 rfl) rfl rfl
          refine g_iaload 230 (gd rfl) rfl (n := 2500) rfl (in_ix i228 rfl) (fun z229 e229 => ?_)
          have i230 : In z229 (-1000000) 1000000 := by have q := (hr.2.2.2 (by rw [← e89]; exact c90_1) (by rw [← e89]; exact c90_0) (by rw [← e89]; exact c90_2)).2; rw [show 5 * y72_1.toNatClampNeg + 1 = z228.toNatClampNeg from (by show 5 * y72_1.toInt.toNat + 1 = z228.toInt.toNat; exact (have a0 := in_u ro_109_22; have a1 := in_u i77a; have a2 := in_u i80; have a3 := in_u i77; have a4 := in_u i82; have a5 := (t_mulc 5 (Or.inl e82) i77 rfl).1; have a6 := in_u i228; have a7 := t_add e228 i82 (in_c 1 rfl) rfl; have a8 := in_u ((in_c 1 rfl)); have oc := oc_302_109; by omega)), ← e229] at q; exact q
          refine g_iconst 0 231 (gd rfl) rfl rfl ?_
          refine g_iconst 0 232 (gd rfl) rfl rfl ?_
          refine g_iconst 0 233 (gd rfl) rfl rfl ?_
          have p233 : MK sc72 (Int32.ofInt 3) z220 (Int32.ofInt 0) z229 := by exact ⟨fun h => absurd h (by decide), fun h => absurd h (by decide), fun _ h => absurd h (by decide), fun _ h _ => absurd (by decide) h, fun h => absurd h (by decide)⟩
          refine g_callv (X := _) (As := [.int (Int32.ofInt 3), .int z220, .int (Int32.ofInt 0), .int z229, .int (Int32.ofInt 0), .int (Int32.ofInt 0), .int (Int32.ofInt 0)]) (r := []) (b := A 109) (q := 109) 236 (gd rfl) rfl rfl rfl rfl rfl (ww_o rfl) (Nat.le_of_ble_eq_true rfl) (Nat.zero_le _) (Nat.zero_le _) (f_274 (by first | exact dq1 hd rfl | exact dq0 hd rfl | exact dq2 hd rfl | exact dq3 hd rfl | omega) hIc72 (in_w 0 4 (in_c 3 rfl) rfl) (in_w 0 159 i221 rfl) (in_w 0 31 (in_c 0 rfl) rfl) (in_w (-1000000) 1000000 i230 rfl) (in_w (-1000000) 1000000 (in_c 0 rfl) rfl) (in_w 0 1000000 (in_c 0 rfl) rfl) (in_w 0 25 (in_c 0 rfl) rfl) v72_109_9 (in_w 0 3999 i80 rfl) p233) (fun e u h => h) (fun v u h => ?_)
          obtain ⟨s233, hI233, hF233, n233, rfl, rfl, p233a, p233b, p233c⟩ := h
          obtain ⟨z233a, e233⟩ : ∃ w, w = s233.2.2.1 109 9 := ⟨_, rfl⟩
          have i233a := inv_F hI233 0 4000 rfl e233
          rw [← (show w72_109_9 = sc72.2.2.1 109 9 from v72_109_9)] at n233
          rw [← (show z233a = s233.2.2.1 109 9 from e233)] at n233
          show GG _ _ _ _ _ _ _ _ [] _ _ _
          refine g_iinc 239 (gd rfl) rfl rfl (Nat.le_of_ble_eq_true rfl) (fun z236 e236 => ?_)
          have i236 := in_add 1 500 e236 i77 (in_c 1 rfl) rfl rfl
          refine g_goto 72 (gd rfl) rfl ?_
          have v72 : w72_109_32 = s233.2.2.1 109 32 := fr_F (v72_109_32) hF233 rfl
          have n72 : (z233a).toInt + (w72_109_32).toInt - (z236).toInt ≤ 4000 := by exact (have a0 := in_u ro_109_22; have a1 := in_u i77a; have a2 := in_u i80; have a3 := in_u i77; have a4 := in_u i82; have a5 := (t_mulc 5 (Or.inl e82) i77 rfl).1; have a6 := in_u i236; have a7 := t_add e236 i77 (in_c 1 rfl) rfl; have a8 := in_u ((in_c 1 rfl)); have a9 := in_u i233a; have a10 := in_u i228; have a11 := t_add e228 i82 (in_c 1 rfl) rfl; have oc := oc_302_109; by omega)
          have n72a : LDK s233 (s233.2.2.1 109 32).toNatClampNeg (z236).toNatClampNeg := by rw [hF233.2.2.1 109 32 rfl, show z236.toNatClampNeg = y72_1.toNatClampNeg + 1 from (by show z236.toInt.toNat = y72_1.toInt.toNat + 1; exact (have a0 := in_u ro_109_22; have a1 := in_u i77a; have a2 := in_u i80; have a3 := in_u i77; have a4 := in_u i82; have a5 := (t_mulc 5 (Or.inl e82) i77 rfl).1; have a6 := in_u i236; have a7 := t_add e236 i77 (in_c 1 rfl) rfl; have a8 := in_u ((in_c 1 rfl)); have a9 := in_u i233a; have a10 := in_u i228; have a11 := t_add e228 i82 (in_c 1 rfl) rfl; have oc := oc_302_109; by omega))]; exact ldk_s g72_0 p233a (hF233.1 127 rfl) (hF233.1 128 rfl) (by rw [← e89]; exact ⟨fun h => absurd h c90_1, fun h => absurd h c90_0, fun h => absurd h c90_2, fun _ _ _ => (by decide)⟩)
          have n72b : LD3 s s233 (z236).toNatClampNeg := by rw [show z236.toNatClampNeg = y72_1.toNatClampNeg + 1 from (by show z236.toInt.toNat = y72_1.toInt.toNat + 1; exact (have a0 := in_u ro_109_22; have a1 := in_u i77a; have a2 := in_u i80; have a3 := in_u i77; have a4 := in_u i82; have a5 := (t_mulc 5 (Or.inl e82) i77 rfl).1; have a6 := in_u i236; have a7 := t_add e236 i77 (in_c 1 rfl) rfl; have a8 := in_u ((in_c 1 rfl)); have a9 := in_u i233a; have a10 := in_u i228; have a11 := t_add e228 i82 (in_c 1 rfl) rfl; have oc := oc_302_109; by omega))]; exact ld3_s g72_1 (by rw [← v72_109_32]; show y72_1.toInt.toNat < w72_109_32.toInt.toNat; exact (have a0 := in_u ro_109_22; have a1 := in_u i77a; have a2 := in_u i80; have a3 := in_u i77; have a4 := in_u i82; have a5 := (t_mulc 5 (Or.inl e82) i77 rfl).1; have a6 := in_u i236; have a7 := t_add e236 i77 (in_c 1 rfl) rfl; have a8 := in_u ((in_c 1 rfl)); have a9 := in_u i233a; have a10 := in_u i228; have a11 := t_add e228 i82 (in_c 1 rfl) rfl; have oc := oc_302_109; by omega)) ((p233b.2.2.2.1 rfl).trans (oR_w (by rw [← e89]; omega) (by rw [← e89]; omega) (by rw [← e89]; omega) (by show (sc72.1 128 (5 * y72_1.toNatClampNeg + 0)).toInt = _; rw [show 5 * y72_1.toNatClampNeg + 0 = z82.toNatClampNeg from (by show 5 * y72_1.toInt.toNat + 0 = z82.toInt.toNat; exact (have a0 := in_u ro_109_22; have a1 := in_u i77a; have a2 := in_u i80; have a3 := in_u i77; have a4 := in_u i82; have a5 := (t_mulc 5 (Or.inl e82) i77 rfl).1; have a6 := in_u i236; have a7 := t_add e236 i77 (in_c 1 rfl) rfl; have a8 := in_u ((in_c 1 rfl)); have a9 := in_u i233a; have a10 := in_u i228; have a11 := t_add e228 i82 (in_c 1 rfl) rfl; have oc := oc_302_109; by omega)), ← e220]) (by show (sc72.1 128 (5 * y72_1.toNatClampNeg + 1)).toInt = _; rw [show 5 * y72_1.toNatClampNeg + 1 = z228.toNatClampNeg from (by show 5 * y72_1.toInt.toNat + 1 = z228.toInt.toNat; exact (have a0 := in_u ro_109_22; have a1 := in_u i77a; have a2 := in_u i80; have a3 := in_u i77; have a4 := in_u i82; have a5 := (t_mulc 5 (Or.inl e82) i77 rfl).1; have a6 := in_u i236; have a7 := t_add e236 i77 (in_c 1 rfl) rfl; have a8 := in_u ((in_c 1 rfl)); have a9 := in_u i233a; have a10 := in_u i228; have a11 := t_add e228 i82 (in_c 1 rfl) rfl; have oc := oc_302_109; by omega)), ← e229])).symm) (hF233.1 127 rfl) (hF233.1 128 rfl) (hF233.2.2.1 109 32 rfl) (hF233.2.2.1 109 23 rfl)
          exact gg_w (by first | exact Nat.le_add_right _ _ | exact gw2 | exact gw3 | exact gwe rfl | exact gwf rfl | exact gwg rfl | exact gwh rfl | omega) (gg_f (gf_cons rfl (gf_cons rfl gf_nil)) (ih72 s233 z236 z233a w72_109_32 hI233 (fr_tr rfl hFc72 hF233) (in_w 0 500 i236 rfl) e233 v72 n72 n72a n72b (m_up mm72 (t_add e236 i77 (in_c 1 rfl) rfl) (in_w 1 1 (in_c 1 rfl) rfl))))
  have ct28 : ∀ (k28 : Nat) (sc28 : GS) (w28_109_27 : Int32) (w28_109_23 : Int32) (w28_109_32 : Int32) (w28_109_28 : Int32), Inv sc28 → Fr fm_302 s sc28 → (w28_109_27 = sc28.2.2.1 109 27) → (w28_109_23 = sc28.2.2.1 109 23) → (w28_109_32 = sc28.2.2.1 109 32) → (w28_109_28 = sc28.2.2.1 109 28) → ((w28_109_27).toInt ≤ (u_109_22).toInt) → ((w28_109_28).toInt ≠ 0 → (w28_109_23).toInt = 0 → 3 * (w28_109_32).toInt + 1 ≤ (w28_109_27).toInt) → ((w28_109_23).toInt = 0 → 3 * (w28_109_32).toInt ≤ (w28_109_27).toInt) → ((sc28.2.2.1 109 23).toInt = 0 → LDQ sc28 (sc28.2.2.1 109 32).toNatClampNeg) → ((sc28.2.2.1 109 23).toInt = 0 → (sc28.2.2.1 109 9).toInt + (sc28.2.2.1 109 32).toInt ≤ 4000) → (0 ≤ (sc28.2.2.1 109 23).toInt ∧ (sc28.2.2.1 109 23).toInt ≤ 9) → (LD1 s sc28) → 10 * ((u_109_22).toInt - (w28_109_27).toInt) + 9 - (w28_109_23).toInt < (k28 : Int) → GG Z (d - 1) 302 post (gx xp) (450902 + k28 * 900) 28 (fun j => xlook j [(0, .ref (A 109))]) [] (WW Z A sc28 ++ ex) 0 0 := by
    intro k28
    induction k28 with
    | zero => intro sc28 w28_109_27 w28_109_23 w28_109_32 w28_109_28 hIc28 hFc28 v28_109_27 v28_109_23 v28_109_32 v28_109_28 n28_0 n28_1 n28_2 g28_0 g28_1 g28_2 g28_3 mm28; exfalso; exact (have a0 := in_u ro_109_22; have a1 := in_u ((inv_F hIc28 0 500 rfl v28_109_32)); have a2 := in_u ((inv_F hIc28 0 9 rfl v28_109_23)); have a3 := in_u ((inv_F hIc28 0 1000 rfl v28_109_27)); have oc := oc_302_109; by omega)
    | succ k28 ih28 =>
      intro sc28 w28_109_27 w28_109_23 w28_109_32 w28_109_28 hIc28 hFc28 v28_109_27 v28_109_23 v28_109_32 v28_109_28 n28_0 n28_1 n28_2 g28_0 g28_1 g28_2 g28_3 mm28
      refine gg_w (M := 450902 + k28 * 900 + 900) gws ?_
      refine g_aload_n 29 (gd rfl) rfl rfl ?_
      refine g_getI 32 (gd rfl) rfl rfl rfl (fun z29 e29 => ?_)
      have q29 : w28_109_28 = z29 := (v28_109_28).trans e29.symm
      subst q29
      refine g_if_eq 35 60 (gd rfl) rfl rfl (fun c32 => ?_) (fun c32 => ?_)
      · skip
        have i32 := z_eq 0 0 c32 (inv_F hIc28 (-2147483648) 2147483647 rfl v28_109_28) rfl
        refine g_aload_n 61 (gd rfl) rfl rfl ?_
        refine g_getI 64 (gd rfl) rfl rfl rfl (fun z61 e61 => ?_)
        have q61 : w28_109_23 = z61 := (v28_109_23).trans e61.symm
        subst q61
        refine g_if_le 67 70 (gd rfl) rfl rfl (fun c64 => ?_) (fun c64 => ?_)
        · skip
          have i64 := z_le 0 0 c64 (inv_F hIc28 0 9 rfl v28_109_23) rfl
          have hfz : (sc28.2.2.1 109 23).toInt = 0 := (by have r := inv_F hIc28 0 9 rfl v28_109_23; unfold In at r; rw [← v28_109_23]; have h := c64; have h0 : (Int32.ofInt 0).toInt = 0 := rfl; omega); have hcc := g28_1 hfz; rw [← v28_109_32] at hcc
          refine g_iconst 0 71 (gd rfl) rfl rfl ?_
          refine g_istore_n 72 (gd rfl) rfl (Nat.le_of_ble_eq_true rfl) ?_
          have n72 : ((sc28.2.2.1 109 9)).toInt + (w28_109_32).toInt - ((Int32.ofInt 0)).toInt ≤ 4000 := by exact (have a0 := in_u ro_109_22; have a1 := in_u i32; have a2 := in_u ((inv_F hIc28 0 500 rfl v28_109_32)); have a3 := in_u i64; have a4 := in_u ((inv_F hIc28 0 1000 rfl v28_109_27)); have a5 := in_u ((in_c 0 rfl)); have a6 := in_u ((show In (sc28.2.2.1 109 9) 0 4000 from inv_F hIc28 0 4000 rfl rfl)); have oc := oc_302_109; by omega)
          have n72a : LDK sc28 (sc28.2.2.1 109 32).toNatClampNeg ((Int32.ofInt 0)).toNatClampNeg := by exact ldk_0 (g28_0 hfz)
          have n72b : LD3 s sc28 ((Int32.ofInt 0)).toNatClampNeg := by exact ld3_0 g28_3 hfz (by rw [← v28_109_28]; exact c32)
          exact gg_w (by first | exact Nat.le_add_right _ _ | exact gw2 | exact gw3 | exact gwe rfl | exact gwf rfl | exact gwg rfl | exact gwh rfl | omega) (gg_f (gf_cons rfl (gf_cons rfl gf_nil)) (ct72 501 sc28 (Int32.ofInt 0) _ w28_109_32 hIc28 hFc28 (in_w 0 500 (in_c 0 rfl) rfl) rfl v28_109_32 n72 n72a n72b (m_in 501 (in_w 0 500 (in_c 0 rfl) rfl) rfl)))
        · skip
          have i64 := z_gt 1 9 c64 (inv_F hIc28 0 9 rfl v28_109_23) rfl
          refine g_bipush (-4) 69 (gd rfl) rfl rfl ?_
          have n69 : LOT (s.1 125) (s.2.2.1 109 22).toInt.toNat (gvR s) ((Int32.ofInt (-4))).toInt (sc28.2.2.1 109 23).toInt (sc28.2.2.1 109 24).toInt (gvR sc28) := by exact ld1_x g28_3 (by rw [← v28_109_23]; exact (have a0 := in_u ro_109_22; have a1 := in_u i32; have a2 := in_u ((inv_F hIc28 0 500 rfl v28_109_32)); have a3 := in_u i64; have a4 := in_u ((inv_F hIc28 0 1000 rfl v28_109_27)); have oc := oc_302_109; by omega)) rfl
          exact g_ireturn (gd rfl) rfl rfl (hP _ _ ⟨sc28, hIc28, hFc28, (Int32.ofInt (-4)), rfl, rfl, in_w (-4) 500 (in_c (-4) rfl) rfl, n69⟩)
      · skip
        refine g_aload_n 36 (gd rfl) rfl rfl ?_
        refine g_getI 39 (gd rfl) rfl rfl rfl (fun z36 e36 => ?_)
        have q36 : w28_109_23 = z36 := (v28_109_23).trans e36.symm
        subst q36
        refine g_if_ne 42 60 (gd rfl) rfl rfl (fun c39 => ?_) (fun c39 => ?_)
        · skip
          have i39 := z_ne 1 9 c39 (inv_F hIc28 0 9 rfl v28_109_23) rfl
          refine g_aload_n 61 (gd rfl) rfl rfl ?_
          refine g_getI 64 (gd rfl) rfl rfl rfl (fun z61 e61 => ?_)
          have q61 : w28_109_23 = z61 := (v28_109_23).trans e61.symm
          subst q61
          refine g_if_le 67 70 (gd rfl) rfl rfl (fun c64 => ?_) (fun c64 => ?_)
          · skip
            exact zn_le c64 i39 rfl
          · skip
            refine g_bipush (-4) 69 (gd rfl) rfl rfl ?_
            have n69 : LOT (s.1 125) (s.2.2.1 109 22).toInt.toNat (gvR s) ((Int32.ofInt (-4))).toInt (sc28.2.2.1 109 23).toInt (sc28.2.2.1 109 24).toInt (gvR sc28) := by exact ld1_x g28_3 (by rw [← v28_109_23]; exact (have a0 := in_u ro_109_22; have a1 := in_u ((inv_F hIc28 0 500 rfl v28_109_32)); have a2 := in_u i39; have a3 := in_u ((inv_F hIc28 0 1000 rfl v28_109_27)); have oc := oc_302_109; by omega)) rfl
            exact g_ireturn (gd rfl) rfl rfl (hP _ _ ⟨sc28, hIc28, hFc28, (Int32.ofInt (-4)), rfl, rfl, in_w (-4) 500 (in_c (-4) rfl) rfl, n69⟩)
        · skip
          have i39 := z_eq 0 0 c39 (inv_F hIc28 0 9 rfl v28_109_23) rfl
          refine g_aload_n 43 (gd rfl) rfl rfl ?_
          have v43 : u_109_22 = sc28.2.2.1 109 22 := fr_F e_109_22 hFc28 rfl
          have n43 : (w28_109_27).toInt ≤ (u_109_22).toInt := by first | exact n28_0 | (exact (have a0 := in_u ro_109_22; have a1 := in_u ((inv_F hIc28 0 500 rfl v28_109_32)); have a2 := in_u i39; have a3 := in_u ((inv_F hIc28 0 1000 rfl v28_109_27)); have oc := oc_302_109; by omega))
          have n43a : 3 * (w28_109_32).toInt + 1 ≤ (w28_109_27).toInt := by exact (have a0 := in_u ro_109_22; have a1 := in_u ((inv_F hIc28 0 500 rfl v28_109_32)); have a2 := in_u i39; have a3 := in_u ((inv_F hIc28 0 1000 rfl v28_109_27)); have oc := oc_302_109; by omega)
          have p43 : LDQ sc28 (sc28.2.2.1 109 32).toNatClampNeg := by exact g28_0 (by rw [← v28_109_23]; exact c39)
          have p43a : (sc28.2.2.1 109 23).toInt = 0 := by rw [← v28_109_23]; exact c39
          refine g_callv (X := _) (As := []) (r := []) (b := A 109) (q := 109) 46 (gd rfl) rfl rfl rfl rfl rfl (ww_o rfl) (Nat.le_of_ble_eq_true rfl) (Nat.zero_le _) (Nat.zero_le _) (f_304 (by first | exact dq1 hd rfl | exact dq0 hd rfl | exact dq2 hd rfl | exact dq3 hd rfl | omega) hIc28 v28_109_27 v43 v28_109_32 v28_109_28 rfl rfl v28_109_23 n43 n43a p43 p43a) (fun e u h => h) (fun v u h => ?_)
          obtain ⟨s43, hI43, hF43, n43b, n43c, n43d, n43e, n43f, rfl, rfl, p43b, p43c, p43d⟩ := h
          obtain ⟨z43a, e43⟩ : ∃ w, w = s43.2.2.1 109 27 := ⟨_, rfl⟩
          have i43a := inv_F hI43 0 1000 rfl e43
          obtain ⟨z43b, e43a⟩ : ∃ w, w = s43.2.2.1 109 23 := ⟨_, rfl⟩
          have i43b := inv_F hI43 0 9 rfl e43a
          obtain ⟨z43c, e43b⟩ : ∃ w, w = s43.2.2.1 109 32 := ⟨_, rfl⟩
          have i43c := inv_F hI43 0 500 rfl e43b
          obtain ⟨z43d, e43c⟩ : ∃ w, w = s43.2.2.1 109 9 := ⟨_, rfl⟩
          have i43d := inv_F hI43 0 4000 rfl e43c
          rw [← (show z43a = s43.2.2.1 109 27 from e43)] at n43b
          rw [← (show u_109_22 = s43.2.2.1 109 22 from fr_F (fr_F e_109_22 hFc28 rfl) hF43 rfl)] at n43b
          rw [← (show w28_109_27 = sc28.2.2.1 109 27 from v28_109_27)] at n43c
          rw [← (show z43a = s43.2.2.1 109 27 from e43)] at n43c
          rw [← (show z43a = s43.2.2.1 109 27 from e43)] at n43d
          rw [← (show z43b = s43.2.2.1 109 23 from e43a)] at n43d
          rw [← (show z43c = s43.2.2.1 109 32 from e43b)] at n43d
          rw [← (show w28_109_27 = sc28.2.2.1 109 27 from v28_109_27)] at n43e
          rw [← (show z43a = s43.2.2.1 109 27 from e43)] at n43e
          rw [← (show z43b = s43.2.2.1 109 23 from e43a)] at n43e
          rw [← (show z43b = s43.2.2.1 109 23 from e43a)] at n43f
          rw [← (show z43c = s43.2.2.1 109 32 from e43b)] at n43f
          rw [← (show z43d = s43.2.2.1 109 9 from e43c)] at n43f
          show GG _ _ _ _ _ _ _ _ [] _ _ _
          refine g_aload_n 47 (gd rfl) rfl rfl ?_
          refine g_getI 50 (gd rfl) rfl rfl rfl (fun z47 e47 => ?_)
          have q47 : z43b = z47 := (e43a).trans e47.symm
          subst q47
          refine g_if_ne 53 28 (gd rfl) rfl rfl (fun c50 => ?_) (fun c50 => ?_)
          · skip
            have i50 := z_ne 1 9 c50 i43b rfl
            have n28 : (z43a).toInt ≤ (u_109_22).toInt := by exact (have a0 := in_u ro_109_22; have a1 := in_u ((inv_F hIc28 0 500 rfl v28_109_32)); have a2 := in_u i39; have a3 := in_u ((inv_F hIc28 0 1000 rfl v28_109_27)); have a4 := in_u i43d; have a5 := in_u i43c; have a6 := in_u i50; have a7 := in_u i43a; have oc := oc_302_109; by omega)
            have n28a : ((s43.2.2.1 109 28)).toInt ≠ 0 → (z43b).toInt = 0 → 3 * (z43c).toInt + 1 ≤ (z43a).toInt := by exact (have a0 := in_u ro_109_22; have a1 := in_u ((inv_F hIc28 0 500 rfl v28_109_32)); have a2 := in_u i39; have a3 := in_u ((inv_F hIc28 0 1000 rfl v28_109_27)); have a4 := in_u i43d; have a5 := in_u i43c; have a6 := in_u i50; have a7 := in_u i43a; have oc := oc_302_109; by omega)
            have n28b : (z43b).toInt = 0 → 3 * (z43c).toInt ≤ (z43a).toInt := by exact (have a0 := in_u ro_109_22; have a1 := in_u ((inv_F hIc28 0 500 rfl v28_109_32)); have a2 := in_u i39; have a3 := in_u ((inv_F hIc28 0 1000 rfl v28_109_27)); have a4 := in_u i43d; have a5 := in_u i43c; have a6 := in_u i50; have a7 := in_u i43a; have oc := oc_302_109; by omega)
            have n28c : (s43.2.2.1 109 23).toInt = 0 → LDQ s43 (s43.2.2.1 109 32).toNatClampNeg := by exact p43b
            have n28d : (s43.2.2.1 109 23).toInt = 0 → (s43.2.2.1 109 9).toInt + (s43.2.2.1 109 32).toInt ≤ 4000 := by (intro hf; rw [← e43a] at hf; rw [← e43c, ← e43b]; exact n43f hf)
            have n28e : 0 ≤ (s43.2.2.1 109 23).toInt ∧ (s43.2.2.1 109 23).toInt ≤ 9 := by exact inv_F hI43 0 9 rfl rfl
            have n28f : LD1 s s43 := by exact ⟨(ld_cmd g28_3 (by rw [← v28_109_23]; exact c39) (by rw [← v28_109_28]; exact c32) p43c (geq_0 hF43 rfl p43d) (by have h := inv_F hIc28 0 500 rfl v28_109_32; rw [← v28_109_32]; exact h.1) (hFc28.1 125 rfl) (hFc28.2.2.1 109 22 rfl)).1, fun z => absurd z (by rw [← e43a]; exact c50), (ld_cmd g28_3 (by rw [← v28_109_23]; exact c39) (by rw [← v28_109_28]; exact c32) p43c (geq_0 hF43 rfl p43d) (by have h := inv_F hIc28 0 500 rfl v28_109_32; rw [← v28_109_32]; exact h.1) (hFc28.1 125 rfl) (hFc28.2.2.1 109 22 rfl)).2.2⟩
            have m28 : 10 * ((u_109_22).toInt - (z43a).toInt) + 9 - (z43b).toInt < ((k28 : Nat) : Int) := by exact (have a0 := in_u ro_109_22; have a1 := in_u ((inv_F hIc28 0 500 rfl v28_109_32)); have a2 := in_u i39; have a3 := in_u ((inv_F hIc28 0 1000 rfl v28_109_27)); have a4 := in_u i43d; have a5 := in_u i43c; have a6 := in_u i50; have a7 := in_u i43a; have oc := oc_302_109; by omega)
            exact gg_w (by first | exact Nat.le_add_right _ _ | exact gw2 | exact gw3 | exact gwe rfl | exact gwf rfl | exact gwg rfl | exact gwh rfl | omega) (gg_f (gf_cons rfl gf_nil) (ih28  s43 z43a z43b z43c _ hI43 (fr_tr rfl hFc28 hF43) e43 e43a e43b rfl n28 n28a n28b n28c n28d n28e n28f m28))
          · skip
            have i50 := z_eq 0 0 c50 i43b rfl
            refine g_aload_n 54 (gd rfl) rfl rfl ?_
            have v54 : u_109_22 = s43.2.2.1 109 22 := fr_F (fr_F e_109_22 hFc28 rfl) hF43 rfl
            have n54 : (z43a).toInt ≤ (u_109_22).toInt := by exact (have a0 := in_u ro_109_22; have a1 := in_u ((inv_F hIc28 0 500 rfl v28_109_32)); have a2 := in_u i39; have a3 := in_u ((inv_F hIc28 0 1000 rfl v28_109_27)); have a4 := in_u i43d; have a5 := in_u i43c; have a6 := in_u i50; have a7 := in_u i43a; have oc := oc_302_109; by omega)
            refine g_callv (X := _) (As := []) (r := []) (b := A 109) (q := 109) 57 (gd rfl) rfl rfl rfl rfl rfl (ww_o rfl) (Nat.le_of_ble_eq_true rfl) (Nat.zero_le _) (Nat.zero_le _) (f_299 (by first | exact dq1 hd rfl | exact dq0 hd rfl | exact dq2 hd rfl | exact dq3 hd rfl | omega) hI43 e43 v54 n54) (fun e u h => h) (fun v u h => ?_)
            obtain ⟨s54, hI54, hF54, n54a, n54b, n54c, n54d, n54e, rfl, rfl, p54⟩ := h
            obtain ⟨z54a, e54⟩ : ∃ w, w = s54.2.2.1 109 27 := ⟨_, rfl⟩
            have i54a := inv_F hI54 0 1000 rfl e54
            obtain ⟨z54b, e54a⟩ : ∃ w, w = s54.2.2.1 109 28 := ⟨_, rfl⟩
            obtain ⟨z54c, e54b⟩ : ∃ w, w = s54.2.2.1 109 30 := ⟨_, rfl⟩
            rw [← (show z54a = s54.2.2.1 109 27 from e54)] at n54a
            rw [← (show u_109_22 = s54.2.2.1 109 22 from fr_F (fr_F (fr_F e_109_22 hFc28 rfl) hF43 rfl) hF54 rfl)] at n54a
            rw [← (show z43a = s43.2.2.1 109 27 from e43)] at n54b
            rw [← (show z54a = s54.2.2.1 109 27 from e54)] at n54b
            rw [← (show z43a = s43.2.2.1 109 27 from e43)] at n54c
            rw [← (show z54a = s54.2.2.1 109 27 from e54)] at n54c
            rw [← (show z54b = s54.2.2.1 109 28 from e54a)] at n54c
            rw [← (show z54b = s54.2.2.1 109 28 from e54a)] at n54d
            rw [← (show z54c = s54.2.2.1 109 30 from e54b)] at n54d
            rw [← (show z54b = s54.2.2.1 109 28 from e54a)] at n54e
            rw [← (show z54c = s54.2.2.1 109 30 from e54b)] at n54e
            show GG _ _ _ _ _ _ _ _ [] _ _ _
            refine g_goto 28 (gd rfl) rfl ?_
            have v28 : z43c = s54.2.2.1 109 32 := fr_F (e43b) hF54 rfl
            have n28 : (z54a).toInt ≤ (u_109_22).toInt := by exact (have a0 := in_u ro_109_22; have a1 := in_u ((inv_F hIc28 0 500 rfl v28_109_32)); have a2 := in_u i39; have a3 := in_u ((inv_F hIc28 0 1000 rfl v28_109_27)); have a4 := in_u i54a; have a5 := in_u i43d; have a6 := in_u i43c; have oc := oc_302_109; by omega)
            have n28a : (z54b).toInt ≠ 0 → ((s54.2.2.1 109 23)).toInt = 0 → 3 * (z43c).toInt + 1 ≤ (z54a).toInt := by exact (have a0 := in_u ro_109_22; have a1 := in_u ((inv_F hIc28 0 500 rfl v28_109_32)); have a2 := in_u i39; have a3 := in_u ((inv_F hIc28 0 1000 rfl v28_109_27)); have a4 := in_u i54a; have a5 := in_u i43d; have a6 := in_u i43c; have a7 := in_u ((show In (s54.2.2.1 109 23) 0 9 from inv_F hI54 0 9 rfl rfl)); have oc := oc_302_109; by omega)
            have n28b : ((s54.2.2.1 109 23)).toInt = 0 → 3 * (z43c).toInt ≤ (z54a).toInt := by exact (have a0 := in_u ro_109_22; have a1 := in_u ((inv_F hIc28 0 500 rfl v28_109_32)); have a2 := in_u i39; have a3 := in_u ((inv_F hIc28 0 1000 rfl v28_109_27)); have a4 := in_u i54a; have a5 := in_u i43d; have a6 := in_u i43c; have a7 := in_u ((show In (s54.2.2.1 109 23) 0 9 from inv_F hI54 0 9 rfl rfl)); have oc := oc_302_109; by omega)
            have n28c : (s54.2.2.1 109 23).toInt = 0 → LDQ s54 (s54.2.2.1 109 32).toNatClampNeg := by (intro _; rw [hF54.2.2.1 109 32 rfl]; exact ldq_cg (p43b (by rw [← e43a]; exact c50)) (hF54.1 110 rfl) (hF54.1 112 rfl) (fun j _ => by rw [hF54.1 127 rfl]) (fun j _ => by rw [hF54.1 128 rfl]))
            have n28d : (s54.2.2.1 109 23).toInt = 0 → (s54.2.2.1 109 9).toInt + (s54.2.2.1 109 32).toInt ≤ 4000 := by (intro _; rw [hF54.2.2.1 109 9 rfl, hF54.2.2.1 109 32 rfl, ← e43c, ← e43b]; exact n43f c50)
            have n28e : 0 ≤ (s54.2.2.1 109 23).toInt ∧ (s54.2.2.1 109 23).toInt ≤ 9 := by exact inv_F hI54 0 9 rfl rfl
            have n28f : LD1 s s54 := by exact ld_tok hI54 (ld_cmd g28_3 (by rw [← v28_109_23]; exact c39) (by rw [← v28_109_28]; exact c32) p43c (geq_0 hF43 rfl p43d) (by have h := inv_F hIc28 0 500 rfl v28_109_32; rw [← v28_109_32]; exact h.1) (hFc28.1 125 rfl) (hFc28.2.2.1 109 22 rfl)).1 ((ld_cmd g28_3 (by rw [← v28_109_23]; exact c39) (by rw [← v28_109_28]; exact c32) p43c (geq_0 hF43 rfl p43d) (by have h := inv_F hIc28 0 500 rfl v28_109_32; rw [← v28_109_32]; exact h.1) (hFc28.1 125 rfl) (hFc28.2.2.1 109 22 rfl)).2.1 (by rw [← e43a]; exact c50)) (by rw [← e43a]; exact c50) p54 ((hF43.1 125 rfl).trans (hFc28.1 125 rfl)) ((hF43.2.2.1 109 22 rfl).trans (hFc28.2.2.1 109 22 rfl)) (gvR_cg hF54 rfl) (hF54.1 110 rfl) (hF54.1 112 rfl) (hF54.1 127 rfl) (hF54.1 128 rfl) (hF54.2.2.1 109 9 rfl) (hF54.2.2.1 109 32 rfl)
            have m28 : 10 * ((u_109_22).toInt - (z54a).toInt) + 9 - ((s54.2.2.1 109 23)).toInt < ((k28 : Nat) : Int) := by exact (have a0 := in_u ro_109_22; have a1 := in_u ((inv_F hIc28 0 500 rfl v28_109_32)); have a2 := in_u i39; have a3 := in_u ((inv_F hIc28 0 1000 rfl v28_109_27)); have a4 := in_u i54a; have a5 := in_u i43d; have a6 := in_u i43c; have a7 := in_u ((show In (s54.2.2.1 109 23) 0 9 from inv_F hI54 0 9 rfl rfl)); have oc := oc_302_109; by omega)
            exact gg_w (by first | exact Nat.le_add_right _ _ | exact gw2 | exact gw3 | exact gwe rfl | exact gwf rfl | exact gwg rfl | exact gwh rfl | omega) (gg_f (gf_cons rfl gf_nil) (ih28  s54 z54a _ z43c z54b hI54 (fr_tr rfl (fr_tr rfl hFc28 hF43) hF54) e54 rfl v28 e54a n28 n28a n28b n28c n28d n28e n28f m28))
  refine g_enter2 (k := 302) (N := 9469802) (by first | exact dq1 hd rfl | exact dq0 hd rfl | exact dq2 hd rfl | exact dq3 hd rfl | omega) rfl (Nat.le_of_ble_eq_true rfl) ?_
  refine g_aload_n 1 (gd rfl) rfl rfl ?_
  refine g_iconst 0 2 (gd rfl) rfl rfl ?_
  refine g_putI 5 (gd rfl) rfl rfl rfl rfl ?_
  have hI2 := inv_sF (q := 109) (j := 0) hI rfl (in_w 0 2 (in_c 0 rfl) rfl)
  refine g_aload_n 6 (gd rfl) rfl rfl ?_
  refine g_iconst 0 7 (gd rfl) rfl rfl ?_
  refine g_putI 10 (gd rfl) rfl rfl rfl rfl ?_
  have hI7 := inv_sF (q := 109) (j := 23) hI2 rfl (in_w 0 9 (in_c 0 rfl) rfl)
  refine g_aload_n 11 (gd rfl) rfl rfl ?_
  refine g_iconst 0 12 (gd rfl) rfl rfl ?_
  refine g_putI 15 (gd rfl) rfl rfl rfl rfl ?_
  have hI12 := inv_sF (q := 109) (j := 32) hI7 rfl (in_w 0 500 (in_c 0 rfl) rfl)
  refine g_aload_n 16 (gd rfl) rfl rfl ?_
  refine g_iconst 0 17 (gd rfl) rfl rfl ?_
  refine g_putI 20 (gd rfl) rfl rfl rfl rfl ?_
  have hI17 := inv_sF (q := 109) (j := 27) hI12 rfl (in_w 0 1000 (in_c 0 rfl) rfl)
  refine g_aload_n 21 (gd rfl) rfl rfl ?_
  refine g_callv (X := _) (As := []) (r := []) (b := A 109) (q := 109) 24 (gd rfl) rfl rfl rfl rfl rfl (ww_o rfl) (Nat.le_of_ble_eq_true rfl) (Nat.zero_le _) (Nat.zero_le _) (k_303 (by first | exact dq1 hd rfl | exact dq0 hd rfl | exact dq2 hd rfl | exact dq3 hd rfl | omega) hI17 ) (fun e u h => h) (fun v u h => ?_)
  obtain ⟨s21, hI21, hF21, rfl, rfl, p21⟩ := h
  show GG _ _ _ _ _ _ _ _ [] _ _ _
  refine g_aload_n 25 (gd rfl) rfl rfl ?_
  have v25 : (Int32.ofInt 0) = s21.2.2.1 109 27 := fr_F (s := (sF (sF (sF (sF s 109 0 (Int32.ofInt 0)) 109 23 (Int32.ofInt 0)) 109 32 (Int32.ofInt 0)) 109 27 (Int32.ofInt 0))) (sF_get) hF21 rfl
  have v25a : u_109_22 = s21.2.2.1 109 22 := fr_F (s := (sF (sF (sF (sF s 109 0 (Int32.ofInt 0)) 109 23 (Int32.ofInt 0)) 109 32 (Int32.ofInt 0)) 109 27 (Int32.ofInt 0))) (sF_ne rfl (sF_ne rfl (sF_ne rfl (sF_ne rfl (e_109_22))))) hF21 rfl
  have n25 : ((Int32.ofInt 0)).toInt ≤ (u_109_22).toInt := by exact (have a0 := in_u ((inv_F hI 0 1000 rfl e_109_22)); have a1 := in_u ((in_c 0 rfl)); have oc := oc_302_109; by omega)
  refine g_callv (X := _) (As := []) (r := []) (b := A 109) (q := 109) 28 (gd rfl) rfl rfl rfl rfl rfl (ww_o rfl) (Nat.le_of_ble_eq_true rfl) (Nat.zero_le _) (Nat.zero_le _) (f_299 (by first | exact dq1 hd rfl | exact dq0 hd rfl | exact dq2 hd rfl | exact dq3 hd rfl | omega) hI21 v25 v25a n25) (fun e u h => h) (fun v u h => ?_)
  obtain ⟨s25, hI25, hF25, n25a, n25b, n25c, n25d, n25e, rfl, rfl, p25⟩ := h
  obtain ⟨z25a, e25⟩ : ∃ w, w = s25.2.2.1 109 27 := ⟨_, rfl⟩
  have i25a := inv_F hI25 0 1000 rfl e25
  obtain ⟨z25b, e25a⟩ : ∃ w, w = s25.2.2.1 109 28 := ⟨_, rfl⟩
  obtain ⟨z25c, e25b⟩ : ∃ w, w = s25.2.2.1 109 30 := ⟨_, rfl⟩
  rw [← (show z25a = s25.2.2.1 109 27 from e25)] at n25a
  rw [← (show u_109_22 = s25.2.2.1 109 22 from fr_F (fr_F (s := (sF (sF (sF (sF s 109 0 (Int32.ofInt 0)) 109 23 (Int32.ofInt 0)) 109 32 (Int32.ofInt 0)) 109 27 (Int32.ofInt 0))) (sF_ne rfl (sF_ne rfl (sF_ne rfl (sF_ne rfl (e_109_22))))) hF21 rfl) hF25 rfl)] at n25a
  rw [← (show (Int32.ofInt 0) = s21.2.2.1 109 27 from fr_F (s := (sF (sF (sF (sF s 109 0 (Int32.ofInt 0)) 109 23 (Int32.ofInt 0)) 109 32 (Int32.ofInt 0)) 109 27 (Int32.ofInt 0))) (sF_get) hF21 rfl)] at n25b
  rw [← (show z25a = s25.2.2.1 109 27 from e25)] at n25b
  rw [← (show (Int32.ofInt 0) = s21.2.2.1 109 27 from fr_F (s := (sF (sF (sF (sF s 109 0 (Int32.ofInt 0)) 109 23 (Int32.ofInt 0)) 109 32 (Int32.ofInt 0)) 109 27 (Int32.ofInt 0))) (sF_get) hF21 rfl)] at n25c
  rw [← (show z25a = s25.2.2.1 109 27 from e25)] at n25c
  rw [← (show z25b = s25.2.2.1 109 28 from e25a)] at n25c
  rw [← (show z25b = s25.2.2.1 109 28 from e25a)] at n25d
  rw [← (show z25c = s25.2.2.1 109 30 from e25b)] at n25d
  rw [← (show z25b = s25.2.2.1 109 28 from e25a)] at n25e
  rw [← (show z25c = s25.2.2.1 109 30 from e25b)] at n25e
  show GG _ _ _ _ _ _ _ _ [] _ _ _
  have v28 : (Int32.ofInt 0) = s25.2.2.1 109 32 := fr_F (fr_F (s := (sF (sF (sF (sF s 109 0 (Int32.ofInt 0)) 109 23 (Int32.ofInt 0)) 109 32 (Int32.ofInt 0)) 109 27 (Int32.ofInt 0))) (sF_ne rfl (sF_get)) hF21 rfl) hF25 rfl
  have n28 : (z25a).toInt ≤ (u_109_22).toInt := by exact (have a0 := in_u ((inv_F hI 0 1000 rfl e_109_22)); have a1 := in_u i25a; have a2 := in_u ((in_c 0 rfl)); have oc := oc_302_109; by omega)
  have n28a : (z25b).toInt ≠ 0 → ((s25.2.2.1 109 23)).toInt = 0 → 3 * ((Int32.ofInt 0)).toInt + 1 ≤ (z25a).toInt := by exact (have a0 := in_u ((inv_F hI 0 1000 rfl e_109_22)); have a1 := in_u i25a; have a2 := in_u ((in_c 0 rfl)); have a3 := in_u ((show In (s25.2.2.1 109 23) 0 9 from inv_F hI25 0 9 rfl rfl)); have oc := oc_302_109; by omega)
  have n28b : ((s25.2.2.1 109 23)).toInt = 0 → 3 * ((Int32.ofInt 0)).toInt ≤ (z25a).toInt := by exact (have a0 := in_u ((inv_F hI 0 1000 rfl e_109_22)); have a1 := in_u i25a; have a2 := in_u ((in_c 0 rfl)); have a3 := in_u ((show In (s25.2.2.1 109 23) 0 9 from inv_F hI25 0 9 rfl rfl)); have oc := oc_302_109; by omega)
  have n28c : (s25.2.2.1 109 23).toInt = 0 → LDQ s25 (s25.2.2.1 109 32).toNatClampNeg := by (intro _; rw [show s25.2.2.1 109 32 = Int32.ofInt 0 from ((hF25.2.2.1 109 32 rfl).trans ((hF21.2.2.1 109 32 rfl).trans (by simp [sF])))]; exact ldq_cg (ldq_0 p21.1 p21.2.1 p21.2.2) (hF25.1 110 rfl) (hF25.1 112 rfl) (fun j _ => by rw [hF25.1 127 rfl]) (fun j _ => by rw [hF25.1 128 rfl]))
  have n28d : (s25.2.2.1 109 23).toInt = 0 → (s25.2.2.1 109 9).toInt + (s25.2.2.1 109 32).toInt ≤ 4000 := by (intro _; rw [show s25.2.2.1 109 32 = Int32.ofInt 0 from ((hF25.2.2.1 109 32 rfl).trans ((hF21.2.2.1 109 32 rfl).trans (by simp [sF])))]; have h := inv_F hI25 (z := s25.2.2.1 109 9) 0 4000 rfl rfl; unfold In at h; have h0 : (Int32.ofInt 0).toInt = 0 := rfl; omega)
  have n28e : 0 ≤ (s25.2.2.1 109 23).toInt ∧ (s25.2.2.1 109 23).toInt ≤ 9 := by exact inv_F hI25 0 9 rfl rfl
  have n28f : LD1 s s25 := by have hG0 := geq_0 hF21 rfl ⟨p21.2.1, fun i hi => (p21.2.2 i hi).2⟩; exact ld_tok hI25 (show GEQ (gvR s21) (gvR s) from hG0) (ldg_0 hI p21.1 p21.2.2 ((hF21.2.2.1 109 9 rfl).trans (by simp [sF])) ((hF21.2.2.1 109 32 rfl).trans (by simp [sF])) ((hF21.2.2.1 109 27 rfl).trans (by simp [sF]))) (by rw [show s21.2.2.1 109 23 = Int32.ofInt 0 from ((hF21.2.2.1 109 23 rfl).trans (by simp [sF]))]; rfl) p25 (hF21.1 125 rfl) ((hF21.2.2.1 109 22 rfl).trans (by simp [sF])) (gvR_cg hF25 rfl) (hF25.1 110 rfl) (hF25.1 112 rfl) (hF25.1 127 rfl) (hF25.1 128 rfl) (hF25.2.2.1 109 9 rfl) (hF25.2.2.1 109 32 rfl)
  have m28 : 10 * ((u_109_22).toInt - (z25a).toInt) + 9 - ((s25.2.2.1 109 23)).toInt < ((10020 : Nat) : Int) := by exact (have a0 := in_u ((inv_F hI 0 1000 rfl e_109_22)); have a1 := in_u i25a; have a2 := in_u ((in_c 0 rfl)); have a3 := in_u ((show In (s25.2.2.1 109 23) 0 9 from inv_F hI25 0 9 rfl rfl)); have oc := oc_302_109; by omega)
  exact gg_w (by first | exact Nat.le_of_ble_eq_true rfl | omega) (gg_f (gf_cons rfl gf_nil) (ct28 10020 s25 z25a _ (Int32.ofInt 0) z25b hI25 (fr_tr rfl (fr_tr rfl (fr_sF rfl (fr_sF rfl (fr_sF rfl (fr_sF rfl fr_rf)))) hF21) hF25) e25 rfl v28 e25a n28 n28a n28b n28c n28d n28e n28f m28))

theorem oc_286_109 : (Int32.ofInt (-1)).toInt = (-1) ∧ (Int32.ofInt 0).toInt = 0 ∧ (Int32.ofInt 1).toInt = 1 ∧ (Int32.ofInt 160).toInt = 160 ∧ (Int64.ofInt (-1)).toInt = (-1) := ⟨rfl, rfl, rfl, rfl, rfl⟩
/-- GraphHouseModel.view -/
theorem f_286 {Z : AmZ} {A : Nat → Nat} {s : GS} {ex : va_W} {d : Nat} {X : AmX} {x1 : Int32} (hd : 4 ≤ d) (hI : Inv s)  : GC Z d 286 [.ref (A 109), .int x1] (WW Z A s ++ ex) 0 0 (fun v u => ∃ t : GS, Inv t ∧ Fr fm_286 s t ∧ ∃ z : Int32, v = some (.int z) ∧ u = WW Z A t ++ ex ∧ In z 0 4000 ∧ (GEQ (gvR t) (gvR s)) ∧ (VWQ s t x1 z)) X := by
  intro post xp hP hX
  obtain ⟨u_109_9, e_109_9⟩ : ∃ w, w = s.2.2.1 109 9 := ⟨_, rfl⟩
  have ro_109_9 := inv_F hI 0 4000 rfl e_109_9
  have ct66 : ∀ (k66 : Nat) (sc66 : GS) (y66_2 : Int32), Rng sc66 → Fr fm_286 s sc66 → (In x1 0 4000) → (In y66_2 0 4000) → ((x1).toInt ≤ (u_109_9).toInt) → (0 ≤ (x1).toInt) → ((y66_2).toInt ≤ (x1).toInt) → (sc66.1 110 0 = s.1 110 0 ∧ (sc66.1 110 1).toInt = (cz (s.1 118) (y66_2).toInt.toNat : Int)) → (∀ i, i < 160 → sc66.1 112 i = s.1 112 i ∧ sc66.1 113 i = s.1 113 i ∧ sc66.1 114 i = s.1 114 i) → (KE (sc66.1 112) (sc66.1 113) (sc66.1 114) (sc66.1 110) 1) → (GEQ (gvR sc66) (gvR s)) → ((sc66.2.2.1 109 0).toInt = 0) → 4000 - (y66_2).toInt < (k66 : Int) → GG Z (d - 1) 286 post (gx xp) (1 + k66 * 900) 66 (fun j => xlook j [(0, .ref (A 109)), (1, .int x1), (2, .int y66_2)]) [] (WW Z A sc66 ++ ex) 0 0 := by
    intro k66
    induction k66 with
    | zero => intro sc66 y66_2 hIc66 hFc66 j66_1 j66_2 n66_0 n66_1 n66_2 g66_0 g66_1 g66_2 g66_3 g66_4 mm66; exact m_no mm66 j66_2 rfl
    | succ k66 ih66 =>
      intro sc66 y66_2 hIc66 hFc66 j66_1 j66_2 n66_0 n66_1 n66_2 g66_0 g66_1 g66_2 g66_3 g66_4 mm66
      refine gg_w (M := 1 + k66 * 900 + 900) gws ?_
      refine g_iload_n 67 (gd rfl) rfl rfl ?_
      refine g_iload_n 68 (gd rfl) rfl rfl ?_
      refine g_cmp_ge 71 83 (gd rfl) rfl rfl (fun c68 => ?_) (fun c68 => ?_)
      · skip
        refine g_aload_n 84 (gd rfl) rfl rfl ?_
        have p84 : In (sc66.1 110 0) 0 32 ∧ In (sc66.1 110 1) 0 32 := by first | (have h := kr_nn hI; exact h) | exact vw_nn (x := y66_2) hI (by exact (have a0 := in_u j66_1; have a1 := in_u ro_109_9; have a2 := in_u j66_2; have oc := oc_286_109; by omega)) (by rw [← e_109_9]; exact (have a0 := in_u j66_1; have a1 := in_u ro_109_9; have a2 := in_u j66_2; have oc := oc_286_109; by omega)) g66_0.1 g66_0.2
        refine g_callv (X := _) (As := []) (r := []) (b := A 109) (q := 109) 87 (gd rfl) rfl rfl rfl rfl rfl (ww_o rfl) (Nat.le_of_ble_eq_true rfl) (Nat.zero_le _) (Nat.zero_le _) (k_276 (by first | exact dq1 hd rfl | exact dq0 hd rfl | exact dq2 hd rfl | exact dq3 hd rfl | omega) hIc66 p84) (fun e u h => h) (fun v u h => ?_)
        obtain ⟨s84, hI84, hF84, rfl, rfl, p84a⟩ := h
        show GG _ _ _ _ _ _ _ _ [] _ _ _
        refine g_iload_n 88 (gd rfl) rfl rfl ?_
        refine g_if_ge 91 98 (gd rfl) rfl rfl (fun c88 => ?_) (fun c88 => ?_)
        · skip
          refine g_iload_n 99 (gd rfl) rfl rfl ?_
          have hI99 : Inv s84 := by first | (have hFF : Fr ([], [], [(109, 0), (109, 17)], []) s s84 := (fr_tr rfl hFc66 hF84); exact ⟨hI84, kk_all hI.2 hFF rfl⟩) | (have hFF : Fr fm_286 s s84 := (fr_tr rfl hFc66 hF84); exact ⟨hI84, kk_g hI.2.1 hFF rfl rfl rfl rfl rfl, kk_g hI.2.2.1 hFF rfl rfl rfl rfl rfl, kk_s hI.2.2.2.1 hFF rfl, lk_kr hI (funext fun q => hF84.1 q rfl) (hFF.2.2.1 109 9 rfl) p84a⟩) | (have hFF : Fr fm_286 s s84 := (fr_tr rfl hFc66 hF84); exact ⟨hI84, kk_g hI.2.1 hFF rfl rfl rfl rfl rfl, kk_g hI.2.2.1 hFF rfl rfl rfl rfl rfl, kk_s hI.2.2.2.1 hFF rfl, vw_kr (x := y66_2) hI (in_w 0 4000 j66_2 rfl) (by rw [← e_109_9]; exact (have a0 := in_u j66_1; have a1 := in_u ro_109_9; have a2 := in_u j66_2; have oc := oc_286_109; by omega)) ((hF84.1 118 rfl).trans (hFc66.1 118 rfl)) ((hF84.1 119 rfl).trans (hFc66.1 119 rfl)) ((hF84.1 120 rfl).trans (hFc66.1 120 rfl)) ((hF84.1 121 rfl).trans (hFc66.1 121 rfl)) (hFF.2.2.1 109 9 rfl) ((congrFun (hF84.1 110 rfl) 0).trans g66_0.1) (by rw [hF84.1 110 rfl]; exact g66_0.2) (fun i hi => by rw [hF84.1 112 rfl, hF84.1 113 rfl, hF84.1 114 rfl]; exact g66_1 i hi) (by rw [hF84.1 112 rfl, hF84.1 113 rfl, hF84.1 114 rfl, hF84.1 110 rfl]; exact g66_2) p84a⟩)
          have n99 : GEQ (gvR s84) (gvR s) := by rw [gvR_cg hF84 rfl]; exact g66_3
          have n99a : VWQ s s84 x1 x1 := by exact Or.inr ⟨by rw [hF84.2.2.1 109 0 rfl]; exact g66_4, ⟨by exact (have a0 := in_u j66_1; have a1 := in_u ro_109_9; have a2 := in_u j66_2; have oc := oc_286_109; by omega), by rw [← e_109_9]; exact (have a0 := in_u j66_1; have a1 := in_u ro_109_9; have a2 := in_u j66_2; have oc := oc_286_109; by omega)⟩, by rw [if_neg (by exact (have a0 := in_u j66_1; have a1 := in_u ro_109_9; have a2 := in_u j66_2; have oc := oc_286_109; by omega))]⟩
          exact g_ireturn (gd rfl) rfl rfl (hP _ _ ⟨s84, hI99, (fr_tr rfl hFc66 hF84), x1, rfl, rfl, in_w 0 4000 j66_1 rfl, n99, n99a⟩)
        · skip
          exact zn_lt c88 j66_1 rfl
      · skip
        have i68 := r_lt1 0 3999 c68 j66_2 j66_1 rfl
        have i68a := r_lt2 1 4000 c68 j66_2 j66_1 rfl
        refine g_aload_n 72 (gd rfl) rfl rfl ?_
        refine g_iload_n 73 (gd rfl) rfl rfl ?_
        refine g_iconst 1 74 (gd rfl) rfl rfl ?_
        have p74 : AQ sc66 (y66_2).toNatClampNeg ((Int32.ofInt 1)).toNatClampNeg := by have h : AQ sc66 (y66_2).toNatClampNeg 1 := vw_aq hI (in_w 0 3999 i68 rfl) (by rw [← e_109_9]; exact (have a0 := in_u i68a; have a1 := in_u ro_109_9; have a2 := in_u i68; have oc := oc_286_109; by omega)) ((hFc66 : Fr fm_286 s sc66).1 118 rfl) ((hFc66 : Fr fm_286 s sc66).1 119 rfl) ((hFc66 : Fr fm_286 s sc66).1 120 rfl) ((hFc66 : Fr fm_286 s sc66).1 121 rfl) g66_0.2; exact h
        refine g_callv (X := _) (As := [.int y66_2, .int (Int32.ofInt 1)]) (r := []) (b := A 109) (q := 109) 77 (gd rfl) rfl rfl rfl rfl rfl (ww_o rfl) (Nat.le_of_ble_eq_true rfl) (Nat.zero_le _) (Nat.zero_le _) (f_275 (by first | exact dq1 hd rfl | exact dq0 hd rfl | exact dq2 hd rfl | exact dq3 hd rfl | omega) hIc66 (in_w 0 3999 i68 rfl) (in_w 0 1 (in_c 1 rfl) rfl) p74) (fun e u h => h) (fun v u h => ?_)
        obtain ⟨s74, hI74, hF74, rfl, rfl, p74a, p74b, p74c⟩ := h
        show GG _ _ _ _ _ _ _ _ [] _ _ _
        refine g_iinc 80 (gd rfl) rfl rfl (Nat.le_of_ble_eq_true rfl) (fun z77 e77 => ?_)
        have i77 := in_add 1 4000 e77 i68 (in_c 1 rfl) rfl rfl
        refine g_goto 66 (gd rfl) rfl ?_
        have n66 : (x1).toInt ≤ (u_109_9).toInt := by first | exact n66_0 | (exact (have a0 := in_u i68a; have a1 := in_u ro_109_9; have a2 := in_u i68; have a3 := in_u i77; have a4 := t_add e77 i68 (in_c 1 rfl) rfl; have a5 := in_u ((in_c 1 rfl)); have oc := oc_286_109; by omega))
        have n66a : 0 ≤ (x1).toInt := by first | exact n66_1 | (exact (have a0 := in_u i68a; have a1 := in_u ro_109_9; have a2 := in_u i68; have a3 := in_u i77; have a4 := t_add e77 i68 (in_c 1 rfl) rfl; have a5 := in_u ((in_c 1 rfl)); have oc := oc_286_109; by omega))
        have n66b : (z77).toInt ≤ (x1).toInt := by exact (have a0 := in_u i68a; have a1 := in_u ro_109_9; have a2 := in_u i68; have a3 := in_u i77; have a4 := t_add e77 i68 (in_c 1 rfl) rfl; have a5 := in_u ((in_c 1 rfl)); have oc := oc_286_109; by omega)
        have n66c : s74.1 110 0 = s.1 110 0 ∧ (s74.1 110 1).toInt = (cz (s.1 118) (z77).toInt.toNat : Int) := by first | exact ⟨g40_0.1, g40_0.2⟩ | (have hp : AP sc66 s74 y66_2.toNatClampNeg 1 := p74a; refine ⟨(hp.2.1 0 (by decide)).trans g66_0.1, ?_⟩; rw [hp.1, hFc66.1 118 rfl]; have e5 : y66_2.toNatClampNeg = y66_2.toInt.toNat := rfl; have e6 : z77.toInt.toNat = y66_2.toNatClampNeg + 1 := (by exact (have a0 := in_u i68a; have a1 := in_u ro_109_9; have a2 := in_u i68; have a3 := in_u i77; have a4 := t_add e77 i68 (in_c 1 rfl) rfl; have a5 := in_u ((in_c 1 rfl)); have oc := oc_286_109; by omega)); rw [e6])
        have n66d : ∀ i, i < 160 → s74.1 112 i = s.1 112 i ∧ s74.1 113 i = s.1 113 i ∧ s74.1 114 i = s.1 114 i := by first | exact g40_1 | (have hp : AP sc66 s74 y66_2.toNatClampNeg 1 := p74a; intro i hi; have h := hp.2.2.2 i (Or.inl (by omega)); have h2 := g66_1 i hi; exact ⟨h.1.trans h2.1, h.2.1.trans h2.2.1, h.2.2.trans h2.2.2⟩)
        have n66e : KE (s74.1 112) (s74.1 113) (s74.1 114) (s74.1 110) 1 := by first | exact fun a ha h1 => absurd (g40_2 a (by exact (have a0 := in_u i68a; have a1 := in_u ro_109_9; have a2 := in_u i68; have a3 := in_u i77; have a4 := t_add e77 i68 (in_c 1 rfl) rfl; have a5 := in_u ((in_c 1 rfl)); have oc := oc_286_109; by omega))) h1 | (have hp : AP sc66 s74 y66_2.toNatClampNeg 1 := p74a; exact hp.2.2.1 g66_2)
        have n66f : GEQ (gvR s74) (gvR s) := by exact geq_t (geq_rp hIc66 (by show y66_2.toInt.toNat < 4000; exact (have a0 := in_u i68a; have a1 := in_u ro_109_9; have a2 := in_u i68; have a3 := in_u i77; have a4 := t_add e77 i68 (in_c 1 rfl) rfl; have a5 := in_u ((in_c 1 rfl)); have oc := oc_286_109; by omega)) p74a p74c (hF74.2.2.1 109 9 rfl)) g66_3
        have n66g : (s74.2.2.1 109 0).toInt = 0 := by rw [hF74.2.2.1 109 0 rfl]; exact g66_4
        exact gg_w (by first | exact Nat.le_add_right _ _ | exact gw2 | exact gw3 | exact gwe rfl | exact gwf rfl | exact gwg rfl | exact gwh rfl | omega) (gg_f (gf_cons rfl (gf_cons rfl (gf_cons rfl gf_nil))) (ih66 s74 z77 hI74 (fr_tr rfl hFc66 hF74) (in_w 0 4000 i68a rfl) (in_w 0 4000 i77 rfl) n66 n66a n66b n66c n66d n66e n66f n66g (m_up mm66 (t_add e77 i68 (in_c 1 rfl) rfl) (in_w 1 1 (in_c 1 rfl) rfl))))
  have ct40 : ∀ (k40 : Nat) (sc40 : GS) (y40_2 : Int32), Rng sc40 → Fr fm_286 s sc40 → (In x1 0 4000) → (In y40_2 0 160) → ((x1).toInt ≤ (u_109_9).toInt) → (0 ≤ (x1).toInt) → (sc40.1 110 0 = s.1 110 0 ∧ (sc40.1 110 1).toInt = 0) → (∀ i, i < 160 → sc40.1 112 i = s.1 112 i ∧ sc40.1 113 i = s.1 113 i ∧ sc40.1 114 i = s.1 114 i) → (∀ j : Nat, (j : Int) < (y40_2).toInt → (sc40.1 112 (160 + j)).toInt = 0) → (GEQ (gvR sc40) (gvR s)) → ((sc40.2.2.1 109 0).toInt = 0) → 160 - (y40_2).toInt < (k40 : Int) → GG Z (d - 1) 286 post (gx xp) (3600902 + k40 * 900) 40 (fun j => xlook j [(0, .ref (A 109)), (1, .int x1), (2, .int y40_2)]) [] (WW Z A sc40 ++ ex) 0 0 := by
    intro k40
    induction k40 with
    | zero => intro sc40 y40_2 hIc40 hFc40 j40_1 j40_2 n40_0 n40_1 g40_0 g40_1 g40_2 g40_3 g40_4 mm40; exact m_no mm40 j40_2 rfl
    | succ k40 ih40 =>
      intro sc40 y40_2 hIc40 hFc40 j40_1 j40_2 n40_0 n40_1 g40_0 g40_1 g40_2 g40_3 g40_4 mm40
      refine gg_w (M := 3600902 + k40 * 900 + 900) gws ?_
      refine g_iload_n 41 (gd rfl) rfl rfl ?_
      refine g_sipush 160 44 (gd rfl) rfl rfl ?_
      refine g_cmp_ge 47 64 (gd rfl) rfl rfl (fun c44 => ?_) (fun c44 => ?_)
      · skip
        have i44 := r_le2 160 160 c44 (in_c 160 rfl) j40_2 rfl
        refine g_iconst 0 65 (gd rfl) rfl rfl ?_
        refine g_istore_n 66 (gd rfl) rfl (Nat.le_of_ble_eq_true rfl) ?_
        have n66 : (x1).toInt ≤ (u_109_9).toInt := by first | exact n40_0 | (exact (have a0 := in_u j40_1; have a1 := in_u ro_109_9; have a2 := in_u i44; have a3 := in_u ((in_c 0 rfl)); have oc := oc_286_109; by omega))
        have n66a : 0 ≤ (x1).toInt := by first | exact n40_1 | (exact (have a0 := in_u j40_1; have a1 := in_u ro_109_9; have a2 := in_u i44; have a3 := in_u ((in_c 0 rfl)); have oc := oc_286_109; by omega))
        have n66b : ((Int32.ofInt 0)).toInt ≤ (x1).toInt := by exact (have a0 := in_u j40_1; have a1 := in_u ro_109_9; have a2 := in_u i44; have a3 := in_u ((in_c 0 rfl)); have oc := oc_286_109; by omega)
        have n66c : sc40.1 110 0 = s.1 110 0 ∧ (sc40.1 110 1).toInt = (cz (s.1 118) ((Int32.ofInt 0)).toInt.toNat : Int) := by first | exact ⟨g40_0.1, g40_0.2⟩ | (have hp : AP sc66 s74 y66_2.toNatClampNeg 1 := p74a; refine ⟨(hp.2.1 0 (by decide)).trans g66_0.1, ?_⟩; rw [hp.1, hFc66.1 118 rfl]; have e5 : y66_2.toNatClampNeg = y66_2.toInt.toNat := rfl; have e6 : z77.toInt.toNat = y66_2.toNatClampNeg + 1 := (by exact (have a0 := in_u j40_1; have a1 := in_u ro_109_9; have a2 := in_u i44; have a3 := in_u ((in_c 0 rfl)); have oc := oc_286_109; by omega)); rw [e6])
        have n66d : ∀ i, i < 160 → sc40.1 112 i = s.1 112 i ∧ sc40.1 113 i = s.1 113 i ∧ sc40.1 114 i = s.1 114 i := by first | exact g40_1 | (first | exact g40_1 | (have hp : AP sc66 s74 y66_2.toNatClampNeg 1 := p74a; intro i hi; have h := hp.2.2.2 i (Or.inl (by omega)); have h2 := g66_1 i hi; exact ⟨h.1.trans h2.1, h.2.1.trans h2.2.1, h.2.2.trans h2.2.2⟩))
        have n66e : KE (sc40.1 112) (sc40.1 113) (sc40.1 114) (sc40.1 110) 1 := by first | exact fun a ha h1 => absurd (g40_2 a (by exact (have a0 := in_u j40_1; have a1 := in_u ro_109_9; have a2 := in_u i44; have a3 := in_u ((in_c 0 rfl)); have oc := oc_286_109; by omega))) h1 | (have hp : AP sc66 s74 y66_2.toNatClampNeg 1 := p74a; exact hp.2.2.1 g66_2)
        have n66f : GEQ (gvR sc40) (gvR s) := by exact g40_3
        have n66g : (sc40.2.2.1 109 0).toInt = 0 := by exact g40_4
        exact gg_w (by first | exact Nat.le_add_right _ _ | exact gw2 | exact gw3 | exact gwe rfl | exact gwf rfl | exact gwg rfl | exact gwh rfl | omega) (gg_f (gf_cons rfl (gf_cons rfl (gf_cons rfl gf_nil))) (ct66 4001 sc40 (Int32.ofInt 0) hIc40 hFc40 (in_w 0 4000 j40_1 rfl) (in_w 0 4000 (in_c 0 rfl) rfl) n66 n66a n66b n66c n66d n66e n66f n66g (m_in 4001 (in_w 0 4000 (in_c 0 rfl) rfl) rfl)))
      · skip
        have i44 := r_lt1 0 159 c44 j40_2 (in_c 160 rfl) rfl
        refine g_aload_n 48 (gd rfl) rfl rfl ?_
        refine g_getA (q2 := 112) 51 (gd rfl) rfl rfl rfl rfl ?_
        refine g_sipush 160 54 (gd rfl) rfl rfl ?_
        refine g_iload_n 55 (gd rfl) rfl rfl ?_
        refine g_iadd 56 (gd rfl) rfl (fun z55 e55 => ?_)
        have i55 := in_add 160 319 e55 (in_c 160 rfl) i44 rfl rfl
        refine g_iconst 0 57 (gd rfl) rfl rfl ?_
        refine g_bastore 58 (gd rfl) rfl (n := 480) rfl (in_ix i55 rfl) ?_
        have hI57 := rng_sI (q := 112) (j := z55.toNatClampNeg) hIc40 rfl (in_w 0 1 (nar01 (in_w 0 1 (in_c 0 rfl) rfl)) rfl)
        refine g_iinc 61 (gd rfl) rfl rfl (Nat.le_of_ble_eq_true rfl) (fun z58 e58 => ?_)
        have i58 := in_add 1 160 e58 i44 (in_c 1 rfl) rfl rfl
        refine g_goto 40 (gd rfl) rfl ?_
        have n40 : (x1).toInt ≤ (u_109_9).toInt := by first | exact n40_0 | (exact (have a0 := in_u j40_1; have a1 := in_u ro_109_9; have a2 := in_u i44; have a3 := in_u i58; have a4 := t_add e58 i44 (in_c 1 rfl) rfl; have a5 := in_u ((in_c 1 rfl)); have a6 := in_u i55; have a7 := t_add e55 (in_c 160 rfl) i44 rfl; have a8 := in_u ((in_c 160 rfl)); have oc := oc_286_109; by omega))
        have n40a : 0 ≤ (x1).toInt := by first | exact n40_1 | (exact (have a0 := in_u j40_1; have a1 := in_u ro_109_9; have a2 := in_u i44; have a3 := in_u i58; have a4 := t_add e58 i44 (in_c 1 rfl) rfl; have a5 := in_u ((in_c 1 rfl)); have a6 := in_u i55; have a7 := t_add e55 (in_c 160 rfl) i44 rfl; have a8 := in_u ((in_c 160 rfl)); have oc := oc_286_109; by omega))
        have n40b : (sI sc40 112 z55.toNatClampNeg (vp_nar .boolean (Int32.ofInt 0))).1 110 0 = s.1 110 0 ∧ ((sI sc40 112 z55.toNatClampNeg (vp_nar .boolean (Int32.ofInt 0))).1 110 1).toInt = 0 := by first | exact g40_0 | exact ⟨rfl, rfl⟩
        have n40c : ∀ i, i < 160 → (sI sc40 112 z55.toNatClampNeg (vp_nar .boolean (Int32.ofInt 0))).1 112 i = s.1 112 i ∧ (sI sc40 112 z55.toNatClampNeg (vp_nar .boolean (Int32.ofInt 0))).1 113 i = s.1 113 i ∧ (sI sc40 112 z55.toNatClampNeg (vp_nar .boolean (Int32.ofInt 0))).1 114 i = s.1 114 i := by first | exact fun i hi => ⟨rfl, rfl, rfl⟩ | (intro i hi; refine ⟨?_, (g40_1 i hi).2⟩; rw [sI_q]; unfold upd; rw [if_neg (by have e5 : z55.toNatClampNeg = z55.toInt.toNat := rfl; exact (have a0 := in_u j40_1; have a1 := in_u ro_109_9; have a2 := in_u i44; have a3 := in_u i58; have a4 := t_add e58 i44 (in_c 1 rfl) rfl; have a5 := in_u ((in_c 1 rfl)); have a6 := in_u i55; have a7 := t_add e55 (in_c 160 rfl) i44 rfl; have a8 := in_u ((in_c 160 rfl)); have oc := oc_286_109; by omega))]; exact (g40_1 i hi).1)
        have n40d : ∀ j : Nat, (j : Int) < (z58).toInt → ((sI sc40 112 z55.toNatClampNeg (vp_nar .boolean (Int32.ofInt 0))).1 112 (160 + j)).toInt = 0 := by first | (intro j hj; exfalso; have h0 : (Int32.ofInt 0).toInt = 0 := rfl; omega) | (intro j hj; rw [sI_q]; unfold upd; have e5 : z55.toNatClampNeg = z55.toInt.toNat := rfl; by_cases c : 160 + j = z55.toNatClampNeg; (rw [if_pos c]; rfl); (rw [if_neg c]; exact g40_2 j (by exact (have a0 := in_u j40_1; have a1 := in_u ro_109_9; have a2 := in_u i44; have a3 := in_u i58; have a4 := t_add e58 i44 (in_c 1 rfl) rfl; have a5 := in_u ((in_c 1 rfl)); have a6 := in_u i55; have a7 := t_add e55 (in_c 160 rfl) i44 rfl; have a8 := in_u ((in_c 160 rfl)); have oc := oc_286_109; by omega))))
        have n40e : GEQ (gvR (sI sc40 112 z55.toNatClampNeg (vp_nar .boolean (Int32.ofInt 0)))) (gvR s) := by first | exact geq_112 (by show 160 ≤ z55.toInt.toNat; exact (have a0 := in_u j40_1; have a1 := in_u ro_109_9; have a2 := in_u i44; have a3 := in_u i58; have a4 := t_add e58 i44 (in_c 1 rfl) rfl; have a5 := in_u ((in_c 1 rfl)); have a6 := in_u i55; have a7 := t_add e55 (in_c 160 rfl) i44 rfl; have a8 := in_u ((in_c 160 rfl)); have oc := oc_286_109; by omega)) g40_3 | exact geq_110 (by decide) (by rw [(gvR_cg (L := ([], [], [(109, 0), (109, 17)], [])) (fr_sF rfl (fr_sF rfl fr_rf)) rfl)]; exact geq_r)
        have n40f : ((sI sc40 112 z55.toNatClampNeg (vp_nar .boolean (Int32.ofInt 0))).2.2.1 109 0).toInt = 0 := by first | exact g40_4 | rfl
        exact gg_w (by first | exact Nat.le_add_right _ _ | exact gw2 | exact gw3 | exact gwe rfl | exact gwf rfl | exact gwg rfl | exact gwh rfl | omega) (gg_f (gf_cons rfl (gf_cons rfl (gf_cons rfl gf_nil))) (ih40 (sI sc40 112 z55.toNatClampNeg (vp_nar .boolean (Int32.ofInt 0))) z58 hI57 (fr_sI rfl hFc40) (in_w 0 4000 j40_1 rfl) (in_w 0 160 i58 rfl) n40 n40a n40b n40c n40d n40e n40f (m_up mm40 (t_add e58 i44 (in_c 1 rfl) rfl) (in_w 1 1 (in_c 1 rfl) rfl))))
  refine g_enter2 (k := 286) (N := 3746702) (by first | exact dq1 hd rfl | exact dq0 hd rfl | exact dq2 hd rfl | exact dq3 hd rfl | omega) rfl (Nat.le_of_ble_eq_true rfl) ?_
  refine g_aload_n 1 (gd rfl) rfl rfl ?_
  refine g_iload_n 2 (gd rfl) rfl rfl ?_
  refine g_i2l 3 (gd rfl) rfl (fun z2 e2 => ?_)
  have i2 := l_i e2 (i_rng x1)
  refine g_ldc2_w (-1) 6 (gd rfl) rfl rfl ?_
  refine g_aload_n 7 (gd rfl) rfl rfl ?_
  refine g_getI 10 (gd rfl) rfl rfl rfl (fun z7 e7 => ?_)
  have q7 : u_109_9 = z7 := (e_109_9).trans e7.symm
  subst q7
  refine g_i2l 11 (gd rfl) rfl (fun z10 e10 => ?_)
  have i10 := l_i e10 ro_109_9
  refine g_calls (As := [.long z2, .long (Int64.ofInt (-1)), .long z10]) (r := [.ref (A 109)]) 14 (gd rfl) rfl rfl rfl rfl rfl (Nat.le_of_ble_eq_true rfl) (mc := 0) (ms := 0) (Nat.zero_le _) (Nat.zero_le _) (P := fun v u => _) ?_ (fun v u h => h)
  intro po11 xx11 hp11 hx11
  refine g_enter2 (k := 269) (N := 300) (by first | exact dq1 hd rfl | exact dq0 hd rfl | exact dq2 hd rfl | exact dq3 hd rfl | omega) rfl (Nat.le_of_ble_eq_true rfl) ?_
  refine g_lload_n 1 (gd rfl) rfl rfl ?_
  refine g_lload_n 2 (gd rfl) rfl rfl ?_
  refine g_lcmp 3 (gd rfl) rfl (fun z11x2 e11x2 => ?_)
  have i11x2 := lc_in e11x2
  refine g_if_lt 6 17 (gd rfl) rfl rfl (fun c11x3 => ?_) (fun c11x3 => ?_)
  · skip
    have i11x3 := z_lt (-1) (-1) c11x3 i11x2 rfl
    have c11x3a := lc_lt e11x2 c11x3
    have i11x3a := lr_lt1 (-2147483648) (-2) c11x3a i2 (l_c (-1) rfl) rfl
    have i11x3b := l_b e2 i11x3a
    refine g_iconst 0 18 (gd rfl) rfl rfl ?_
    refine g_ireturn (gd rfl) rfl (nb01 (in_w 0 1 (in_c 0 rfl) rfl)) (hp11 _ _ ?_)
    show GG _ _ _ _ _ _ _ _ [.int (Int32.ofInt 0), .ref (A 109)] _ _ _
    refine g_callv (X := _) (As := [.int (Int32.ofInt 0)]) (r := []) (b := A 109) (q := 109) 17 (gd rfl) rfl rfl rfl rfl rfl (ww_o rfl) (Nat.le_of_ble_eq_true rfl) (mc := 0) (ms := 0) (Nat.zero_le _) (Nat.zero_le _) (P := fun v u => _) ?_ (fun e u h => h) (fun v u h => h)
    intro po14 xx14 hp14 hx14
    refine g_enter2 (k := 271) (N := 300) (by first | exact dq1 hd rfl | exact dq0 hd rfl | exact dq2 hd rfl | exact dq3 hd rfl | omega) rfl (Nat.le_of_ble_eq_true rfl) ?_
    refine g_aload_n 1 (gd rfl) rfl rfl ?_
    refine g_iload_n 2 (gd rfl) rfl rfl ?_
    refine g_iconst 1 3 (gd rfl) rfl rfl ?_
    refine g_callv (X := _) (As := [.int (Int32.ofInt 0), .int (Int32.ofInt 1)]) (r := []) (b := A 109) (q := 109) 6 (gd rfl) rfl rfl rfl rfl rfl (ww_o rfl) (Nat.le_of_ble_eq_true rfl) (mc := 0) (ms := 0) (Nat.zero_le _) (Nat.zero_le _) (P := fun v u => _) ?_ (fun e u h => h) (fun v u h => h)
    intro po14x3 xx14x3 hp14x3 hx14x3
    refine g_enter2 (k := 270) (N := 300) (by first | exact dq1 hd rfl | exact dq0 hd rfl | exact dq2 hd rfl | exact dq3 hd rfl | omega) rfl (Nat.le_of_ble_eq_true rfl) ?_
    refine g_aload_n 1 (gd rfl) rfl rfl ?_
    refine g_iload_n 2 (gd rfl) rfl rfl ?_
    refine g_if_ne 5 9 (gd rfl) rfl rfl (fun c14x3x2 => ?_) (fun c14x3x2 => ?_)
    · skip
      exact zn_ne c14x3x2 (in_c 0 rfl) rfl
    · skip
      refine g_iconst 1 6 (gd rfl) rfl rfl ?_
      refine g_goto 18 (gd rfl) rfl ?_
      refine g_putI 21 (gd rfl) rfl rfl rfl rfl ?_
      have hI14x3x18 := rng_sF (q := 109) (j := 0) hI.1 rfl (in_w 0 2 (in_c 1 rfl) rfl)
      refine g_aload_n 22 (gd rfl) rfl rfl ?_
      refine g_getI 25 (gd rfl) rfl rfl rfl (fun z14x3x22 e14x3x22 => ?_)
      have q14x3x22 : (Int32.ofInt 1) = z14x3x22 := (sF_get).trans e14x3x22.symm
      subst q14x3x22
      refine g_if_le 28 32 (gd rfl) rfl rfl (fun c14x3x25 => ?_) (fun c14x3x25 => ?_)
      · skip
        exact zn_le c14x3x25 (in_c 1 rfl) rfl
      · skip
        refine g_iconst 1 29 (gd rfl) rfl rfl ?_
        refine g_goto 33 (gd rfl) rfl ?_
        refine g_ireturn (gd rfl) rfl (nb01 (in_w 0 1 (in_c 1 rfl) rfl)) (hp14x3 _ _ ?_)
        show GG _ _ _ _ _ _ _ _ [.int (Int32.ofInt 1)] _ _ _
        refine g_ireturn (gd rfl) rfl (nb01 (in_w 0 1 (in_c 1 rfl) rfl)) (hp14 _ _ ?_)
        show GG _ _ _ _ _ _ _ _ [.int (Int32.ofInt 1)] _ _ _
        refine g_if_eq 20 22 (gd rfl) rfl rfl (fun c17 => ?_) (fun c17 => ?_)
        · skip
          exact zn_eq c17 (in_c 1 rfl) rfl
        · skip
          refine g_iconst 0 21 (gd rfl) rfl rfl ?_
          have hI21 : Inv (sF s 109 0 (Int32.ofInt 1)) := by first | (have hFF : Fr ([], [], [(109, 0), (109, 17)], []) s (sF s 109 0 (Int32.ofInt 1)) := (fr_sF rfl fr_rf); exact ⟨hI14x3x18, kk_all hI.2 hFF rfl⟩) | (have hFF : Fr fm_286 s (sF s 109 0 (Int32.ofInt 1)) := (fr_sF rfl fr_rf); exact ⟨hI14x3x18, kk_g hI.2.1 hFF rfl rfl rfl rfl rfl, kk_g hI.2.2.1 hFF rfl rfl rfl rfl rfl, kk_s hI.2.2.2.1 hFF rfl, lk_kr hI (funext fun q => hF84.1 q rfl) (hFF.2.2.1 109 9 rfl) p84a⟩) | (have hFF : Fr fm_286 s (sF s 109 0 (Int32.ofInt 1)) := (fr_sF rfl fr_rf); exact ⟨hI14x3x18, kk_g hI.2.1 hFF rfl rfl rfl rfl rfl, kk_g hI.2.2.1 hFF rfl rfl rfl rfl rfl, kk_s hI.2.2.2.1 hFF rfl, vw_kr (x := y66_2) hI (in_w 0 4000 j66_2 rfl) (by rw [← e_109_9]; exact (have a0 := in_u ro_109_9; have a1 := in_u i11x3b; have a2 := in_u ((in_c 1 rfl)); have a3 := tx_i2l e10; have a4 := tx_i2l e2; have oc := oc_286_109; by omega)) ((hF84.1 118 rfl).trans (hFc66.1 118 rfl)) ((hF84.1 119 rfl).trans (hFc66.1 119 rfl)) ((hF84.1 120 rfl).trans (hFc66.1 120 rfl)) ((hF84.1 121 rfl).trans (hFc66.1 121 rfl)) (hFF.2.2.1 109 9 rfl) ((congrFun (hF84.1 110 rfl) 0).trans g66_0.1) (by rw [hF84.1 110 rfl]; exact g66_0.2) (fun i hi => by rw [hF84.1 112 rfl, hF84.1 113 rfl, hF84.1 114 rfl]; exact g66_1 i hi) (by rw [hF84.1 112 rfl, hF84.1 113 rfl, hF84.1 114 rfl, hF84.1 110 rfl]; exact g66_2) p84a⟩)
          have n21 : GEQ (gvR (sF s 109 0 (Int32.ofInt 1))) (gvR s) := by rw [gvR_cg (L := ([], [], [(109, 0)], [])) (fr_sF rfl fr_rf) rfl]; exact geq_r
          have n21a : VWQ s (sF s 109 0 (Int32.ofInt 1)) x1 (Int32.ofInt 0) := by exact Or.inl ⟨rfl, by rw [← e_109_9]; exact (have a0 := in_u ro_109_9; have a1 := in_u i11x3b; have a2 := in_u ((in_c 1 rfl)); have a3 := tx_i2l e10; have a4 := tx_i2l e2; have oc := oc_286_109; by omega)⟩
          exact g_ireturn (gd rfl) rfl rfl (hP _ _ ⟨(sF s 109 0 (Int32.ofInt 1)), hI21, (fr_sF rfl fr_rf), (Int32.ofInt 0), rfl, rfl, in_w 0 4000 (in_c 0 rfl) rfl, n21, n21a⟩)
  · skip
    have i11x3 := z_ge 0 1 c11x3 i11x2 rfl
    have c11x3a := lc_ge e11x2 c11x3
    have i11x3a := lr_le2 (-1) 2147483647 c11x3a (l_c (-1) rfl) i2 rfl
    have i11x3b := l_b e2 i11x3a
    refine g_lload_n 7 (gd rfl) rfl rfl ?_
    refine g_lload 9 (gd rfl) rfl rfl ?_
    refine g_lcmp 10 (gd rfl) rfl (fun z11x9 e11x9 => ?_)
    have i11x9 := lc_in e11x9
    refine g_if_gt 13 17 (gd rfl) rfl rfl (fun c11x10 => ?_) (fun c11x10 => ?_)
    · skip
      have i11x10 := z_gt 1 1 c11x10 i11x9 rfl
      have c11x10a := lc_gt e11x9 c11x10
      have i11x10a := lr_lt2 1 2147483647 c11x10a i10 i11x3a rfl
      have i11x10b := l_b e2 i11x10a
      refine g_iconst 0 18 (gd rfl) rfl rfl ?_
      refine g_ireturn (gd rfl) rfl (nb01 (in_w 0 1 (in_c 0 rfl) rfl)) (hp11 _ _ ?_)
      show GG _ _ _ _ _ _ _ _ [.int (Int32.ofInt 0), .ref (A 109)] _ _ _
      refine g_callv (X := _) (As := [.int (Int32.ofInt 0)]) (r := []) (b := A 109) (q := 109) 17 (gd rfl) rfl rfl rfl rfl rfl (ww_o rfl) (Nat.le_of_ble_eq_true rfl) (mc := 0) (ms := 0) (Nat.zero_le _) (Nat.zero_le _) (P := fun v u => _) ?_ (fun e u h => h) (fun v u h => h)
      intro po14 xx14 hp14 hx14
      refine g_enter2 (k := 271) (N := 300) (by first | exact dq1 hd rfl | exact dq0 hd rfl | exact dq2 hd rfl | exact dq3 hd rfl | omega) rfl (Nat.le_of_ble_eq_true rfl) ?_
      refine g_aload_n 1 (gd rfl) rfl rfl ?_
      refine g_iload_n 2 (gd rfl) rfl rfl ?_
      refine g_iconst 1 3 (gd rfl) rfl rfl ?_
      refine g_callv (X := _) (As := [.int (Int32.ofInt 0), .int (Int32.ofInt 1)]) (r := []) (b := A 109) (q := 109) 6 (gd rfl) rfl rfl rfl rfl rfl (ww_o rfl) (Nat.le_of_ble_eq_true rfl) (mc := 0) (ms := 0) (Nat.zero_le _) (Nat.zero_le _) (P := fun v u => _) ?_ (fun e u h => h) (fun v u h => h)
      intro po14x3 xx14x3 hp14x3 hx14x3
      refine g_enter2 (k := 270) (N := 300) (by first | exact dq1 hd rfl | exact dq0 hd rfl | exact dq2 hd rfl | exact dq3 hd rfl | omega) rfl (Nat.le_of_ble_eq_true rfl) ?_
      refine g_aload_n 1 (gd rfl) rfl rfl ?_
      refine g_iload_n 2 (gd rfl) rfl rfl ?_
      refine g_if_ne 5 9 (gd rfl) rfl rfl (fun c14x3x2 => ?_) (fun c14x3x2 => ?_)
      · skip
        exact zn_ne c14x3x2 (in_c 0 rfl) rfl
      · skip
        refine g_iconst 1 6 (gd rfl) rfl rfl ?_
        refine g_goto 18 (gd rfl) rfl ?_
        refine g_putI 21 (gd rfl) rfl rfl rfl rfl ?_
        have hI14x3x18 := rng_sF (q := 109) (j := 0) hI.1 rfl (in_w 0 2 (in_c 1 rfl) rfl)
        refine g_aload_n 22 (gd rfl) rfl rfl ?_
        refine g_getI 25 (gd rfl) rfl rfl rfl (fun z14x3x22 e14x3x22 => ?_)
        have q14x3x22 : (Int32.ofInt 1) = z14x3x22 := (sF_get).trans e14x3x22.symm
        subst q14x3x22
        refine g_if_le 28 32 (gd rfl) rfl rfl (fun c14x3x25 => ?_) (fun c14x3x25 => ?_)
        · skip
          exact zn_le c14x3x25 (in_c 1 rfl) rfl
        · skip
          refine g_iconst 1 29 (gd rfl) rfl rfl ?_
          refine g_goto 33 (gd rfl) rfl ?_
          refine g_ireturn (gd rfl) rfl (nb01 (in_w 0 1 (in_c 1 rfl) rfl)) (hp14x3 _ _ ?_)
          show GG _ _ _ _ _ _ _ _ [.int (Int32.ofInt 1)] _ _ _
          refine g_ireturn (gd rfl) rfl (nb01 (in_w 0 1 (in_c 1 rfl) rfl)) (hp14 _ _ ?_)
          show GG _ _ _ _ _ _ _ _ [.int (Int32.ofInt 1)] _ _ _
          refine g_if_eq 20 22 (gd rfl) rfl rfl (fun c17 => ?_) (fun c17 => ?_)
          · skip
            exact zn_eq c17 (in_c 1 rfl) rfl
          · skip
            refine g_iconst 0 21 (gd rfl) rfl rfl ?_
            have hI21 : Inv (sF s 109 0 (Int32.ofInt 1)) := by first | (have hFF : Fr ([], [], [(109, 0), (109, 17)], []) s (sF s 109 0 (Int32.ofInt 1)) := (fr_sF rfl fr_rf); exact ⟨hI14x3x18, kk_all hI.2 hFF rfl⟩) | (have hFF : Fr fm_286 s (sF s 109 0 (Int32.ofInt 1)) := (fr_sF rfl fr_rf); exact ⟨hI14x3x18, kk_g hI.2.1 hFF rfl rfl rfl rfl rfl, kk_g hI.2.2.1 hFF rfl rfl rfl rfl rfl, kk_s hI.2.2.2.1 hFF rfl, lk_kr hI (funext fun q => hF84.1 q rfl) (hFF.2.2.1 109 9 rfl) p84a⟩) | (have hFF : Fr fm_286 s (sF s 109 0 (Int32.ofInt 1)) := (fr_sF rfl fr_rf); exact ⟨hI14x3x18, kk_g hI.2.1 hFF rfl rfl rfl rfl rfl, kk_g hI.2.2.1 hFF rfl rfl rfl rfl rfl, kk_s hI.2.2.2.1 hFF rfl, vw_kr (x := y66_2) hI (in_w 0 4000 j66_2 rfl) (by rw [← e_109_9]; exact (have a0 := in_u ro_109_9; have a1 := in_u i11x10b; have a2 := in_u ((in_c 1 rfl)); have a3 := tx_i2l e10; have a4 := tx_i2l e2; have oc := oc_286_109; by omega)) ((hF84.1 118 rfl).trans (hFc66.1 118 rfl)) ((hF84.1 119 rfl).trans (hFc66.1 119 rfl)) ((hF84.1 120 rfl).trans (hFc66.1 120 rfl)) ((hF84.1 121 rfl).trans (hFc66.1 121 rfl)) (hFF.2.2.1 109 9 rfl) ((congrFun (hF84.1 110 rfl) 0).trans g66_0.1) (by rw [hF84.1 110 rfl]; exact g66_0.2) (fun i hi => by rw [hF84.1 112 rfl, hF84.1 113 rfl, hF84.1 114 rfl]; exact g66_1 i hi) (by rw [hF84.1 112 rfl, hF84.1 113 rfl, hF84.1 114 rfl, hF84.1 110 rfl]; exact g66_2) p84a⟩)
            have n21 : GEQ (gvR (sF s 109 0 (Int32.ofInt 1))) (gvR s) := by rw [gvR_cg (L := ([], [], [(109, 0)], [])) (fr_sF rfl fr_rf) rfl]; exact geq_r
            have n21a : VWQ s (sF s 109 0 (Int32.ofInt 1)) x1 (Int32.ofInt 0) := by exact Or.inl ⟨rfl, by rw [← e_109_9]; exact (have a0 := in_u ro_109_9; have a1 := in_u i11x10b; have a2 := in_u ((in_c 1 rfl)); have a3 := tx_i2l e10; have a4 := tx_i2l e2; have oc := oc_286_109; by omega)⟩
            exact g_ireturn (gd rfl) rfl rfl (hP _ _ ⟨(sF s 109 0 (Int32.ofInt 1)), hI21, (fr_sF rfl fr_rf), (Int32.ofInt 0), rfl, rfl, in_w 0 4000 (in_c 0 rfl) rfl, n21, n21a⟩)
    · skip
      have i11x10 := z_le (-1) 0 c11x10 i11x9 rfl
      have c11x10a := lc_le e11x9 c11x10
      have i11x10a := lr_le1 (-1) 4000 c11x10a i11x3a i10 rfl
      have i11x10b := l_b e2 i11x10a
      refine g_iconst 1 14 (gd rfl) rfl rfl ?_
      refine g_goto 18 (gd rfl) rfl ?_
      refine g_ireturn (gd rfl) rfl (nb01 (in_w 0 1 (in_c 1 rfl) rfl)) (hp11 _ _ ?_)
      show GG _ _ _ _ _ _ _ _ [.int (Int32.ofInt 1), .ref (A 109)] _ _ _
      refine g_callv (X := _) (As := [.int (Int32.ofInt 1)]) (r := []) (b := A 109) (q := 109) 17 (gd rfl) rfl rfl rfl rfl rfl (ww_o rfl) (Nat.le_of_ble_eq_true rfl) (mc := 0) (ms := 0) (Nat.zero_le _) (Nat.zero_le _) (P := fun v u => _) ?_ (fun e u h => h) (fun v u h => h)
      intro po14 xx14 hp14 hx14
      refine g_enter2 (k := 271) (N := 300) (by first | exact dq1 hd rfl | exact dq0 hd rfl | exact dq2 hd rfl | exact dq3 hd rfl | omega) rfl (Nat.le_of_ble_eq_true rfl) ?_
      refine g_aload_n 1 (gd rfl) rfl rfl ?_
      refine g_iload_n 2 (gd rfl) rfl rfl ?_
      refine g_iconst 1 3 (gd rfl) rfl rfl ?_
      refine g_callv (X := _) (As := [.int (Int32.ofInt 1), .int (Int32.ofInt 1)]) (r := []) (b := A 109) (q := 109) 6 (gd rfl) rfl rfl rfl rfl rfl (ww_o rfl) (Nat.le_of_ble_eq_true rfl) (mc := 0) (ms := 0) (Nat.zero_le _) (Nat.zero_le _) (P := fun v u => _) ?_ (fun e u h => h) (fun v u h => h)
      intro po14x3 xx14x3 hp14x3 hx14x3
      refine g_enter2 (k := 270) (N := 300) (by first | exact dq1 hd rfl | exact dq0 hd rfl | exact dq2 hd rfl | exact dq3 hd rfl | omega) rfl (Nat.le_of_ble_eq_true rfl) ?_
      refine g_aload_n 1 (gd rfl) rfl rfl ?_
      refine g_iload_n 2 (gd rfl) rfl rfl ?_
      refine g_if_ne 5 9 (gd rfl) rfl rfl (fun c14x3x2 => ?_) (fun c14x3x2 => ?_)
      · skip
        refine g_iload_n 10 (gd rfl) rfl rfl ?_
        refine g_if_ne 13 17 (gd rfl) rfl rfl (fun c14x3x10 => ?_) (fun c14x3x10 => ?_)
        · skip
          refine g_iconst 0 18 (gd rfl) rfl rfl ?_
          refine g_putI 21 (gd rfl) rfl rfl rfl rfl ?_
          have hI14x3x18 := rng_sF (q := 109) (j := 0) hI.1 rfl (in_w 0 2 (in_c 0 rfl) rfl)
          refine g_aload_n 22 (gd rfl) rfl rfl ?_
          refine g_getI 25 (gd rfl) rfl rfl rfl (fun z14x3x22 e14x3x22 => ?_)
          have q14x3x22 : (Int32.ofInt 0) = z14x3x22 := (sF_get).trans e14x3x22.symm
          subst q14x3x22
          refine g_if_le 28 32 (gd rfl) rfl rfl (fun c14x3x25 => ?_) (fun c14x3x25 => ?_)
          · skip
            refine g_iconst 0 33 (gd rfl) rfl rfl ?_
            refine g_ireturn (gd rfl) rfl (nb01 (in_w 0 1 (in_c 0 rfl) rfl)) (hp14x3 _ _ ?_)
            show GG _ _ _ _ _ _ _ _ [.int (Int32.ofInt 0)] _ _ _
            refine g_ireturn (gd rfl) rfl (nb01 (in_w 0 1 (in_c 0 rfl) rfl)) (hp14 _ _ ?_)
            show GG _ _ _ _ _ _ _ _ [.int (Int32.ofInt 0)] _ _ _
            refine g_if_eq 20 22 (gd rfl) rfl rfl (fun c17 => ?_) (fun c17 => ?_)
            · skip
              refine g_aload_n 23 (gd rfl) rfl rfl ?_
              refine g_iload_n 24 (gd rfl) rfl rfl ?_
              refine g_putI 27 (gd rfl) rfl rfl rfl rfl ?_
              have hI24 := rng_sF (q := 109) (j := 17) hI14x3x18 rfl (in_w (-1) 4000 i11x10b rfl)
              refine g_iload_n 28 (gd rfl) rfl rfl ?_
              refine g_if_lt 31 83 (gd rfl) rfl rfl (fun c28 => ?_) (fun c28 => ?_)
              · skip
                have i28 := z_lt (-1) (-1) c28 i11x10b rfl
                refine g_aload_n 84 (gd rfl) rfl rfl ?_
                have p84 : In ((sF (sF s 109 0 (Int32.ofInt 0)) 109 17 x1).1 110 0) 0 32 ∧ In ((sF (sF s 109 0 (Int32.ofInt 0)) 109 17 x1).1 110 1) 0 32 := by first | (have h := kr_nn hI; exact h) | exact vw_nn (x := y66_2) hI (by exact (have a0 := in_u i28; have a1 := in_u ro_109_9; have a2 := in_u ((in_c 0 rfl)); have a3 := tx_i2l e10; have a4 := tx_i2l e2; have oc := oc_286_109; by omega)) (by rw [← e_109_9]; exact (have a0 := in_u i28; have a1 := in_u ro_109_9; have a2 := in_u ((in_c 0 rfl)); have a3 := tx_i2l e10; have a4 := tx_i2l e2; have oc := oc_286_109; by omega)) g66_0.1 g66_0.2
                refine g_callv (X := _) (As := []) (r := []) (b := A 109) (q := 109) 87 (gd rfl) rfl rfl rfl rfl rfl (ww_o rfl) (Nat.le_of_ble_eq_true rfl) (Nat.zero_le _) (Nat.zero_le _) (k_276 (by first | exact dq1 hd rfl | exact dq0 hd rfl | exact dq2 hd rfl | exact dq3 hd rfl | omega) hI24 p84) (fun e u h => h) (fun v u h => ?_)
                obtain ⟨s84, hI84, hF84, rfl, rfl, p84a⟩ := h
                show GG _ _ _ _ _ _ _ _ [] _ _ _
                refine g_iload_n 88 (gd rfl) rfl rfl ?_
                refine g_if_ge 91 98 (gd rfl) rfl rfl (fun c88 => ?_) (fun c88 => ?_)
                · skip
                  exact zn_ge c88 i28 rfl
                · skip
                  refine g_aload_n 92 (gd rfl) rfl rfl ?_
                  refine g_getI 95 (gd rfl) rfl rfl rfl (fun z92 e92 => ?_)
                  have q92 : u_109_9 = z92 := (fr_F (s := (sF (sF s 109 0 (Int32.ofInt 0)) 109 17 x1)) (sF_ne rfl (sF_ne rfl (e_109_9))) hF84 rfl).trans e92.symm
                  subst q92
                  refine g_goto 99 (gd rfl) rfl ?_
                  have hI99 : Inv s84 := by first | (have hFF : Fr ([], [], [(109, 0), (109, 17)], []) s s84 := (fr_tr rfl (fr_sF rfl (fr_sF rfl fr_rf)) hF84); exact ⟨hI84, kk_all hI.2 hFF rfl⟩) | (have hFF : Fr fm_286 s s84 := (fr_tr rfl (fr_sF rfl (fr_sF rfl fr_rf)) hF84); exact ⟨hI84, kk_g hI.2.1 hFF rfl rfl rfl rfl rfl, kk_g hI.2.2.1 hFF rfl rfl rfl rfl rfl, kk_s hI.2.2.2.1 hFF rfl, lk_kr hI (funext fun q => hF84.1 q rfl) (hFF.2.2.1 109 9 rfl) p84a⟩) | (have hFF : Fr fm_286 s s84 := (fr_tr rfl (fr_sF rfl (fr_sF rfl fr_rf)) hF84); exact ⟨hI84, kk_g hI.2.1 hFF rfl rfl rfl rfl rfl, kk_g hI.2.2.1 hFF rfl rfl rfl rfl rfl, kk_s hI.2.2.2.1 hFF rfl, vw_kr (x := y66_2) hI (in_w 0 4000 j66_2 rfl) (by rw [← e_109_9]; exact (have a0 := in_u i28; have a1 := in_u ro_109_9; have a2 := in_u ((in_c 0 rfl)); have a3 := tx_i2l e10; have a4 := tx_i2l e2; have oc := oc_286_109; by omega)) ((hF84.1 118 rfl).trans (hFc66.1 118 rfl)) ((hF84.1 119 rfl).trans (hFc66.1 119 rfl)) ((hF84.1 120 rfl).trans (hFc66.1 120 rfl)) ((hF84.1 121 rfl).trans (hFc66.1 121 rfl)) (hFF.2.2.1 109 9 rfl) ((congrFun (hF84.1 110 rfl) 0).trans g66_0.1) (by rw [hF84.1 110 rfl]; exact g66_0.2) (fun i hi => by rw [hF84.1 112 rfl, hF84.1 113 rfl, hF84.1 114 rfl]; exact g66_1 i hi) (by rw [hF84.1 112 rfl, hF84.1 113 rfl, hF84.1 114 rfl, hF84.1 110 rfl]; exact g66_2) p84a⟩)
                  have n99 : GEQ (gvR s84) (gvR s) := by rw [gvR_cg hF84 rfl, (gvR_cg (L := ([], [], [(109, 0), (109, 17)], [])) (fr_sF rfl (fr_sF rfl fr_rf)) rfl)]; exact geq_r
                  have n99a : VWQ s s84 x1 u_109_9 := by exact Or.inr ⟨by rw [hF84.2.2.1 109 0 rfl]; rfl, ⟨by exact (have a0 := in_u i28; have a1 := in_u ro_109_9; have a2 := in_u ((in_c 0 rfl)); have a3 := tx_i2l e10; have a4 := tx_i2l e2; have oc := oc_286_109; by omega), by rw [← e_109_9]; exact (have a0 := in_u i28; have a1 := in_u ro_109_9; have a2 := in_u ((in_c 0 rfl)); have a3 := tx_i2l e10; have a4 := tx_i2l e2; have oc := oc_286_109; by omega)⟩, by rw [if_pos (by exact (have a0 := in_u i28; have a1 := in_u ro_109_9; have a2 := in_u ((in_c 0 rfl)); have a3 := tx_i2l e10; have a4 := tx_i2l e2; have oc := oc_286_109; by omega))]; exact e_109_9⟩
                  exact g_ireturn (gd rfl) rfl rfl (hP _ _ ⟨s84, hI99, (fr_tr rfl (fr_sF rfl (fr_sF rfl fr_rf)) hF84), u_109_9, rfl, rfl, in_w 0 4000 ro_109_9 rfl, n99, n99a⟩)
              · skip
                have i28 := z_ge 0 4000 c28 i11x10b rfl
                refine g_aload_n 32 (gd rfl) rfl rfl ?_
                refine g_getA (q2 := 110) 35 (gd rfl) rfl rfl rfl rfl ?_
                refine g_iconst 1 36 (gd rfl) rfl rfl ?_
                refine g_iconst 0 37 (gd rfl) rfl rfl ?_
                refine g_iastore 38 (gd rfl) rfl (n := 3) rfl (in_ix (in_c 1 rfl) rfl) ?_
                have hI37 := rng_sI (q := 110) (j := (Int32.ofInt 1).toNatClampNeg) hI24 rfl (in_w (-2147483648) 2147483647 (in_c 0 rfl) rfl)
                refine g_iconst 0 39 (gd rfl) rfl rfl ?_
                refine g_istore_n 40 (gd rfl) rfl (Nat.le_of_ble_eq_true rfl) ?_
                have n40 : (x1).toInt ≤ (u_109_9).toInt := by exact (have a0 := in_u i28; have a1 := in_u ro_109_9; have a2 := in_u ((in_c 0 rfl)); have a3 := tx_i2l e10; have a4 := tx_i2l e2; have oc := oc_286_109; by omega)
                have n40a : 0 ≤ (x1).toInt := by exact (have a0 := in_u i28; have a1 := in_u ro_109_9; have a2 := in_u ((in_c 0 rfl)); have a3 := tx_i2l e10; have a4 := tx_i2l e2; have oc := oc_286_109; by omega)
                have n40b : (sI (sF (sF s 109 0 (Int32.ofInt 0)) 109 17 x1) 110 (Int32.ofInt 1).toNatClampNeg (Int32.ofInt 0)).1 110 0 = s.1 110 0 ∧ ((sI (sF (sF s 109 0 (Int32.ofInt 0)) 109 17 x1) 110 (Int32.ofInt 1).toNatClampNeg (Int32.ofInt 0)).1 110 1).toInt = 0 := by first | exact g40_0 | exact ⟨rfl, rfl⟩
                have n40c : ∀ i, i < 160 → (sI (sF (sF s 109 0 (Int32.ofInt 0)) 109 17 x1) 110 (Int32.ofInt 1).toNatClampNeg (Int32.ofInt 0)).1 112 i = s.1 112 i ∧ (sI (sF (sF s 109 0 (Int32.ofInt 0)) 109 17 x1) 110 (Int32.ofInt 1).toNatClampNeg (Int32.ofInt 0)).1 113 i = s.1 113 i ∧ (sI (sF (sF s 109 0 (Int32.ofInt 0)) 109 17 x1) 110 (Int32.ofInt 1).toNatClampNeg (Int32.ofInt 0)).1 114 i = s.1 114 i := by first | exact fun i hi => ⟨rfl, rfl, rfl⟩ | (intro i hi; refine ⟨?_, (g40_1 i hi).2⟩; rw [sI_q]; unfold upd; rw [if_neg (by have e5 : z55.toNatClampNeg = z55.toInt.toNat := rfl; exact (have a0 := in_u i28; have a1 := in_u ro_109_9; have a2 := in_u ((in_c 0 rfl)); have a3 := tx_i2l e10; have a4 := tx_i2l e2; have oc := oc_286_109; by omega))]; exact (g40_1 i hi).1)
                have n40d : ∀ j : Nat, (j : Int) < ((Int32.ofInt 0)).toInt → ((sI (sF (sF s 109 0 (Int32.ofInt 0)) 109 17 x1) 110 (Int32.ofInt 1).toNatClampNeg (Int32.ofInt 0)).1 112 (160 + j)).toInt = 0 := by first | (intro j hj; exfalso; have h0 : (Int32.ofInt 0).toInt = 0 := rfl; omega) | (intro j hj; rw [sI_q]; unfold upd; have e5 : z55.toNatClampNeg = z55.toInt.toNat := rfl; by_cases c : 160 + j = z55.toNatClampNeg; (rw [if_pos c]; rfl); (rw [if_neg c]; exact g40_2 j (by exact (have a0 := in_u i28; have a1 := in_u ro_109_9; have a2 := in_u ((in_c 0 rfl)); have a3 := tx_i2l e10; have a4 := tx_i2l e2; have oc := oc_286_109; by omega))))
                have n40e : GEQ (gvR (sI (sF (sF s 109 0 (Int32.ofInt 0)) 109 17 x1) 110 (Int32.ofInt 1).toNatClampNeg (Int32.ofInt 0))) (gvR s) := by first | exact geq_112 (by show 160 ≤ z55.toInt.toNat; exact (have a0 := in_u i28; have a1 := in_u ro_109_9; have a2 := in_u ((in_c 0 rfl)); have a3 := tx_i2l e10; have a4 := tx_i2l e2; have oc := oc_286_109; by omega)) g40_3 | exact geq_110 (by decide) (by rw [(gvR_cg (L := ([], [], [(109, 0), (109, 17)], [])) (fr_sF rfl (fr_sF rfl fr_rf)) rfl)]; exact geq_r)
                have n40f : ((sI (sF (sF s 109 0 (Int32.ofInt 0)) 109 17 x1) 110 (Int32.ofInt 1).toNatClampNeg (Int32.ofInt 0)).2.2.1 109 0).toInt = 0 := by first | exact g40_4 | rfl
                exact gg_w (by first | exact Nat.le_of_ble_eq_true rfl | omega) (gg_f (gf_cons rfl (gf_cons rfl (gf_cons rfl gf_nil))) (ct40 161 (sI (sF (sF s 109 0 (Int32.ofInt 0)) 109 17 x1) 110 (Int32.ofInt 1).toNatClampNeg (Int32.ofInt 0)) (Int32.ofInt 0) hI37 (fr_sI rfl (fr_sF rfl (fr_sF rfl fr_rf))) (in_w 0 4000 i28 rfl) (in_w 0 160 (in_c 0 rfl) rfl) n40 n40a n40b n40c n40d n40e n40f (m_in 161 (in_w 0 160 (in_c 0 rfl) rfl) rfl)))
            · skip
              exact zn_ne c17 (in_c 0 rfl) rfl
          · skip
            exact zn_gt c14x3x25 (in_c 0 rfl) rfl
        · skip
          exact zn_eq c14x3x10 (in_c 1 rfl) rfl
      · skip
        exact zn_eq c14x3x2 (in_c 1 rfl) rfl

theorem oc_134_1_32 : (Int32.ofInt (-1)).toInt = (-1) ∧ (Int32.ofInt 0).toInt = 0 ∧ (Int32.ofInt 1).toInt = 1 := ⟨rfl, rfl, rfl⟩
/-- GraphHouse$Ledger.replay -/
theorem f_134_1_32 {Z : AmZ} {A : Nat → Nat} {s : GS} {ex : va_W} {d : Nat} {X : AmX} {x2 : Int32} {u_32_0 : Int32} {u_32_1 : Int32} {u_2_0 : Int32} {u_30_0 : Int32} (hd : 5 ≤ d) (hI : Inv s) (h2 : In x2 0 4000) (e_32_0 : u_32_0 = s.2.2.1 32 0) (e_32_1 : u_32_1 = s.2.2.1 32 1) (e_2_0 : u_2_0 = s.2.2.1 2 0) (e_30_0 : u_30_0 = s.2.2.1 30 0) (p_0 : (x2).toInt ≤ (u_2_0).toInt) (p_1 : 7 * (u_2_0).toInt ≤ (u_30_0).toInt) (q_0 : KL s) : GC Z d 134 [.ref (A 1), .ref (A 32), .int x2] (WW Z A s ++ ex) 0 0 (fun v u => ∃ t : GS, Inv t ∧ Fr fm_134_1_32 s t ∧ v = none ∧ u = WW Z A t ++ ex ∧ (KL t) ∧ ((t.2.2.1 32 0).toInt = (x2).toInt)) X := by
  intro post xp hP hX
  have ro_2_0 := inv_F hI 0 4000 rfl e_2_0
  have ro_30_0 := inv_F hI 448 28000 rfl e_30_0
  have ct17 : ∀ (k17 : Nat) (sc17 : GS) (y17_3 : Int32) (w17_32_0 : Int32) (w17_32_1 : Int32), Inv sc17 → Fr fm_134_1_32 s sc17 → (In y17_3 0 4000) → (w17_32_0 = sc17.2.2.1 32 0) → (w17_32_1 = sc17.2.2.1 32 1) → ((w17_32_0).toInt = (y17_3).toInt) → ((y17_3).toInt ≤ (x2).toInt) → (KV sc17 32) → 4000 - (y17_3).toInt < (k17 : Int) → GG Z (d - 1) 134 post (gx xp) (1 + k17 * 900) 17 (fun j => xlook j [(0, .ref (A 1)), (1, .ref (A 32)), (2, .int x2), (3, .int y17_3)]) [] (WW Z A sc17 ++ ex) 0 0 := by
    intro k17
    induction k17 with
    | zero => intro sc17 y17_3 w17_32_0 w17_32_1 hIc17 hFc17 j17_3 v17_32_0 v17_32_1 n17_0 n17_1 g17_0 mm17; exact m_no mm17 j17_3 rfl
    | succ k17 ih17 =>
      intro sc17 y17_3 w17_32_0 w17_32_1 hIc17 hFc17 j17_3 v17_32_0 v17_32_1 n17_0 n17_1 g17_0 mm17
      refine gg_w (M := 1 + k17 * 900 + 900) gws ?_
      refine g_iload_n 18 (gd rfl) rfl rfl ?_
      refine g_iload_n 19 (gd rfl) rfl rfl ?_
      refine g_cmp_ge 22 33 (gd rfl) rfl rfl (fun c19 => ?_) (fun c19 => ?_)
      · skip
        have n33 : KL sc17 := by have hFF : Fr fm_134_1_32 s sc17 := hFc17; exact kl_sh q_0 hFF rfl (by rw [← v17_32_0, ← e_2_0]; exact (have a0 := in_u h2; have a1 := in_u ro_30_0; have a2 := in_u ro_2_0; have a3 := in_u ((inv_F hIc17 0 32 rfl v17_32_1)); have a4 := in_u ((inv_F hIc17 0 4000 rfl v17_32_0)); have a5 := in_u j17_3; have oc := oc_134_1_32; by omega)) g17_0
        have n33a : (sc17.2.2.1 32 0).toInt = (x2).toInt := by rw [← v17_32_0]; exact (have a0 := in_u h2; have a1 := in_u ro_30_0; have a2 := in_u ro_2_0; have a3 := in_u ((inv_F hIc17 0 32 rfl v17_32_1)); have a4 := in_u ((inv_F hIc17 0 4000 rfl v17_32_0)); have a5 := in_u j17_3; have oc := oc_134_1_32; by omega)
        exact g_return (gd rfl) rfl (hP _ _ ⟨sc17, hIc17, hFc17, rfl, rfl, n33, n33a⟩)
      · skip
        have i19 := r_lt1 0 3999 c19 j17_3 h2 rfl
        have i19a := r_lt2 1 4000 c19 j17_3 h2 rfl
        refine g_aload_n 23 (gd rfl) rfl rfl ?_
        refine g_aload_n 24 (gd rfl) rfl rfl ?_
        have i24 : In w17_32_0 0 3999 := by exact ⟨by exact (have a0 := in_u i19a; have a1 := in_u ro_30_0; have a2 := in_u ro_2_0; have a3 := in_u ((inv_F hIc17 0 32 rfl v17_32_1)); have a4 := in_u ((inv_F hIc17 0 4000 rfl v17_32_0)); have a5 := in_u i19; have oc := oc_134_1_32; by omega), by exact (have a0 := in_u i19a; have a1 := in_u ro_30_0; have a2 := in_u ro_2_0; have a3 := in_u ((inv_F hIc17 0 32 rfl v17_32_1)); have a4 := in_u ((inv_F hIc17 0 4000 rfl v17_32_0)); have a5 := in_u i19; have oc := oc_134_1_32; by omega)⟩
        have v24 : u_30_0 = sc17.2.2.1 30 0 := fr_F e_30_0 hFc17 rfl
        have n24 : 7 * (w17_32_0).toInt + 7 ≤ (u_30_0).toInt := by exact (have a0 := in_u i19a; have a1 := in_u ro_30_0; have a2 := in_u ro_2_0; have a3 := in_u ((inv_F hIc17 0 32 rfl v17_32_1)); have a4 := in_u i24; have a5 := in_u i19; have oc := oc_134_1_32; by omega)
        have p24 : RW7 (sc17.1 30) (sc17.2.2.1 32 0).toInt.toNat := by rw [hFc17.1 30 rfl]; exact q_0.1 _ (by rw [← v17_32_0, ← e_2_0]; exact (have a0 := in_u i19a; have a1 := in_u ro_30_0; have a2 := in_u ro_2_0; have a3 := in_u ((inv_F hIc17 0 32 rfl v17_32_1)); have a4 := in_u i24; have a5 := in_u i19; have oc := oc_134_1_32; by omega))
        have p24a : KV sc17 32 := by exact g17_0
        refine g_callv (X := _) (As := [.ref (A 32)]) (r := []) (b := A 1) (q := 1) 27 (gd rfl) rfl rfl rfl rfl rfl (ww_o rfl) (Nat.le_of_ble_eq_true rfl) (Nat.zero_le _) (Nat.zero_le _) (k_131_1_32 (by first | exact dq1 hd rfl | exact dq0 hd rfl | exact dq2 hd rfl | exact dq3 hd rfl | omega) hIc17 v17_32_0 v17_32_1 v24 (in_w 0 3999 i24 rfl) n24 p24 p24a) (fun e u h => h) (fun v u h => ?_)
        obtain ⟨s24, hI24, hF24, n24a, rfl, rfl, p24b⟩ := h
        obtain ⟨z24a, e24⟩ : ∃ w, w = s24.2.2.1 32 0 := ⟨_, rfl⟩
        have i24b := inv_F hI24 0 4000 rfl e24
        rw [← (show w17_32_0 = sc17.2.2.1 32 0 from v17_32_0)] at n24a
        rw [← (show z24a = s24.2.2.1 32 0 from e24)] at n24a
        show GG _ _ _ _ _ _ _ _ [] _ _ _
        refine g_iinc 30 (gd rfl) rfl rfl (Nat.le_of_ble_eq_true rfl) (fun z27 e27 => ?_)
        have i27 := in_add 1 4000 e27 i19 (in_c 1 rfl) rfl rfl
        refine g_goto 17 (gd rfl) rfl ?_
        have n17 : (z24a).toInt = (z27).toInt := by exact (have a0 := in_u i19a; have a1 := in_u ro_30_0; have a2 := in_u ro_2_0; have a3 := in_u ((inv_F hIc17 0 32 rfl v17_32_1)); have a4 := in_u i24; have a5 := in_u i19; have a6 := in_u i27; have a7 := t_add e27 i19 (in_c 1 rfl) rfl; have a8 := in_u ((in_c 1 rfl)); have a9 := in_u i24b; have oc := oc_134_1_32; by omega)
        have n17a : (z27).toInt ≤ (x2).toInt := by exact (have a0 := in_u i19a; have a1 := in_u ro_30_0; have a2 := in_u ro_2_0; have a3 := in_u ((inv_F hIc17 0 32 rfl v17_32_1)); have a4 := in_u i24; have a5 := in_u i19; have a6 := in_u i27; have a7 := t_add e27 i19 (in_c 1 rfl) rfl; have a8 := in_u ((in_c 1 rfl)); have a9 := in_u i24b; have oc := oc_134_1_32; by omega)
        have n17b : KV s24 32 := by exact p24b
        exact gg_w (by first | exact Nat.le_add_right _ _ | exact gw2 | exact gw3 | exact gwe rfl | exact gwf rfl | exact gwg rfl | exact gwh rfl | omega) (gg_f (gf_cons rfl (gf_cons rfl (gf_cons rfl (gf_cons rfl gf_nil)))) (ih17 s24 z27 z24a _ hI24 (fr_tr rfl hFc17 hF24) (in_w 0 4000 i27 rfl) e24 rfl n17 n17a n17b (m_up mm17 (t_add e27 i19 (in_c 1 rfl) rfl) (in_w 1 1 (in_c 1 rfl) rfl))))
  refine g_enter2 (k := 134) (N := 3601801) (by first | exact dq1 hd rfl | exact dq0 hd rfl | exact dq2 hd rfl | exact dq3 hd rfl | omega) rfl (Nat.le_of_ble_eq_true rfl) ?_
  refine g_iload_n 1 (gd rfl) rfl rfl ?_
  refine g_aload_n 2 (gd rfl) rfl rfl ?_
  refine g_getI 5 (gd rfl) rfl rfl rfl (fun z2 e2 => ?_)
  have q2 : u_32_0 = z2 := (e_32_0).trans e2.symm
  subst q2
  refine g_cmp_ge 8 12 (gd rfl) rfl rfl (fun c5 => ?_) (fun c5 => ?_)
  · skip
    refine g_aload_n 13 (gd rfl) rfl rfl ?_
    refine g_getI 16 (gd rfl) rfl rfl rfl (fun z13 e13 => ?_)
    have q13 : u_32_0 = z13 := (e_32_0).trans e13.symm
    subst q13
    refine g_istore_n 17 (gd rfl) rfl (Nat.le_of_ble_eq_true rfl) ?_
    have n17 : (u_32_0).toInt = (u_32_0).toInt := by exact (have a0 := in_u ((inv_F hI 448 28000 rfl e_30_0)); have a1 := in_u ((inv_F hI 0 4000 rfl e_2_0)); have a2 := in_u ((inv_F hI 0 32 rfl e_32_1)); have a3 := in_u ((inv_F hI 0 4000 rfl e_32_0)); have a4 := in_u h2; have oc := oc_134_1_32; by omega)
    have n17a : (u_32_0).toInt ≤ (x2).toInt := by exact (have a0 := in_u ((inv_F hI 448 28000 rfl e_30_0)); have a1 := in_u ((inv_F hI 0 4000 rfl e_2_0)); have a2 := in_u ((inv_F hI 0 32 rfl e_32_1)); have a3 := in_u ((inv_F hI 0 4000 rfl e_32_0)); have a4 := in_u h2; have oc := oc_134_1_32; by omega)
    have n17b : KV s 32 := by exact q_0.2.2.2.2
    exact gg_w (by first | exact Nat.le_of_ble_eq_true rfl | omega) (gg_f (gf_cons rfl (gf_cons rfl (gf_cons rfl (gf_cons rfl gf_nil)))) (ct17 4001 s u_32_0 u_32_0 u_32_1 hI fr_rf (in_w 0 4000 (inv_F hI 0 4000 rfl e_32_0) rfl) e_32_0 e_32_1 n17 n17a n17b (m_in 4001 (in_w 0 4000 (inv_F hI 0 4000 rfl e_32_0) rfl) rfl)))
  · skip
    have i5 := r_lt1 0 3999 c5 h2 (inv_F hI 0 4000 rfl e_32_0) rfl
    have i5a := r_lt2 1 4000 c5 h2 (inv_F hI 0 4000 rfl e_32_0) rfl
    refine g_aload_n 9 (gd rfl) rfl rfl ?_
    refine g_callv (X := _) (As := []) (r := []) (b := A 32) (q := 32) 12 (gd rfl) rfl rfl rfl rfl rfl (ww_o rfl) (Nat.le_of_ble_eq_true rfl) (Nat.zero_le _) (Nat.zero_le _) (k_92_32 (by first | exact dq1 hd rfl | exact dq0 hd rfl | exact dq2 hd rfl | exact dq3 hd rfl | omega) hI ) (fun e u h => h) (fun v u h => ?_)
    obtain ⟨s9, hI9, hF9, n9, rfl, rfl, p9⟩ := h
    obtain ⟨z9a, e9⟩ : ∃ w, w = s9.2.2.1 32 0 := ⟨_, rfl⟩
    have i9a := inv_F hI9 0 4000 rfl e9
    rw [← (show z9a = s9.2.2.1 32 0 from e9)] at n9
    show GG _ _ _ _ _ _ _ _ [] _ _ _
    refine g_aload_n 13 (gd rfl) rfl rfl ?_
    refine g_getI 16 (gd rfl) rfl rfl rfl (fun z13 e13 => ?_)
    have q13 : z9a = z13 := (e9).trans e13.symm
    subst q13
    refine g_istore_n 17 (gd rfl) rfl (Nat.le_of_ble_eq_true rfl) ?_
    have n17 : (z9a).toInt = (z9a).toInt := by exact (have a0 := in_u ((inv_F hI 448 28000 rfl e_30_0)); have a1 := in_u ((inv_F hI 0 4000 rfl e_2_0)); have a2 := in_u ((inv_F hI 0 32 rfl e_32_1)); have a3 := in_u i5a; have a4 := in_u i5; have a5 := in_u i9a; have oc := oc_134_1_32; by omega)
    have n17a : (z9a).toInt ≤ (x2).toInt := by exact (have a0 := in_u ((inv_F hI 448 28000 rfl e_30_0)); have a1 := in_u ((inv_F hI 0 4000 rfl e_2_0)); have a2 := in_u ((inv_F hI 0 32 rfl e_32_1)); have a3 := in_u i5a; have a4 := in_u i5; have a5 := in_u i9a; have oc := oc_134_1_32; by omega)
    have n17b : KV s9 32 := by exact p9
    exact gg_w (by first | exact Nat.le_of_ble_eq_true rfl | omega) (gg_f (gf_cons rfl (gf_cons rfl (gf_cons rfl (gf_cons rfl gf_nil)))) (ct17 4001 s9 z9a z9a _ hI9 (fr_tr rfl fr_rf hF9) (in_w 0 4000 i9a rfl) e9 rfl n17 n17a n17b (m_in 4001 (in_w 0 4000 i9a rfl) rfl)))

theorem oc_217_0 : (Int32.ofInt (-1)).toInt = (-1) ∧ (Int32.ofInt 0).toInt = 0 ∧ (Int32.ofInt 1).toInt = 1 := ⟨rfl, rfl, rfl⟩
/-- GraphHouse.view -/
theorem f_217_0 {Z : AmZ} {A : Nat → Nat} {s : GS} {ex : va_W} {d : Nat} {x1 : Int32} {u_2_0 : Int32} {u_32_0 : Int32} {u_32_1 : Int32} {u_30_0 : Int32} (hd : 7 ≤ d) (hI : Inv s) (e_2_0 : u_2_0 = s.2.2.1 2 0) (e_32_0 : u_32_0 = s.2.2.1 32 0) (e_32_1 : u_32_1 = s.2.2.1 32 1) (e_30_0 : u_30_0 = s.2.2.1 30 0) (p_0 : 7 * (u_2_0).toInt ≤ (u_30_0).toInt) (q_0 : KL s) : GC Z d 217 [.ref (A 0), .int x1] (WW Z A s ++ ex) 3 18 (fun v u => ∃ t : GS, Inv t ∧ Fr fm_217_0 s t ∧ ∃ z : Int32, v = some (.int z) ∧ u = WW Z A t ++ ex ∧ In z 0 4000 ∧ (KL t) ∧ ((-1 ≤ (x1).toInt ∧ (x1).toInt ≤ (s.2.2.1 2 0).toInt) ∧ (z) = (if (x1).toInt < 0 then s.2.2.1 2 0 else (x1)))) (gEx Z A ex ([], [], [], []) s (¬ (-1 ≤ x1.toInt ∧ x1.toInt ≤ (s.2.2.1 2 0).toInt)) (False)) := by
  intro post xp hP hX
  have ro_2_0 := inv_F hI 0 4000 rfl e_2_0
  have ro_30_0 := inv_F hI 448 28000 rfl e_30_0
  refine g_enter2 (k := 217) (N := 900) (by first | exact dq1 hd rfl | exact dq0 hd rfl | exact dq2 hd rfl | exact dq3 hd rfl | omega) rfl (Nat.le_of_ble_eq_true rfl) ?_
  refine g_iload_n 1 (gd rfl) rfl rfl ?_
  refine g_iconst (-1) 2 (gd rfl) rfl rfl ?_
  refine g_cmp_lt 5 23 (gd rfl) rfl rfl (fun c2 => ?_) (fun c2 => ?_)
  · skip
    have i2 := r_lt1 (-2147483648) (-2) c2 (i_rng x1) (in_c (-1) rfl) rfl
    refine g_iconst 0 24 (gd rfl) rfl rfl ?_
    refine g_thr (E := am_IA) (y := yX11_allow) 27 (gd rfl) rfl rfl (Or.inl ⟨rfl, rfl, rfl⟩) (by first | exact dq1 hd rfl | exact dq0 hd rfl | exact dq2 hd rfl | exact dq3 hd rfl | omega) (Nat.le_of_ble_eq_true rfl) (Nat.le_of_ble_eq_true rfl) (Nat.le_of_ble_eq_true rfl) (fun c24 => ?_) (fun c24 => ?_)
    · skip
      exact zn_ne c24 (in_c 0 rfl) rfl
    · skip
      have n24 : ¬ (-1 ≤ x1.toInt ∧ x1.toInt ≤ (s.2.2.1 2 0).toInt) := by rw [← e_2_0]; exact (have a0 := in_u ((inv_F hI 448 28000 rfl e_30_0)); have a1 := in_u ((inv_F hI 0 32 rfl e_32_1)); have a2 := in_u ((inv_F hI 0 4000 rfl e_32_0)); have a3 := in_u ((inv_F hI 0 4000 rfl e_2_0)); have a4 := in_u i2; have oc := oc_217_0; by omega)
      exact (hX _ _ ⟨Or.inl ⟨rfl, n24⟩, s, hI, fr_rf, rfl⟩)
  · skip
    have i2 := r_le2 (-1) 2147483647 c2 (in_c (-1) rfl) (i_rng x1) rfl
    refine g_iload_n 6 (gd rfl) rfl rfl ?_
    refine g_aload_n 7 (gd rfl) rfl rfl ?_
    refine g_getA (q2 := 1) 10 (gd rfl) rfl rfl rfl rfl ?_
    refine g_getA (q2 := 2) 13 (gd rfl) rfl rfl rfl rfl ?_
    refine g_getI 16 (gd rfl) rfl rfl rfl (fun z13 e13 => ?_)
    have q13 : u_2_0 = z13 := (e_2_0).trans e13.symm
    subst q13
    refine g_cmp_gt 19 23 (gd rfl) rfl rfl (fun c16 => ?_) (fun c16 => ?_)
    · skip
      have i16 := r_lt2 1 2147483647 c16 (inv_F hI 0 4000 rfl e_2_0) i2 rfl
      refine g_iconst 0 24 (gd rfl) rfl rfl ?_
      refine g_thr (E := am_IA) (y := yX11_allow) 27 (gd rfl) rfl rfl (Or.inl ⟨rfl, rfl, rfl⟩) (by first | exact dq1 hd rfl | exact dq0 hd rfl | exact dq2 hd rfl | exact dq3 hd rfl | omega) (Nat.le_of_ble_eq_true rfl) (Nat.le_of_ble_eq_true rfl) (Nat.le_of_ble_eq_true rfl) (fun c24 => ?_) (fun c24 => ?_)
      · skip
        exact zn_ne c24 (in_c 0 rfl) rfl
      · skip
        have n24 : ¬ (-1 ≤ x1.toInt ∧ x1.toInt ≤ (s.2.2.1 2 0).toInt) := by rw [← e_2_0]; exact (have a0 := in_u ((inv_F hI 448 28000 rfl e_30_0)); have a1 := in_u ((inv_F hI 0 32 rfl e_32_1)); have a2 := in_u ((inv_F hI 0 4000 rfl e_32_0)); have a3 := in_u ((inv_F hI 0 4000 rfl e_2_0)); have a4 := in_u i16; have oc := oc_217_0; by omega)
        exact (hX _ _ ⟨Or.inl ⟨rfl, n24⟩, s, hI, fr_rf, rfl⟩)
    · skip
      have i16 := r_le1 (-1) 4000 c16 i2 (inv_F hI 0 4000 rfl e_2_0) rfl
      refine g_iconst 1 20 (gd rfl) rfl rfl ?_
      refine g_goto 24 (gd rfl) rfl ?_
      refine g_thr (E := am_IA) (y := yX11_allow) 27 (gd rfl) rfl rfl (Or.inl ⟨rfl, rfl, rfl⟩) (by first | exact dq1 hd rfl | exact dq0 hd rfl | exact dq2 hd rfl | exact dq3 hd rfl | omega) (Nat.le_of_ble_eq_true rfl) (Nat.le_of_ble_eq_true rfl) (Nat.le_of_ble_eq_true rfl) (fun c24 => ?_) (fun c24 => ?_)
      · skip
        refine g_aload_n 28 (gd rfl) rfl rfl ?_
        refine g_iload_n 29 (gd rfl) rfl rfl ?_
        refine g_putI 32 (gd rfl) rfl rfl rfl rfl ?_
        have hI29 := inv_sF (q := 0) (j := 2) hI rfl (in_w (-1) 4000 i16 rfl)
        refine g_iload_n 33 (gd rfl) rfl rfl ?_
        refine g_iconst (-1) 34 (gd rfl) rfl rfl ?_
        refine g_cmp_eq 37 49 (gd rfl) rfl rfl (fun c34 => ?_) (fun c34 => ?_)
        · skip
          have i34 := r_eq1 (-1) (-1) c34 i16 (in_c (-1) rfl) rfl
          refine g_aload_n 50 (gd rfl) rfl rfl ?_
          refine g_callv (X := _) (As := []) (r := []) (b := A 0) (q := 0) 53 (gd rfl) rfl rfl rfl rfl rfl (ww_o rfl) (Nat.le_of_ble_eq_true rfl) (mc := 0) (ms := 0) (Nat.zero_le _) (Nat.zero_le _) (P := fun v u => _) ?_ (fun e u h => h) (fun v u h => h)
          intro po50 xx50 hp50 hx50
          refine g_enter2 (k := 259) (N := 300) (by first | exact dq1 hd rfl | exact dq0 hd rfl | exact dq2 hd rfl | exact dq3 hd rfl | omega) rfl (Nat.le_of_ble_eq_true rfl) ?_
          refine g_aload_n 1 (gd rfl) rfl rfl ?_
          refine g_getI 4 (gd rfl) rfl rfl rfl (fun z50x1 e50x1 => ?_)
          have q50x1 : x1 = z50x1 := (sF_get).trans e50x1.symm
          subst q50x1
          refine g_iconst (-1) 5 (gd rfl) rfl rfl ?_
          refine g_cmp_ne 8 18 (gd rfl) rfl rfl (fun c50x5 => ?_) (fun c50x5 => ?_)
          · skip
            exact n_ne c50x5 i34 (in_c (-1) rfl) rfl
          · skip
            refine g_aload_n 9 (gd rfl) rfl rfl ?_
            refine g_getA (q2 := 1) 12 (gd rfl) rfl rfl rfl rfl ?_
            refine g_getA (q2 := 2) 15 (gd rfl) rfl rfl rfl rfl ?_
            refine g_goto 22 (gd rfl) rfl ?_
            refine g_areturn (gd rfl) rfl (hp50 _ _ ?_)
            show GG _ _ _ _ _ _ _ _ [.ref (A 2)] _ _ _
            refine g_getI 56 (gd rfl) rfl rfl rfl (fun z53 e53 => ?_)
            have q53 : u_2_0 = z53 := (sF_ne rfl (e_2_0)).trans e53.symm
            subst q53
            have n56 : KL (sF s 0 2 x1) := by exact kl_fr q_0 (show Fr ([], [], [(0, 2)], []) s (sF s 0 2 x1) from (fr_sF rfl fr_rf)) rfl
            have n56a : (-1 ≤ (x1).toInt ∧ (x1).toInt ≤ (s.2.2.1 2 0).toInt) ∧ (u_2_0) = (if (x1).toInt < 0 then s.2.2.1 2 0 else (x1)) := by exact ⟨⟨by exact (have a0 := in_u i34; have a1 := in_u ((inv_F hI 448 28000 rfl e_30_0)); have a2 := in_u ((inv_F hI 0 32 rfl e_32_1)); have a3 := in_u ((inv_F hI 0 4000 rfl e_32_0)); have a4 := in_u ((inv_F hI 0 4000 rfl e_2_0)); have oc := oc_217_0; by omega), by rw [← e_2_0]; exact (have a0 := in_u i34; have a1 := in_u ((inv_F hI 448 28000 rfl e_30_0)); have a2 := in_u ((inv_F hI 0 32 rfl e_32_1)); have a3 := in_u ((inv_F hI 0 4000 rfl e_32_0)); have a4 := in_u ((inv_F hI 0 4000 rfl e_2_0)); have oc := oc_217_0; by omega)⟩, by rw [if_pos (by exact (have a0 := in_u i34; have a1 := in_u ((inv_F hI 448 28000 rfl e_30_0)); have a2 := in_u ((inv_F hI 0 32 rfl e_32_1)); have a3 := in_u ((inv_F hI 0 4000 rfl e_32_0)); have a4 := in_u ((inv_F hI 0 4000 rfl e_2_0)); have oc := oc_217_0; by omega))]; exact e_2_0⟩
            exact g_ireturn (gd rfl) rfl rfl (hP _ _ ⟨(sF s 0 2 x1), hI29, (fr_sF rfl fr_rf), u_2_0, rfl, rfl, in_w 0 4000 (inv_F hI 0 4000 rfl e_2_0) rfl, n56, n56a⟩)
        · skip
          have i34 := r_ne1 0 4000 c34 i16 (in_c (-1) rfl) rfl
          refine g_aload_n 38 (gd rfl) rfl rfl ?_
          refine g_getA (q2 := 1) 41 (gd rfl) rfl rfl rfl rfl ?_
          refine g_aload_n 42 (gd rfl) rfl rfl ?_
          refine g_getA (q2 := 32) 45 (gd rfl) rfl rfl rfl rfl ?_
          refine g_iload_n 46 (gd rfl) rfl rfl ?_
          have v46 : u_32_0 = (sF s 0 2 x1).2.2.1 32 0 := sF_ne rfl (e_32_0)
          have v46a : u_32_1 = (sF s 0 2 x1).2.2.1 32 1 := sF_ne rfl (e_32_1)
          have v46b : u_2_0 = (sF s 0 2 x1).2.2.1 2 0 := sF_ne rfl (e_2_0)
          have v46c : u_30_0 = (sF s 0 2 x1).2.2.1 30 0 := sF_ne rfl (e_30_0)
          have n46 : (x1).toInt ≤ (u_2_0).toInt := by exact (have a0 := in_u i34; have a1 := in_u ((inv_F hI 448 28000 rfl e_30_0)); have a2 := in_u ((inv_F hI 0 32 rfl e_32_1)); have a3 := in_u ((inv_F hI 0 4000 rfl e_32_0)); have a4 := in_u ((inv_F hI 0 4000 rfl e_2_0)); have oc := oc_217_0; by omega)
          have n46a : 7 * (u_2_0).toInt ≤ (u_30_0).toInt := by exact (have a0 := in_u i34; have a1 := in_u ((inv_F hI 448 28000 rfl e_30_0)); have a2 := in_u ((inv_F hI 0 32 rfl e_32_1)); have a3 := in_u ((inv_F hI 0 4000 rfl e_32_0)); have a4 := in_u ((inv_F hI 0 4000 rfl e_2_0)); have oc := oc_217_0; by omega)
          have p46 : KL (sF s 0 2 x1) := by exact kl_fr q_0 (show Fr ([], [], [(0, 2)], []) s (sF s 0 2 x1) from (fr_sF rfl fr_rf)) rfl
          refine g_callv (X := _) (As := [.ref (A 32), .int x1]) (r := []) (b := A 1) (q := 1) 49 (gd rfl) rfl rfl rfl rfl rfl (ww_o rfl) (Nat.le_of_ble_eq_true rfl) (Nat.zero_le _) (Nat.zero_le _) (f_134_1_32 (by first | exact dq1 hd rfl | exact dq0 hd rfl | exact dq2 hd rfl | exact dq3 hd rfl | omega) hI29 (in_w 0 4000 i34 rfl) v46 v46a v46b v46c n46 n46a p46) (fun e u h => h) (fun v u h => ?_)
          obtain ⟨s46, hI46, hF46, rfl, rfl, p46a, p46b⟩ := h
          show GG _ _ _ _ _ _ _ _ [] _ _ _
          refine g_aload_n 50 (gd rfl) rfl rfl ?_
          refine g_callv (X := _) (As := []) (r := []) (b := A 0) (q := 0) 53 (gd rfl) rfl rfl rfl rfl rfl (ww_o rfl) (Nat.le_of_ble_eq_true rfl) (mc := 0) (ms := 0) (Nat.zero_le _) (Nat.zero_le _) (P := fun v u => _) ?_ (fun e u h => h) (fun v u h => h)
          intro po50 xx50 hp50 hx50
          refine g_enter2 (k := 259) (N := 300) (by first | exact dq1 hd rfl | exact dq0 hd rfl | exact dq2 hd rfl | exact dq3 hd rfl | omega) rfl (Nat.le_of_ble_eq_true rfl) ?_
          refine g_aload_n 1 (gd rfl) rfl rfl ?_
          refine g_getI 4 (gd rfl) rfl rfl rfl (fun z50x1 e50x1 => ?_)
          have q50x1 : x1 = z50x1 := (fr_F (s := (sF s 0 2 x1)) (sF_get) hF46 rfl).trans e50x1.symm
          subst q50x1
          refine g_iconst (-1) 5 (gd rfl) rfl rfl ?_
          refine g_cmp_ne 8 18 (gd rfl) rfl rfl (fun c50x5 => ?_) (fun c50x5 => ?_)
          · skip
            refine g_aload_n 19 (gd rfl) rfl rfl ?_
            refine g_getA (q2 := 32) 22 (gd rfl) rfl rfl rfl rfl ?_
            refine g_areturn (gd rfl) rfl (hp50 _ _ ?_)
            show GG _ _ _ _ _ _ _ _ [.ref (A 32)] _ _ _
            refine g_getI 56 (gd rfl) rfl rfl rfl (fun z53 e53 => ?_)
            have i53 := inv_F hI46 0 4000 rfl e53
            have n56 : KL s46 := by exact p46a
            have n56a : (-1 ≤ (x1).toInt ∧ (x1).toInt ≤ (s.2.2.1 2 0).toInt) ∧ (z53) = (if (x1).toInt < 0 then s.2.2.1 2 0 else (x1)) := by exact ⟨⟨by exact (have a0 := in_u i34; have a1 := in_u ((inv_F hI 448 28000 rfl e_30_0)); have a2 := in_u ((inv_F hI 0 32 rfl e_32_1)); have a3 := in_u ((inv_F hI 0 4000 rfl e_32_0)); have a4 := in_u ((inv_F hI 0 4000 rfl e_2_0)); have a5 := in_u i53; have oc := oc_217_0; by omega), by rw [← e_2_0]; exact (have a0 := in_u i34; have a1 := in_u ((inv_F hI 448 28000 rfl e_30_0)); have a2 := in_u ((inv_F hI 0 32 rfl e_32_1)); have a3 := in_u ((inv_F hI 0 4000 rfl e_32_0)); have a4 := in_u ((inv_F hI 0 4000 rfl e_2_0)); have a5 := in_u i53; have oc := oc_217_0; by omega)⟩, by rw [if_neg (by exact (have a0 := in_u i34; have a1 := in_u ((inv_F hI 448 28000 rfl e_30_0)); have a2 := in_u ((inv_F hI 0 32 rfl e_32_1)); have a3 := in_u ((inv_F hI 0 4000 rfl e_32_0)); have a4 := in_u ((inv_F hI 0 4000 rfl e_2_0)); have a5 := in_u i53; have oc := oc_217_0; by omega))]; exact i_eq.mpr (by rw [e53]; exact p46b)⟩
            exact g_ireturn (gd rfl) rfl rfl (hP _ _ ⟨s46, hI46, (fr_tr rfl (fr_sF rfl fr_rf) hF46), z53, rfl, rfl, in_w 0 4000 i53 rfl, n56, n56a⟩)
          · skip
            exact absurd c50x5 c34
      · skip
        exact zn_eq c24 (in_c 1 rfl) rfl
