/-! methods, by vc.py -/
def fm_302 : FM := ([110, 111, 112, 113, 114, 115, 116, 117, 118, 119, 120, 121, 122, 123, 124, 127, 128], [], [(109, 0), (109, 9), (109, 18), (109, 19), (109, 20), (109, 23), (109, 24), (109, 27), (109, 28), (109, 29), (109, 30), (109, 32)], [(109, 31)])
/-- GraphHouseModel.load -/
theorem k_302 {Z : AmZ} {A : Nat → Nat} {s : GS} {ex : va_W} {d : Nat} {X : AmX} {u_109_22 : Int32} (hd : 6 ≤ d) (hI : Inv s) (e_109_22 : u_109_22 = s.2.2.1 109 22) : GC Z d 302 [.ref (A 109)] (WW Z A s ++ ex) 0 0 (fun v u => ∃ t : GS, Inv t ∧ Fr fm_302 s t ∧ ∃ z : Int32, v = some (.int z) ∧ u = WW Z A t ++ ex ∧ In z (-4) 500) X := by
  intro post xp hP hX
  have ro_109_22 := inv_F hI 0 1000 rfl e_109_22
  have ct72 : ∀ (k72 : Nat) (sc72 : GS) (y72_1 : Int32) (w72_109_9 : Int32) (w72_109_32 : Int32), Inv sc72 → Fr fm_302 s sc72 → (In y72_1 0 500) → (w72_109_9 = sc72.2.2.1 109 9) → (w72_109_32 = sc72.2.2.1 109 32) → ((w72_109_9).toInt + (w72_109_32).toInt - (y72_1).toInt ≤ 4000) → (LDK sc72 (sc72.2.2.1 109 32).toNatClampNeg (y72_1).toNatClampNeg) → 500 - (y72_1).toInt < (k72 : Int) → GG Z (d - 1) 302 post (gx xp) (1 + k72 * 900) 72 (fun j => xlook j [(0, .ref (A 109)), (1, .int y72_1)]) [] (WW Z A sc72 ++ ex) 0 0 := by
    intro k72
    induction k72 with
    | zero => intro sc72 y72_1 w72_109_9 w72_109_32 hIc72 hFc72 j72_1 v72_109_9 v72_109_32 n72_0 g72_0 mm72; exact m_no mm72 j72_1 rfl
    | succ k72 ih72 =>
      intro sc72 y72_1 w72_109_9 w72_109_32 hIc72 hFc72 j72_1 v72_109_9 v72_109_32 n72_0 g72_0 mm72
      refine gg_w (M := 1 + k72 * 900 + 900) (by omega) ?_
      refine g_iload_n 73 (gd rfl) rfl rfl ?_
      refine g_aload_n 74 (gd rfl) rfl rfl ?_
      refine g_getI 77 (gd rfl) rfl rfl rfl (fun z74 e74 => ?_)
      have q74 : w72_109_32 = z74 := (v72_109_32).trans e74.symm
      subst q74
      refine g_cmp_ge 80 242 (gd rfl) rfl rfl (fun c77 => ?_) (fun c77 => ?_)
      · skip
        refine g_aload_n 243 (gd rfl) rfl rfl ?_
        refine g_getI 246 (gd rfl) rfl rfl rfl (fun z243 e243 => ?_)
        have q243 : w72_109_32 = z243 := (v72_109_32).trans e243.symm
        subst q243
        exact g_ireturn (gd rfl) rfl rfl (hP _ _ ⟨sc72, hIc72, hFc72, w72_109_32, rfl, rfl, in_w (-4) 500 (inv_F hIc72 0 500 rfl v72_109_32) rfl⟩)
      · skip
        have i77 := r_lt1 0 499 c77 j72_1 (inv_F hIc72 0 500 rfl v72_109_32) rfl
        have i77a := r_lt2 1 500 c77 j72_1 (inv_F hIc72 0 500 rfl v72_109_32) rfl
        have i80 : In w72_109_9 0 3999 := by exact ⟨(inv_F hIc72 0 4000 rfl v72_109_9).1, by have a0 := ro_109_22; unfold In at a0; have a1 := i77a; unfold In at a1; have a2 := (inv_F hIc72 0 4000 rfl v72_109_9); unfold In at a2; have a3 := i77; unfold In at a3; omega⟩
        refine g_iconst 5 81 (gd rfl) rfl rfl ?_
        refine g_iload_n 82 (gd rfl) rfl rfl ?_
        refine g_imul 83 (gd rfl) rfl (fun z82 e82 => ?_)
        have i82 := in_mulc 5 0 2495 (Or.inl e82) i77 rfl rfl
        refine g_istore_n 84 (gd rfl) rfl (Nat.le_of_ble_eq_true rfl) ?_
        have hr := ldk_r g72_0 (show y72_1.toNatClampNeg < (sc72.2.2.1 109 32).toNatClampNeg from (by rw [← v72_109_32]; show y72_1.toInt.toNat < w72_109_32.toInt.toNat; have a0 := ro_109_22; unfold In at a0; have a1 := i77a; unfold In at a1; have a2 := i80; unfold In at a2; have a3 := i77; unfold In at a3; have a4 := i82; unfold In at a4; have a5 := (t_mulc 5 (Or.inl e82) i77 rfl).1; omega)); have hn0 := inv_n0 hIc72
        refine g_aload_n 85 (gd rfl) rfl rfl ?_
        refine g_getA (q2 := 127) 88 (gd rfl) rfl rfl rfl rfl ?_
        refine g_iload_n 89 (gd rfl) rfl rfl ?_
        refine g_iaload 90 (gd rfl) rfl (n := 500) rfl (in_ix i77 rfl) (fun z89 e89 => ?_)
        refine g_lsw [(97, 143), (110, 124), (116, 194)] 213 (gd rfl) rfl rfl rfl ⟨fun c90 => ?_, fun c90_0 => ⟨fun c90 => ?_, fun c90_1 => ⟨fun c90 => ?_, fun c90_2 => ?_⟩⟩⟩
        · skip
          have i90 := sw_eq c90
          refine g_aload_n 144 (gd rfl) rfl rfl ?_
          refine g_iconst 1 145 (gd rfl) rfl rfl ?_
          refine g_aload_n 146 (gd rfl) rfl rfl ?_
          refine g_iconst 0 147 (gd rfl) rfl rfl ?_
          refine g_callv (X := _) (As := [.int (Int32.ofInt 0)]) (r := [.int (Int32.ofInt 1), .ref (A 109)]) (b := A 109) (q := 109) 150 (gd rfl) rfl rfl rfl rfl rfl (ww_o rfl) (Nat.le_of_ble_eq_true rfl) (Nat.zero_le _) (Nat.zero_le _) (k_280 (by omega) hIc72 (in_w 0 2 (in_c 0 rfl) rfl)) (fun e u h => h) (fun v u h => ?_)
          obtain ⟨z147, rfl, rfl, i147, p147⟩ := h
          show GG _ _ _ _ _ _ _ _ [.int z147, .int (Int32.ofInt 1), .ref (A 109)] _ _ _
          have i150 : In z147 0 159 := by have q := (hr.2.1 (show (sc72.1 127 y72_1.toNatClampNeg).toInt = 97 from (by rw [← e89]; exact c90))).1; have p := p147; have r := i147; unfold In at r; have e : z147.toNatClampNeg = z147.toInt.toNat := rfl; have p2 : z147.toNatClampNeg = fpl (thg sc72 0) := p; exact ⟨r.1, by omega⟩
          refine g_aload_n 151 (gd rfl) rfl rfl ?_
          refine g_getA (q2 := 128) 154 (gd rfl) rfl rfl rfl rfl ?_
          refine g_iload_n 155 (gd rfl) rfl rfl ?_
          refine g_iaload 156 (gd rfl) rfl (n := 2500) rfl (in_ix i82 rfl) (fun z155 e155 => ?_)
          have i156 : In z155 0 31 := by have q := (hr.2.1 (show (sc72.1 127 y72_1.toNatClampNeg).toInt = 97 from (by rw [← e89]; exact c90))).2.1; rw [show 5 * y72_1.toNatClampNeg = z82.toNatClampNeg from (by show 5 * y72_1.toInt.toNat = z82.toInt.toNat; have a0 := ro_109_22; unfold In at a0; have a1 := i77a; unfold In at a1; have a2 := i80; unfold In at a2; have a3 := i77; unfold In at a3; have a4 := i82; unfold In at a4; have a5 := (t_mulc 5 (Or.inl e82) i77 rfl).1; omega), ← e155] at q; obtain ⟨q1, q2⟩ := q; exact ⟨q1, by omega⟩
          refine g_aload_n 157 (gd rfl) rfl rfl ?_
          refine g_getA (q2 := 128) 160 (gd rfl) rfl rfl rfl rfl ?_
          refine g_iload_n 161 (gd rfl) rfl rfl ?_
          refine g_iconst 1 162 (gd rfl) rfl rfl ?_
          refine g_iadd 163 (gd rfl) rfl (fun z162 e162 => ?_)
          have i162 := in_add 1 2496 e162 i82 (in_c 1 rfl) rfl rfl
          refine g_iaload 164 (gd rfl) rfl (n := 2500) rfl (in_ix i162 rfl) (fun z163 e163 => ?_)
          have i164 : In z163 0 31 := by have q := (hr.2.1 (show (sc72.1 127 y72_1.toNatClampNeg).toInt = 97 from (by rw [← e89]; exact c90))).2.2.1; rw [show 5 * y72_1.toNatClampNeg + 1 = z162.toNatClampNeg from (by show 5 * y72_1.toInt.toNat + 1 = z162.toInt.toNat; have a0 := ro_109_22; unfold In at a0; have a1 := i77a; unfold In at a1; have a2 := i80; unfold In at a2; have a3 := i77; unfold In at a3; have a4 := i82; unfold In at a4; have a5 := (t_mulc 5 (Or.inl e82) i77 rfl).1; have a6 := i162; unfold In at a6; have a7 := t_add e162 i82 (in_c 1 rfl) rfl; have a8 := (in_c 1 rfl); unfold In at a8; omega), ← e163] at q; obtain ⟨q1, q2⟩ := q; exact ⟨q1, by omega⟩
          refine g_aload_n 165 (gd rfl) rfl rfl ?_
          refine g_getA (q2 := 128) 168 (gd rfl) rfl rfl rfl rfl ?_
          refine g_iload_n 169 (gd rfl) rfl rfl ?_
          refine g_iconst 2 170 (gd rfl) rfl rfl ?_
          refine g_iadd 171 (gd rfl) rfl (fun z170 e170 => ?_)
          have i170 := in_add 2 2497 e170 i82 (in_c 2 rfl) rfl rfl
          refine g_iaload 172 (gd rfl) rfl (n := 2500) rfl (in_ix i170 rfl) (fun z171 e171 => ?_)
          have i172 : In z171 (-1000000) 1000000 := by have q := (hr.2.1 (show (sc72.1 127 y72_1.toNatClampNeg).toInt = 97 from (by rw [← e89]; exact c90))).2.2.2.1; rw [show 5 * y72_1.toNatClampNeg + 2 = z170.toNatClampNeg from (by show 5 * y72_1.toInt.toNat + 2 = z170.toInt.toNat; have a0 := ro_109_22; unfold In at a0; have a1 := i77a; unfold In at a1; have a2 := i80; unfold In at a2; have a3 := i77; unfold In at a3; have a4 := i82; unfold In at a4; have a5 := (t_mulc 5 (Or.inl e82) i77 rfl).1; have a6 := i170; unfold In at a6; have a7 := t_add e170 i82 (in_c 2 rfl) rfl; have a8 := (in_c 2 rfl); unfold In at a8; have a9 := i162; unfold In at a9; have a10 := t_add e162 i82 (in_c 1 rfl) rfl; have a11 := (in_c 1 rfl); unfold In at a11; omega), ← e171] at q; exact q
          refine g_aload_n 173 (gd rfl) rfl rfl ?_
          refine g_getA (q2 := 128) 176 (gd rfl) rfl rfl rfl rfl ?_
          refine g_iload_n 177 (gd rfl) rfl rfl ?_
          refine g_iconst 3 178 (gd rfl) rfl rfl ?_
          refine g_iadd 179 (gd rfl) rfl (fun z178 e178 => ?_)
          have i178 := in_add 3 2498 e178 i82 (in_c 3 rfl) rfl rfl
          refine g_iaload 180 (gd rfl) rfl (n := 2500) rfl (in_ix i178 rfl) (fun z179 e179 => ?_)
          have i180 : In z179 0 1000000 := by have q := (hr.2.1 (show (sc72.1 127 y72_1.toNatClampNeg).toInt = 97 from (by rw [← e89]; exact c90))).2.2.2.2.1; rw [show 5 * y72_1.toNatClampNeg + 3 = z178.toNatClampNeg from (by show 5 * y72_1.toInt.toNat + 3 = z178.toInt.toNat; have a0 := ro_109_22; unfold In at a0; have a1 := i77a; unfold In at a1; have a2 := i80; unfold In at a2; have a3 := i77; unfold In at a3; have a4 := i82; unfold In at a4; have a5 := (t_mulc 5 (Or.inl e82) i77 rfl).1; have a6 := i178; unfold In at a6; have a7 := t_add e178 i82 (in_c 3 rfl) rfl; have a8 := (in_c 3 rfl); unfold In at a8; have a9 := i170; unfold In at a9; have a10 := t_add e170 i82 (in_c 2 rfl) rfl; have a11 := (in_c 2 rfl); unfold In at a11; have a12 := i162; unfold In at a12; have a13 := t_add e162 i82 (in_c 1 rfl) rfl; have a14 := (in_c 1 rfl); unfold In at a14; omega), ← e179] at q; exact q
          refine g_aload_n 181 (gd rfl) rfl rfl ?_
          refine g_getA (q2 := 128) 184 (gd rfl) rfl rfl rfl rfl ?_
          refine g_iload_n 185 (gd rfl) rfl rfl ?_
          refine g_iconst 4 186 (gd rfl) rfl rfl ?_
          refine g_iadd 187 (gd rfl) rfl (fun z186 e186 => ?_)
          have i186 := in_add 4 2499 e186 i82 (in_c 4 rfl) rfl rfl
          refine g_iaload 188 (gd rfl) rfl (n := 2500) rfl (in_ix i186 rfl) (fun z187 e187 => ?_)
          have i188 : In z187 0 25 := by have q := (hr.2.1 (show (sc72.1 127 y72_1.toNatClampNeg).toInt = 97 from (by rw [← e89]; exact c90))).2.2.2.2.2; rw [show 5 * y72_1.toNatClampNeg + 4 = z186.toNatClampNeg from (by show 5 * y72_1.toInt.toNat + 4 = z186.toInt.toNat; have a0 := ro_109_22; unfold In at a0; have a1 := i77a; unfold In at a1; have a2 := i80; unfold In at a2; have a3 := i77; unfold In at a3; have a4 := i82; unfold In at a4; have a5 := (t_mulc 5 (Or.inl e82) i77 rfl).1; have a6 := i186; unfold In at a6; have a7 := t_add e186 i82 (in_c 4 rfl) rfl; have a8 := (in_c 4 rfl); unfold In at a8; have a9 := i178; unfold In at a9; have a10 := t_add e178 i82 (in_c 3 rfl) rfl; have a11 := (in_c 3 rfl); unfold In at a11; have a12 := i170; unfold In at a12; have a13 := t_add e170 i82 (in_c 2 rfl) rfl; have a14 := (in_c 2 rfl); unfold In at a14; have a15 := i162; unfold In at a15; have a16 := t_add e162 i82 (in_c 1 rfl) rfl; have a17 := (in_c 1 rfl); unfold In at a17; omega), ← e187] at q; exact q
          have p188 : MK sc72 (Int32.ofInt 1) z147 z155 z163 := by have q1 := (hr.2.1 (show (sc72.1 127 y72_1.toNatClampNeg).toInt = 97 from (by rw [← e89]; exact c90))).2.1; have q2 := (hr.2.1 (show (sc72.1 127 y72_1.toNatClampNeg).toInt = 97 from (by rw [← e89]; exact c90))).2.2.1; rw [show 5 * y72_1.toNatClampNeg = z82.toNatClampNeg from (by show 5 * y72_1.toInt.toNat = z82.toInt.toNat; have a0 := ro_109_22; unfold In at a0; have a1 := i77a; unfold In at a1; have a2 := i80; unfold In at a2; have a3 := i77; unfold In at a3; have a4 := i82; unfold In at a4; have a5 := (t_mulc 5 (Or.inl e82) i77 rfl).1; have a6 := i186; unfold In at a6; have a7 := t_add e186 i82 (in_c 4 rfl) rfl; have a8 := (in_c 4 rfl); unfold In at a8; have a9 := i178; unfold In at a9; have a10 := t_add e178 i82 (in_c 3 rfl) rfl; have a11 := (in_c 3 rfl); unfold In at a11; have a12 := i170; unfold In at a12; have a13 := t_add e170 i82 (in_c 2 rfl) rfl; have a14 := (in_c 2 rfl); unfold In at a14; have a15 := i162; unfold In at a15; have a16 := t_add e162 i82 (in_c 1 rfl) rfl; have a17 := (in_c 1 rfl); unfold In at a17; omega), ← e155] at q1; rw [show 5 * y72_1.toNatClampNeg + 1 = z162.toNatClampNeg from (by show 5 * y72_1.toInt.toNat + 1 = z162.toInt.toNat; have a0 := ro_109_22; unfold In at a0; have a1 := i77a; unfold In at a1; have a2 := i80; unfold In at a2; have a3 := i77; unfold In at a3; have a4 := i82; unfold In at a4; have a5 := (t_mulc 5 (Or.inl e82) i77 rfl).1; have a6 := i186; unfold In at a6; have a7 := t_add e186 i82 (in_c 4 rfl) rfl; have a8 := (in_c 4 rfl); unfold In at a8; have a9 := i178; unfold In at a9; have a10 := t_add e178 i82 (in_c 3 rfl) rfl; have a11 := (in_c 3 rfl); unfold In at a11; have a12 := i170; unfold In at a12; have a13 := t_add e170 i82 (in_c 2 rfl) rfl; have a14 := (in_c 2 rfl); unfold In at a14; have a15 := i162; unfold In at a15; have a16 := t_add e162 i82 (in_c 1 rfl) rfl; have a17 := (in_c 1 rfl); unfold In at a17; omega), ← e163] at q2; obtain ⟨a1, a2⟩ := q1; obtain ⟨a3, a4⟩ := q2; exact ⟨fun h => absurd h (by decide), fun _ => ⟨by omega, a3, by omega⟩, fun h => absurd h (by decide), fun h => absurd h (by decide), fun h => absurd h (by decide)⟩
          refine g_callv (X := _) (As := [.int (Int32.ofInt 1), .int z147, .int z155, .int z163, .int z171, .int z179, .int z187]) (r := []) (b := A 109) (q := 109) 191 (gd rfl) rfl rfl rfl rfl rfl (ww_o rfl) (Nat.le_of_ble_eq_true rfl) (Nat.zero_le _) (Nat.zero_le _) (k_274 (by omega) hIc72 (in_w 0 4 (in_c 1 rfl) rfl) (in_w 0 159 i150 rfl) (in_w 0 31 i156 rfl) (in_w (-1000000) 1000000 i164 rfl) (in_w (-1000000) 1000000 i172 rfl) (in_w 0 1000000 i180 rfl) (in_w 0 25 i188 rfl) v72_109_9 (in_w 0 3999 i80 rfl) p188) (fun e u h => h) (fun v u h => ?_)
          obtain ⟨s188, hI188, hF188, n188, rfl, rfl, p188a⟩ := h
          obtain ⟨z188a, e188⟩ : ∃ w, w = s188.2.2.1 109 9 := ⟨_, rfl⟩
          have i188b := inv_F hI188 0 4000 rfl e188
          rw [← (show w72_109_9 = sc72.2.2.1 109 9 from v72_109_9)] at n188
          rw [← (show z188a = s188.2.2.1 109 9 from e188)] at n188
          show GG _ _ _ _ _ _ _ _ [] _ _ _
          refine g_goto 236 (gd rfl) rfl ?_
          refine g_iinc 239 (gd rfl) rfl rfl (Nat.le_of_ble_eq_true rfl) (fun z236 e236 => ?_)
          have i236 := in_add 1 500 e236 i77 (in_c 1 rfl) rfl rfl
          refine g_goto 72 (gd rfl) rfl ?_
          have v72 : w72_109_32 = s188.2.2.1 109 32 := fr_F (v72_109_32) hF188 rfl
          have n72 : (z188a).toInt + (w72_109_32).toInt - (z236).toInt ≤ 4000 := by have a0 := ro_109_22; unfold In at a0; have a1 := i77a; unfold In at a1; have a2 := i80; unfold In at a2; have a3 := i77; unfold In at a3; have a4 := i82; unfold In at a4; have a5 := (t_mulc 5 (Or.inl e82) i77 rfl).1; have a6 := i236; unfold In at a6; have a7 := t_add e236 i77 (in_c 1 rfl) rfl; have a8 := (in_c 1 rfl); unfold In at a8; have a9 := i188b; unfold In at a9; have a10 := i186; unfold In at a10; have a11 := t_add e186 i82 (in_c 4 rfl) rfl; have a12 := (in_c 4 rfl); unfold In at a12; have a13 := i178; unfold In at a13; have a14 := t_add e178 i82 (in_c 3 rfl) rfl; have a15 := (in_c 3 rfl); unfold In at a15; have a16 := i170; unfold In at a16; have a17 := t_add e170 i82 (in_c 2 rfl) rfl; have a18 := (in_c 2 rfl); unfold In at a18; have a19 := i162; unfold In at a19; have a20 := t_add e162 i82 (in_c 1 rfl) rfl; omega
          have n72a : LDK s188 (s188.2.2.1 109 32).toNatClampNeg (z236).toNatClampNeg := by rw [hF188.2.2.1 109 32 rfl, show z236.toNatClampNeg = y72_1.toNatClampNeg + 1 from (by show z236.toInt.toNat = y72_1.toInt.toNat + 1; have a0 := ro_109_22; unfold In at a0; have a1 := i77a; unfold In at a1; have a2 := i80; unfold In at a2; have a3 := i77; unfold In at a3; have a4 := i82; unfold In at a4; have a5 := (t_mulc 5 (Or.inl e82) i77 rfl).1; have a6 := i236; unfold In at a6; have a7 := t_add e236 i77 (in_c 1 rfl) rfl; have a8 := (in_c 1 rfl); unfold In at a8; have a9 := i188b; unfold In at a9; have a10 := i186; unfold In at a10; have a11 := t_add e186 i82 (in_c 4 rfl) rfl; have a12 := (in_c 4 rfl); unfold In at a12; have a13 := i178; unfold In at a13; have a14 := t_add e178 i82 (in_c 3 rfl) rfl; have a15 := (in_c 3 rfl); unfold In at a15; have a16 := i170; unfold In at a16; have a17 := t_add e170 i82 (in_c 2 rfl) rfl; have a18 := (in_c 2 rfl); unfold In at a18; have a19 := i162; unfold In at a19; have a20 := t_add e162 i82 (in_c 1 rfl) rfl; omega)]; exact ldk_s g72_0 p188a (hF188.1 127 rfl) (hF188.1 128 rfl) (by have hw := (show (sc72.1 127 y72_1.toNatClampNeg).toInt = 97 from (by rw [← e89]; exact c90)); exact ⟨fun h => (by omega), fun _ => ⟨by decide, p147⟩, fun h => (by omega), fun _ h _ => absurd hw h⟩)
          exact gg_w (by omega) (gg_f (gf_cons rfl (gf_cons rfl gf_nil)) (ih72 s188 z236 z188a w72_109_32 hI188 (fr_tr rfl hFc72 hF188) (in_w 0 500 i236 rfl) e188 v72 n72 n72a (m_up mm72 (t_add e236 i77 (in_c 1 rfl) rfl) (in_w 1 1 (in_c 1 rfl) rfl))))
        · skip
          have i90 := sw_eq c90
          refine g_aload_n 125 (gd rfl) rfl rfl ?_
          refine g_iconst 0 126 (gd rfl) rfl rfl ?_
          refine g_aload_n 127 (gd rfl) rfl rfl ?_
          refine g_getA (q2 := 128) 130 (gd rfl) rfl rfl rfl rfl ?_
          refine g_iload_n 131 (gd rfl) rfl rfl ?_
          refine g_iaload 132 (gd rfl) rfl (n := 2500) rfl (in_ix i82 rfl) (fun z131 e131 => ?_)
          have i132 : In z131 0 25 := by have q := (hr.1 (show (sc72.1 127 y72_1.toNatClampNeg).toInt = 110 from (by rw [← e89]; exact c90))).1; rw [show 5 * y72_1.toNatClampNeg = z82.toNatClampNeg from (by show 5 * y72_1.toInt.toNat = z82.toInt.toNat; have a0 := ro_109_22; unfold In at a0; have a1 := i77a; unfold In at a1; have a2 := i80; unfold In at a2; have a3 := i77; unfold In at a3; have a4 := i82; unfold In at a4; have a5 := (t_mulc 5 (Or.inl e82) i77 rfl).1; omega), ← e131] at q; exact q
          refine g_iconst 0 133 (gd rfl) rfl rfl ?_
          refine g_iconst 0 134 (gd rfl) rfl rfl ?_
          refine g_iconst 0 135 (gd rfl) rfl rfl ?_
          refine g_iconst 0 136 (gd rfl) rfl rfl ?_
          refine g_iconst 0 137 (gd rfl) rfl rfl ?_
          have p137 : MK sc72 (Int32.ofInt 0) z131 (Int32.ofInt 0) (Int32.ofInt 0) := by refine ⟨fun _ => ⟨(by have q := (hr.1 (show (sc72.1 127 y72_1.toNatClampNeg).toInt = 110 from (by rw [← e89]; exact c90))).1; rw [show 5 * y72_1.toNatClampNeg = z82.toNatClampNeg from (by show 5 * y72_1.toInt.toNat = z82.toInt.toNat; have a0 := ro_109_22; unfold In at a0; have a1 := i77a; unfold In at a1; have a2 := i80; unfold In at a2; have a3 := i77; unfold In at a3; have a4 := i82; unfold In at a4; have a5 := (t_mulc 5 (Or.inl e82) i77 rfl).1; omega), ← e131] at q; exact q.2), (hr.1 (show (sc72.1 127 y72_1.toNatClampNeg).toInt = 110 from (by rw [← e89]; exact c90))).2⟩, fun h => absurd h (by decide), fun h => absurd h (by decide), fun h => absurd h (by decide), fun h => absurd h (by decide)⟩
          refine g_callv (X := _) (As := [.int (Int32.ofInt 0), .int z131, .int (Int32.ofInt 0), .int (Int32.ofInt 0), .int (Int32.ofInt 0), .int (Int32.ofInt 0), .int (Int32.ofInt 0)]) (r := []) (b := A 109) (q := 109) 140 (gd rfl) rfl rfl rfl rfl rfl (ww_o rfl) (Nat.le_of_ble_eq_true rfl) (Nat.zero_le _) (Nat.zero_le _) (k_274 (by omega) hIc72 (in_w 0 4 (in_c 0 rfl) rfl) (in_w 0 159 i132 rfl) (in_w 0 31 (in_c 0 rfl) rfl) (in_w (-1000000) 1000000 (in_c 0 rfl) rfl) (in_w (-1000000) 1000000 (in_c 0 rfl) rfl) (in_w 0 1000000 (in_c 0 rfl) rfl) (in_w 0 25 (in_c 0 rfl) rfl) v72_109_9 (in_w 0 3999 i80 rfl) p137) (fun e u h => h) (fun v u h => ?_)
          obtain ⟨s137, hI137, hF137, n137, rfl, rfl, p137a⟩ := h
          obtain ⟨z137a, e137⟩ : ∃ w, w = s137.2.2.1 109 9 := ⟨_, rfl⟩
          have i137a := inv_F hI137 0 4000 rfl e137
          rw [← (show w72_109_9 = sc72.2.2.1 109 9 from v72_109_9)] at n137
          rw [← (show z137a = s137.2.2.1 109 9 from e137)] at n137
          show GG _ _ _ _ _ _ _ _ [] _ _ _
          refine g_goto 236 (gd rfl) rfl ?_
          refine g_iinc 239 (gd rfl) rfl rfl (Nat.le_of_ble_eq_true rfl) (fun z236 e236 => ?_)
          have i236 := in_add 1 500 e236 i77 (in_c 1 rfl) rfl rfl
          refine g_goto 72 (gd rfl) rfl ?_
          have v72 : w72_109_32 = s137.2.2.1 109 32 := fr_F (v72_109_32) hF137 rfl
          have n72 : (z137a).toInt + (w72_109_32).toInt - (z236).toInt ≤ 4000 := by have a0 := ro_109_22; unfold In at a0; have a1 := i77a; unfold In at a1; have a2 := i80; unfold In at a2; have a3 := i77; unfold In at a3; have a4 := i82; unfold In at a4; have a5 := (t_mulc 5 (Or.inl e82) i77 rfl).1; have a6 := i236; unfold In at a6; have a7 := t_add e236 i77 (in_c 1 rfl) rfl; have a8 := (in_c 1 rfl); unfold In at a8; have a9 := i137a; unfold In at a9; omega
          have n72a : LDK s137 (s137.2.2.1 109 32).toNatClampNeg (z236).toNatClampNeg := by rw [hF137.2.2.1 109 32 rfl, show z236.toNatClampNeg = y72_1.toNatClampNeg + 1 from (by show z236.toInt.toNat = y72_1.toInt.toNat + 1; have a0 := ro_109_22; unfold In at a0; have a1 := i77a; unfold In at a1; have a2 := i80; unfold In at a2; have a3 := i77; unfold In at a3; have a4 := i82; unfold In at a4; have a5 := (t_mulc 5 (Or.inl e82) i77 rfl).1; have a6 := i236; unfold In at a6; have a7 := t_add e236 i77 (in_c 1 rfl) rfl; have a8 := (in_c 1 rfl); unfold In at a8; have a9 := i137a; unfold In at a9; omega)]; exact ldk_s g72_0 p137a (hF137.1 127 rfl) (hF137.1 128 rfl) (by have hw := (show (sc72.1 127 y72_1.toNatClampNeg).toInt = 110 from (by rw [← e89]; exact c90)); exact ⟨fun _ => (by decide), fun h => (by omega), fun h => (by omega), fun h _ _ => absurd hw h⟩)
          exact gg_w (by omega) (gg_f (gf_cons rfl (gf_cons rfl gf_nil)) (ih72 s137 z236 z137a w72_109_32 hI137 (fr_tr rfl hFc72 hF137) (in_w 0 500 i236 rfl) e137 v72 n72 n72a (m_up mm72 (t_add e236 i77 (in_c 1 rfl) rfl) (in_w 1 1 (in_c 1 rfl) rfl))))
        · skip
          have i90 := sw_eq c90
          refine g_aload_n 195 (gd rfl) rfl rfl ?_
          refine g_iconst 2 196 (gd rfl) rfl rfl ?_
          refine g_aload_n 197 (gd rfl) rfl rfl ?_
          refine g_getA (q2 := 128) 200 (gd rfl) rfl rfl rfl rfl ?_
          refine g_iload_n 201 (gd rfl) rfl rfl ?_
          refine g_iaload 202 (gd rfl) rfl (n := 2500) rfl (in_ix i82 rfl) (fun z201 e201 => ?_)
          have i202 : In z201 0 159 := by have q := hr.2.2.1 (show (sc72.1 127 y72_1.toNatClampNeg).toInt = 116 from (by rw [← e89]; exact c90)); rw [show 5 * y72_1.toNatClampNeg = z82.toNatClampNeg from (by show 5 * y72_1.toInt.toNat = z82.toInt.toNat; have a0 := ro_109_22; unfold In at a0; have a1 := i77a; unfold In at a1; have a2 := i80; unfold In at a2; have a3 := i77; unfold In at a3; have a4 := i82; unfold In at a4; have a5 := (t_mulc 5 (Or.inl e82) i77 rfl).1; omega), ← e201] at q; exact q
          refine g_iconst 0 203 (gd rfl) rfl rfl ?_
          refine g_iconst 0 204 (gd rfl) rfl rfl ?_
          refine g_iconst 0 205 (gd rfl) rfl rfl ?_
          refine g_iconst 0 206 (gd rfl) rfl rfl ?_
          refine g_iconst 0 207 (gd rfl) rfl rfl ?_
          have p207 : MK sc72 (Int32.ofInt 2) z201 (Int32.ofInt 0) (Int32.ofInt 0) := by exact ⟨fun h => absurd h (by decide), fun h => absurd h (by decide), fun h => absurd h (by decide), fun h => absurd h (by decide), fun h => absurd h (by decide)⟩
          refine g_callv (X := _) (As := [.int (Int32.ofInt 2), .int z201, .int (Int32.ofInt 0), .int (Int32.ofInt 0), .int (Int32.ofInt 0), .int (Int32.ofInt 0), .int (Int32.ofInt 0)]) (r := []) (b := A 109) (q := 109) 210 (gd rfl) rfl rfl rfl rfl rfl (ww_o rfl) (Nat.le_of_ble_eq_true rfl) (Nat.zero_le _) (Nat.zero_le _) (k_274 (by omega) hIc72 (in_w 0 4 (in_c 2 rfl) rfl) (in_w 0 159 i202 rfl) (in_w 0 31 (in_c 0 rfl) rfl) (in_w (-1000000) 1000000 (in_c 0 rfl) rfl) (in_w (-1000000) 1000000 (in_c 0 rfl) rfl) (in_w 0 1000000 (in_c 0 rfl) rfl) (in_w 0 25 (in_c 0 rfl) rfl) v72_109_9 (in_w 0 3999 i80 rfl) p207) (fun e u h => h) (fun v u h => ?_)
          obtain ⟨s207, hI207, hF207, n207, rfl, rfl, p207a⟩ := h
          obtain ⟨z207a, e207⟩ : ∃ w, w = s207.2.2.1 109 9 := ⟨_, rfl⟩
          have i207a := inv_F hI207 0 4000 rfl e207
          rw [← (show w72_109_9 = sc72.2.2.1 109 9 from v72_109_9)] at n207
          rw [← (show z207a = s207.2.2.1 109 9 from e207)] at n207
          show GG _ _ _ _ _ _ _ _ [] _ _ _
          refine g_goto 236 (gd rfl) rfl ?_
          refine g_iinc 239 (gd rfl) rfl rfl (Nat.le_of_ble_eq_true rfl) (fun z236 e236 => ?_)
          have i236 := in_add 1 500 e236 i77 (in_c 1 rfl) rfl rfl
          refine g_goto 72 (gd rfl) rfl ?_
          have v72 : w72_109_32 = s207.2.2.1 109 32 := fr_F (v72_109_32) hF207 rfl
          have n72 : (z207a).toInt + (w72_109_32).toInt - (z236).toInt ≤ 4000 := by have a0 := ro_109_22; unfold In at a0; have a1 := i77a; unfold In at a1; have a2 := i80; unfold In at a2; have a3 := i77; unfold In at a3; have a4 := i82; unfold In at a4; have a5 := (t_mulc 5 (Or.inl e82) i77 rfl).1; have a6 := i236; unfold In at a6; have a7 := t_add e236 i77 (in_c 1 rfl) rfl; have a8 := (in_c 1 rfl); unfold In at a8; have a9 := i207a; unfold In at a9; omega
          have n72a : LDK s207 (s207.2.2.1 109 32).toNatClampNeg (z236).toNatClampNeg := by rw [hF207.2.2.1 109 32 rfl, show z236.toNatClampNeg = y72_1.toNatClampNeg + 1 from (by show z236.toInt.toNat = y72_1.toInt.toNat + 1; have a0 := ro_109_22; unfold In at a0; have a1 := i77a; unfold In at a1; have a2 := i80; unfold In at a2; have a3 := i77; unfold In at a3; have a4 := i82; unfold In at a4; have a5 := (t_mulc 5 (Or.inl e82) i77 rfl).1; have a6 := i236; unfold In at a6; have a7 := t_add e236 i77 (in_c 1 rfl) rfl; have a8 := (in_c 1 rfl); unfold In at a8; have a9 := i207a; unfold In at a9; omega)]; exact ldk_s g72_0 p207a (hF207.1 127 rfl) (hF207.1 128 rfl) (by have hw := (show (sc72.1 127 y72_1.toNatClampNeg).toInt = 116 from (by rw [← e89]; exact c90)); exact ⟨fun h => (by omega), fun h => (by omega), fun _ => ⟨by decide, by rw [show 5 * y72_1.toNatClampNeg = z82.toNatClampNeg from (by show 5 * y72_1.toInt.toNat = z82.toInt.toNat; have a0 := ro_109_22; unfold In at a0; have a1 := i77a; unfold In at a1; have a2 := i80; unfold In at a2; have a3 := i77; unfold In at a3; have a4 := i82; unfold In at a4; have a5 := (t_mulc 5 (Or.inl e82) i77 rfl).1; have a6 := i236; unfold In at a6; have a7 := t_add e236 i77 (in_c 1 rfl) rfl; have a8 := (in_c 1 rfl); unfold In at a8; have a9 := i207a; unfold In at a9; omega), ← e201]⟩, fun _ _ h => absurd hw h⟩)
          exact gg_w (by omega) (gg_f (gf_cons rfl (gf_cons rfl gf_nil)) (ih72 s207 z236 z207a w72_109_32 hI207 (fr_tr rfl hFc72 hF207) (in_w 0 500 i236 rfl) e207 v72 n72 n72a (m_up mm72 (t_add e236 i77 (in_c 1 rfl) rfl) (in_w 1 1 (in_c 1 rfl) rfl))))
        · skip
          refine g_aload_n 214 (gd rfl) rfl rfl ?_
          refine g_iconst 3 215 (gd rfl) rfl rfl ?_
          refine g_aload_n 216 (gd rfl) rfl rfl ?_
          refine g_getA (q2 := 128) 219 (gd rfl) rfl rfl rfl rfl ?_
          refine g_iload_n 220 (gd rfl) rfl rfl ?_
          refine g_iaload 221 (gd rfl) rfl (n := 2500) rfl (in_ix i82 rfl) (fun z220 e220 => ?_)
          have i221 : In z220 0 159 := by have q := (hr.2.2.2 (by rw [← e89]; exact c90_1) (by rw [← e89]; exact c90_0) (by rw [← e89]; exact c90_2)).1; rw [show 5 * y72_1.toNatClampNeg = z82.toNatClampNeg from (by show 5 * y72_1.toInt.toNat = z82.toInt.toNat; have a0 := ro_109_22; unfold In at a0; have a1 := i77a; unfold In at a1; have a2 := i80; unfold In at a2; have a3 := i77; unfold In at a3; have a4 := i82; unfold In at a4; have a5 := (t_mulc 5 (Or.inl e82) i77 rfl).1; omega), ← e220] at q; exact q
          refine g_iconst 0 222 (gd rfl) rfl rfl ?_
          refine g_aload_n 223 (gd rfl) rfl rfl ?_
          refine g_getA (q2 := 128) 226 (gd rfl) rfl rfl rfl rfl ?_
          refine g_iload_n 227 (gd rfl) rfl rfl ?_
          refine g_iconst 1 228 (gd rfl) rfl rfl ?_
          refine g_iadd 229 (gd rfl) rfl (fun z228 e228 => ?_)
          have i228 := in_add 1 2496 e228 i82 (in_c 1 rfl) rfl rfl
          refine g_iaload 230 (gd rfl) rfl (n := 2500) rfl (in_ix i228 rfl) (fun z229 e229 => ?_)
          have i230 : In z229 (-1000000) 1000000 := by have q := (hr.2.2.2 (by rw [← e89]; exact c90_1) (by rw [← e89]; exact c90_0) (by rw [← e89]; exact c90_2)).2; rw [show 5 * y72_1.toNatClampNeg + 1 = z228.toNatClampNeg from (by show 5 * y72_1.toInt.toNat + 1 = z228.toInt.toNat; have a0 := ro_109_22; unfold In at a0; have a1 := i77a; unfold In at a1; have a2 := i80; unfold In at a2; have a3 := i77; unfold In at a3; have a4 := i82; unfold In at a4; have a5 := (t_mulc 5 (Or.inl e82) i77 rfl).1; have a6 := i228; unfold In at a6; have a7 := t_add e228 i82 (in_c 1 rfl) rfl; have a8 := (in_c 1 rfl); unfold In at a8; omega), ← e229] at q; exact q
          refine g_iconst 0 231 (gd rfl) rfl rfl ?_
          refine g_iconst 0 232 (gd rfl) rfl rfl ?_
          refine g_iconst 0 233 (gd rfl) rfl rfl ?_
          have p233 : MK sc72 (Int32.ofInt 3) z220 (Int32.ofInt 0) z229 := by exact ⟨fun h => absurd h (by decide), fun h => absurd h (by decide), fun _ h => absurd h (by decide), fun _ h _ => absurd (by decide) h, fun h => absurd h (by decide)⟩
          refine g_callv (X := _) (As := [.int (Int32.ofInt 3), .int z220, .int (Int32.ofInt 0), .int z229, .int (Int32.ofInt 0), .int (Int32.ofInt 0), .int (Int32.ofInt 0)]) (r := []) (b := A 109) (q := 109) 236 (gd rfl) rfl rfl rfl rfl rfl (ww_o rfl) (Nat.le_of_ble_eq_true rfl) (Nat.zero_le _) (Nat.zero_le _) (k_274 (by omega) hIc72 (in_w 0 4 (in_c 3 rfl) rfl) (in_w 0 159 i221 rfl) (in_w 0 31 (in_c 0 rfl) rfl) (in_w (-1000000) 1000000 i230 rfl) (in_w (-1000000) 1000000 (in_c 0 rfl) rfl) (in_w 0 1000000 (in_c 0 rfl) rfl) (in_w 0 25 (in_c 0 rfl) rfl) v72_109_9 (in_w 0 3999 i80 rfl) p233) (fun e u h => h) (fun v u h => ?_)
          obtain ⟨s233, hI233, hF233, n233, rfl, rfl, p233a⟩ := h
          obtain ⟨z233a, e233⟩ : ∃ w, w = s233.2.2.1 109 9 := ⟨_, rfl⟩
          have i233a := inv_F hI233 0 4000 rfl e233
          rw [← (show w72_109_9 = sc72.2.2.1 109 9 from v72_109_9)] at n233
          rw [← (show z233a = s233.2.2.1 109 9 from e233)] at n233
          show GG _ _ _ _ _ _ _ _ [] _ _ _
          refine g_iinc 239 (gd rfl) rfl rfl (Nat.le_of_ble_eq_true rfl) (fun z236 e236 => ?_)
          have i236 := in_add 1 500 e236 i77 (in_c 1 rfl) rfl rfl
          refine g_goto 72 (gd rfl) rfl ?_
          have v72 : w72_109_32 = s233.2.2.1 109 32 := fr_F (v72_109_32) hF233 rfl
          have n72 : (z233a).toInt + (w72_109_32).toInt - (z236).toInt ≤ 4000 := by have a0 := ro_109_22; unfold In at a0; have a1 := i77a; unfold In at a1; have a2 := i80; unfold In at a2; have a3 := i77; unfold In at a3; have a4 := i82; unfold In at a4; have a5 := (t_mulc 5 (Or.inl e82) i77 rfl).1; have a6 := i236; unfold In at a6; have a7 := t_add e236 i77 (in_c 1 rfl) rfl; have a8 := (in_c 1 rfl); unfold In at a8; have a9 := i233a; unfold In at a9; have a10 := i228; unfold In at a10; have a11 := t_add e228 i82 (in_c 1 rfl) rfl; omega
          have n72a : LDK s233 (s233.2.2.1 109 32).toNatClampNeg (z236).toNatClampNeg := by rw [hF233.2.2.1 109 32 rfl, show z236.toNatClampNeg = y72_1.toNatClampNeg + 1 from (by show z236.toInt.toNat = y72_1.toInt.toNat + 1; have a0 := ro_109_22; unfold In at a0; have a1 := i77a; unfold In at a1; have a2 := i80; unfold In at a2; have a3 := i77; unfold In at a3; have a4 := i82; unfold In at a4; have a5 := (t_mulc 5 (Or.inl e82) i77 rfl).1; have a6 := i236; unfold In at a6; have a7 := t_add e236 i77 (in_c 1 rfl) rfl; have a8 := (in_c 1 rfl); unfold In at a8; have a9 := i233a; unfold In at a9; have a10 := i228; unfold In at a10; have a11 := t_add e228 i82 (in_c 1 rfl) rfl; omega)]; exact ldk_s g72_0 p233a (hF233.1 127 rfl) (hF233.1 128 rfl) (by rw [← e89]; exact ⟨fun h => absurd h c90_1, fun h => absurd h c90_0, fun h => absurd h c90_2, fun _ _ _ => (by decide)⟩)
          exact gg_w (by omega) (gg_f (gf_cons rfl (gf_cons rfl gf_nil)) (ih72 s233 z236 z233a w72_109_32 hI233 (fr_tr rfl hFc72 hF233) (in_w 0 500 i236 rfl) e233 v72 n72 n72a (m_up mm72 (t_add e236 i77 (in_c 1 rfl) rfl) (in_w 1 1 (in_c 1 rfl) rfl))))
  have ct28 : ∀ (k28 : Nat) (sc28 : GS) (w28_109_27 : Int32) (w28_109_23 : Int32) (w28_109_32 : Int32) (w28_109_28 : Int32), Inv sc28 → Fr fm_302 s sc28 → (w28_109_27 = sc28.2.2.1 109 27) → (w28_109_23 = sc28.2.2.1 109 23) → (w28_109_32 = sc28.2.2.1 109 32) → (w28_109_28 = sc28.2.2.1 109 28) → ((w28_109_27).toInt ≤ (u_109_22).toInt) → ((w28_109_28).toInt ≠ 0 → (w28_109_23).toInt = 0 → 3 * (w28_109_32).toInt + 1 ≤ (w28_109_27).toInt) → ((w28_109_23).toInt = 0 → 3 * (w28_109_32).toInt ≤ (w28_109_27).toInt) → ((sc28.2.2.1 109 23).toInt = 0 → LDQ sc28 (sc28.2.2.1 109 32).toNatClampNeg) → ((sc28.2.2.1 109 23).toInt = 0 → (sc28.2.2.1 109 9).toInt + (sc28.2.2.1 109 32).toInt ≤ 4000) → (0 ≤ (sc28.2.2.1 109 23).toInt ∧ (sc28.2.2.1 109 23).toInt ≤ 9) → 10 * ((u_109_22).toInt - (w28_109_27).toInt) + 9 - (w28_109_23).toInt < (k28 : Int) → GG Z (d - 1) 302 post (gx xp) (450902 + k28 * 900) 28 (fun j => xlook j [(0, .ref (A 109))]) [] (WW Z A sc28 ++ ex) 0 0 := by
    intro k28
    induction k28 with
    | zero => intro sc28 w28_109_27 w28_109_23 w28_109_32 w28_109_28 hIc28 hFc28 v28_109_27 v28_109_23 v28_109_32 v28_109_28 n28_0 n28_1 n28_2 g28_0 g28_1 g28_2 mm28; exfalso; have a0 := ro_109_22; unfold In at a0; have a1 := (inv_F hIc28 0 500 rfl v28_109_32); unfold In at a1; have a2 := (inv_F hIc28 0 9 rfl v28_109_23); unfold In at a2; have a3 := (inv_F hIc28 0 1000 rfl v28_109_27); unfold In at a3; omega
    | succ k28 ih28 =>
      intro sc28 w28_109_27 w28_109_23 w28_109_32 w28_109_28 hIc28 hFc28 v28_109_27 v28_109_23 v28_109_32 v28_109_28 n28_0 n28_1 n28_2 g28_0 g28_1 g28_2 mm28
      refine gg_w (M := 450902 + k28 * 900 + 900) (by omega) ?_
      refine g_aload_n 29 (gd rfl) rfl rfl ?_
      refine g_getI 32 (gd rfl) rfl rfl rfl (fun z29 e29 => ?_)
      have q29 : w28_109_28 = z29 := (v28_109_28).trans e29.symm
      subst q29
      refine g_if_eq 35 60 (gd rfl) rfl rfl (fun c32 => ?_) (fun c32 => ?_)
      · skip
        have i32 := z_eq 0 0 c32 (inv_F hIc28 (-2147483648) 2147483647 rfl v28_109_28) rfl
        refine g_aload_n 61 (gd rfl) rfl rfl ?_
        refine g_getI 64 (gd rfl) rfl rfl rfl (fun z61 e61 => ?_)
        have q61 : w28_109_23 = z61 := (v28_109_23).trans e61.symm
        subst q61
        refine g_if_le 67 70 (gd rfl) rfl rfl (fun c64 => ?_) (fun c64 => ?_)
        · skip
          have i64 := z_le 0 0 c64 (inv_F hIc28 0 9 rfl v28_109_23) rfl
          have hfz : (sc28.2.2.1 109 23).toInt = 0 := (by have r := inv_F hIc28 0 9 rfl v28_109_23; unfold In at r; rw [← v28_109_23]; have h := c64; have h0 : (Int32.ofInt 0).toInt = 0 := rfl; omega); have hcc := g28_1 hfz; rw [← v28_109_32] at hcc
          refine g_iconst 0 71 (gd rfl) rfl rfl ?_
          refine g_istore_n 72 (gd rfl) rfl (Nat.le_of_ble_eq_true rfl) ?_
          have n72 : ((sc28.2.2.1 109 9)).toInt + (w28_109_32).toInt - ((Int32.ofInt 0)).toInt ≤ 4000 := by have a0 := ro_109_22; unfold In at a0; have a1 := i32; unfold In at a1; have a2 := (inv_F hIc28 0 500 rfl v28_109_32); unfold In at a2; have a3 := i64; unfold In at a3; have a4 := (inv_F hIc28 0 1000 rfl v28_109_27); unfold In at a4; have a5 := (in_c 0 rfl); unfold In at a5; have a6 := (show In (sc28.2.2.1 109 9) 0 4000 from inv_F hIc28 0 4000 rfl rfl); unfold In at a6; omega
          have n72a : LDK sc28 (sc28.2.2.1 109 32).toNatClampNeg ((Int32.ofInt 0)).toNatClampNeg := by exact ldk_0 (g28_0 hfz)
          exact gg_w (by omega) (gg_f (gf_cons rfl (gf_cons rfl gf_nil)) (ct72 501 sc28 (Int32.ofInt 0) _ w28_109_32 hIc28 hFc28 (in_w 0 500 (in_c 0 rfl) rfl) rfl v28_109_32 n72 n72a (m_in 501 (in_w 0 500 (in_c 0 rfl) rfl) rfl)))
        · skip
          have i64 := z_gt 1 9 c64 (inv_F hIc28 0 9 rfl v28_109_23) rfl
          refine g_bipush (-4) 69 (gd rfl) rfl rfl ?_
          exact g_ireturn (gd rfl) rfl rfl (hP _ _ ⟨sc28, hIc28, hFc28, (Int32.ofInt (-4)), rfl, rfl, in_w (-4) 500 (in_c (-4) rfl) rfl⟩)
      · skip
        refine g_aload_n 36 (gd rfl) rfl rfl ?_
        refine g_getI 39 (gd rfl) rfl rfl rfl (fun z36 e36 => ?_)
        have q36 : w28_109_23 = z36 := (v28_109_23).trans e36.symm
        subst q36
        refine g_if_ne 42 60 (gd rfl) rfl rfl (fun c39 => ?_) (fun c39 => ?_)
        · skip
          have i39 := z_ne 1 9 c39 (inv_F hIc28 0 9 rfl v28_109_23) rfl
          refine g_aload_n 61 (gd rfl) rfl rfl ?_
          refine g_getI 64 (gd rfl) rfl rfl rfl (fun z61 e61 => ?_)
          have q61 : w28_109_23 = z61 := (v28_109_23).trans e61.symm
          subst q61
          refine g_if_le 67 70 (gd rfl) rfl rfl (fun c64 => ?_) (fun c64 => ?_)
          · skip
            exact zn_le c64 i39 rfl
          · skip
            refine g_bipush (-4) 69 (gd rfl) rfl rfl ?_
            exact g_ireturn (gd rfl) rfl rfl (hP _ _ ⟨sc28, hIc28, hFc28, (Int32.ofInt (-4)), rfl, rfl, in_w (-4) 500 (in_c (-4) rfl) rfl⟩)
        · skip
          have i39 := z_eq 0 0 c39 (inv_F hIc28 0 9 rfl v28_109_23) rfl
          refine g_aload_n 43 (gd rfl) rfl rfl ?_
          have v43 : u_109_22 = sc28.2.2.1 109 22 := fr_F e_109_22 hFc28 rfl
          have n43 : (w28_109_27).toInt ≤ (u_109_22).toInt := by have a0 := ro_109_22; unfold In at a0; have a1 := (inv_F hIc28 0 500 rfl v28_109_32); unfold In at a1; have a2 := i39; unfold In at a2; have a3 := (inv_F hIc28 0 1000 rfl v28_109_27); unfold In at a3; omega
          have n43a : 3 * (w28_109_32).toInt + 1 ≤ (w28_109_27).toInt := by have a0 := ro_109_22; unfold In at a0; have a1 := (inv_F hIc28 0 500 rfl v28_109_32); unfold In at a1; have a2 := i39; unfold In at a2; have a3 := (inv_F hIc28 0 1000 rfl v28_109_27); unfold In at a3; omega
          have p43 : LDQ sc28 (sc28.2.2.1 109 32).toNatClampNeg := by exact g28_0 (by rw [← v28_109_23]; exact c39)
          refine g_callv (X := _) (As := []) (r := []) (b := A 109) (q := 109) 46 (gd rfl) rfl rfl rfl rfl rfl (ww_o rfl) (Nat.le_of_ble_eq_true rfl) (Nat.zero_le _) (Nat.zero_le _) (k_304 (by omega) hIc28 v28_109_27 v43 v28_109_32 n43 n43a p43) (fun e u h => h) (fun v u h => ?_)
          obtain ⟨s43, hI43, hF43, n43b, n43c, n43d, n43e, n43f, rfl, rfl, p43a⟩ := h
          obtain ⟨z43a, e43⟩ : ∃ w, w = s43.2.2.1 109 27 := ⟨_, rfl⟩
          have i43a := inv_F hI43 0 1000 rfl e43
          obtain ⟨z43b, e43a⟩ : ∃ w, w = s43.2.2.1 109 23 := ⟨_, rfl⟩
          have i43b := inv_F hI43 0 9 rfl e43a
          obtain ⟨z43c, e43b⟩ : ∃ w, w = s43.2.2.1 109 32 := ⟨_, rfl⟩
          have i43c := inv_F hI43 0 500 rfl e43b
          obtain ⟨z43d, e43c⟩ : ∃ w, w = s43.2.2.1 109 9 := ⟨_, rfl⟩
          have i43d := inv_F hI43 0 4000 rfl e43c
          rw [← (show z43a = s43.2.2.1 109 27 from e43)] at n43b
          rw [← (show u_109_22 = s43.2.2.1 109 22 from fr_F (fr_F e_109_22 hFc28 rfl) hF43 rfl)] at n43b
          rw [← (show w28_109_27 = sc28.2.2.1 109 27 from v28_109_27)] at n43c
          rw [← (show z43a = s43.2.2.1 109 27 from e43)] at n43c
          rw [← (show z43a = s43.2.2.1 109 27 from e43)] at n43d
          rw [← (show z43b = s43.2.2.1 109 23 from e43a)] at n43d
          rw [← (show z43c = s43.2.2.1 109 32 from e43b)] at n43d
          rw [← (show w28_109_27 = sc28.2.2.1 109 27 from v28_109_27)] at n43e
          rw [← (show z43a = s43.2.2.1 109 27 from e43)] at n43e
          rw [← (show z43b = s43.2.2.1 109 23 from e43a)] at n43e
          rw [← (show z43b = s43.2.2.1 109 23 from e43a)] at n43f
          rw [← (show z43c = s43.2.2.1 109 32 from e43b)] at n43f
          rw [← (show z43d = s43.2.2.1 109 9 from e43c)] at n43f
          show GG _ _ _ _ _ _ _ _ [] _ _ _
          refine g_aload_n 47 (gd rfl) rfl rfl ?_
          refine g_getI 50 (gd rfl) rfl rfl rfl (fun z47 e47 => ?_)
          have q47 : z43b = z47 := (e43a).trans e47.symm
          subst q47
          refine g_if_ne 53 28 (gd rfl) rfl rfl (fun c50 => ?_) (fun c50 => ?_)
          · skip
            have i50 := z_ne 1 9 c50 i43b rfl
            have n28 : (z43a).toInt ≤ (u_109_22).toInt := by have a0 := ro_109_22; unfold In at a0; have a1 := (inv_F hIc28 0 500 rfl v28_109_32); unfold In at a1; have a2 := i39; unfold In at a2; have a3 := (inv_F hIc28 0 1000 rfl v28_109_27); unfold In at a3; have a4 := i43d; unfold In at a4; have a5 := i43c; unfold In at a5; have a6 := i50; unfold In at a6; have a7 := i43a; unfold In at a7; omega
            have n28a : ((s43.2.2.1 109 28)).toInt ≠ 0 → (z43b).toInt = 0 → 3 * (z43c).toInt + 1 ≤ (z43a).toInt := by have a0 := ro_109_22; unfold In at a0; have a1 := (inv_F hIc28 0 500 rfl v28_109_32); unfold In at a1; have a2 := i39; unfold In at a2; have a3 := (inv_F hIc28 0 1000 rfl v28_109_27); unfold In at a3; have a4 := i43d; unfold In at a4; have a5 := i43c; unfold In at a5; have a6 := i50; unfold In at a6; have a7 := i43a; unfold In at a7; omega
            have n28b : (z43b).toInt = 0 → 3 * (z43c).toInt ≤ (z43a).toInt := by have a0 := ro_109_22; unfold In at a0; have a1 := (inv_F hIc28 0 500 rfl v28_109_32); unfold In at a1; have a2 := i39; unfold In at a2; have a3 := (inv_F hIc28 0 1000 rfl v28_109_27); unfold In at a3; have a4 := i43d; unfold In at a4; have a5 := i43c; unfold In at a5; have a6 := i50; unfold In at a6; have a7 := i43a; unfold In at a7; omega
            have n28c : (s43.2.2.1 109 23).toInt = 0 → LDQ s43 (s43.2.2.1 109 32).toNatClampNeg := by exact p43a
            have n28d : (s43.2.2.1 109 23).toInt = 0 → (s43.2.2.1 109 9).toInt + (s43.2.2.1 109 32).toInt ≤ 4000 := by (intro hf; rw [← e43a] at hf; rw [← e43c, ← e43b]; exact n43f hf)
            have n28e : 0 ≤ (s43.2.2.1 109 23).toInt ∧ (s43.2.2.1 109 23).toInt ≤ 9 := by exact inv_F hI43 0 9 rfl rfl
            have m28 : 10 * ((u_109_22).toInt - (z43a).toInt) + 9 - (z43b).toInt < ((k28 : Nat) : Int) := by have a0 := ro_109_22; unfold In at a0; have a1 := (inv_F hIc28 0 500 rfl v28_109_32); unfold In at a1; have a2 := i39; unfold In at a2; have a3 := (inv_F hIc28 0 1000 rfl v28_109_27); unfold In at a3; have a4 := i43d; unfold In at a4; have a5 := i43c; unfold In at a5; have a6 := i50; unfold In at a6; have a7 := i43a; unfold In at a7; omega
            exact gg_w (by omega) (gg_f (gf_cons rfl gf_nil) (ih28  s43 z43a z43b z43c _ hI43 (fr_tr rfl hFc28 hF43) e43 e43a e43b rfl n28 n28a n28b n28c n28d n28e m28))
          · skip
            have i50 := z_eq 0 0 c50 i43b rfl
            refine g_aload_n 54 (gd rfl) rfl rfl ?_
            have v54 : u_109_22 = s43.2.2.1 109 22 := fr_F (fr_F e_109_22 hFc28 rfl) hF43 rfl
            have n54 : (z43a).toInt ≤ (u_109_22).toInt := by have a0 := ro_109_22; unfold In at a0; have a1 := (inv_F hIc28 0 500 rfl v28_109_32); unfold In at a1; have a2 := i39; unfold In at a2; have a3 := (inv_F hIc28 0 1000 rfl v28_109_27); unfold In at a3; have a4 := i43d; unfold In at a4; have a5 := i43c; unfold In at a5; have a6 := i50; unfold In at a6; have a7 := i43a; unfold In at a7; omega
            refine g_callv (X := _) (As := []) (r := []) (b := A 109) (q := 109) 57 (gd rfl) rfl rfl rfl rfl rfl (ww_o rfl) (Nat.le_of_ble_eq_true rfl) (Nat.zero_le _) (Nat.zero_le _) (k_299 (by omega) hI43 e43 v54 n54) (fun e u h => h) (fun v u h => ?_)
            obtain ⟨s54, hI54, hF54, n54a, n54b, n54c, n54d, n54e, rfl, rfl⟩ := h
            obtain ⟨z54a, e54⟩ : ∃ w, w = s54.2.2.1 109 27 := ⟨_, rfl⟩
            have i54a := inv_F hI54 0 1000 rfl e54
            obtain ⟨z54b, e54a⟩ : ∃ w, w = s54.2.2.1 109 28 := ⟨_, rfl⟩
            obtain ⟨z54c, e54b⟩ : ∃ w, w = s54.2.2.1 109 30 := ⟨_, rfl⟩
            rw [← (show z54a = s54.2.2.1 109 27 from e54)] at n54a
            rw [← (show u_109_22 = s54.2.2.1 109 22 from fr_F (fr_F (fr_F e_109_22 hFc28 rfl) hF43 rfl) hF54 rfl)] at n54a
            rw [← (show z43a = s43.2.2.1 109 27 from e43)] at n54b
            rw [← (show z54a = s54.2.2.1 109 27 from e54)] at n54b
            rw [← (show z43a = s43.2.2.1 109 27 from e43)] at n54c
            rw [← (show z54a = s54.2.2.1 109 27 from e54)] at n54c
            rw [← (show z54b = s54.2.2.1 109 28 from e54a)] at n54c
            rw [← (show z54b = s54.2.2.1 109 28 from e54a)] at n54d
            rw [← (show z54c = s54.2.2.1 109 30 from e54b)] at n54d
            rw [← (show z54b = s54.2.2.1 109 28 from e54a)] at n54e
            rw [← (show z54c = s54.2.2.1 109 30 from e54b)] at n54e
            show GG _ _ _ _ _ _ _ _ [] _ _ _
            refine g_goto 28 (gd rfl) rfl ?_
            have v28 : z43c = s54.2.2.1 109 32 := fr_F (e43b) hF54 rfl
            have n28 : (z54a).toInt ≤ (u_109_22).toInt := by have a0 := ro_109_22; unfold In at a0; have a1 := (inv_F hIc28 0 500 rfl v28_109_32); unfold In at a1; have a2 := i39; unfold In at a2; have a3 := (inv_F hIc28 0 1000 rfl v28_109_27); unfold In at a3; have a4 := i54a; unfold In at a4; have a5 := i43d; unfold In at a5; have a6 := i43c; unfold In at a6; omega
            have n28a : (z54b).toInt ≠ 0 → ((s54.2.2.1 109 23)).toInt = 0 → 3 * (z43c).toInt + 1 ≤ (z54a).toInt := by have a0 := ro_109_22; unfold In at a0; have a1 := (inv_F hIc28 0 500 rfl v28_109_32); unfold In at a1; have a2 := i39; unfold In at a2; have a3 := (inv_F hIc28 0 1000 rfl v28_109_27); unfold In at a3; have a4 := i54a; unfold In at a4; have a5 := i43d; unfold In at a5; have a6 := i43c; unfold In at a6; have a7 := (show In (s54.2.2.1 109 23) 0 9 from inv_F hI54 0 9 rfl rfl); unfold In at a7; omega
            have n28b : ((s54.2.2.1 109 23)).toInt = 0 → 3 * (z43c).toInt ≤ (z54a).toInt := by have a0 := ro_109_22; unfold In at a0; have a1 := (inv_F hIc28 0 500 rfl v28_109_32); unfold In at a1; have a2 := i39; unfold In at a2; have a3 := (inv_F hIc28 0 1000 rfl v28_109_27); unfold In at a3; have a4 := i54a; unfold In at a4; have a5 := i43d; unfold In at a5; have a6 := i43c; unfold In at a6; have a7 := (show In (s54.2.2.1 109 23) 0 9 from inv_F hI54 0 9 rfl rfl); unfold In at a7; omega
            have n28c : (s54.2.2.1 109 23).toInt = 0 → LDQ s54 (s54.2.2.1 109 32).toNatClampNeg := by (intro _; rw [hF54.2.2.1 109 32 rfl]; exact ldq_cg (p43a (by rw [← e43a]; exact c50)) (hF54.1 110 rfl) (hF54.1 112 rfl) (fun j _ => by rw [hF54.1 127 rfl]) (fun j _ => by rw [hF54.1 128 rfl]))
            have n28d : (s54.2.2.1 109 23).toInt = 0 → (s54.2.2.1 109 9).toInt + (s54.2.2.1 109 32).toInt ≤ 4000 := by (intro _; rw [hF54.2.2.1 109 9 rfl, hF54.2.2.1 109 32 rfl, ← e43c, ← e43b]; exact n43f c50)
            have n28e : 0 ≤ (s54.2.2.1 109 23).toInt ∧ (s54.2.2.1 109 23).toInt ≤ 9 := by exact inv_F hI54 0 9 rfl rfl
            have m28 : 10 * ((u_109_22).toInt - (z54a).toInt) + 9 - ((s54.2.2.1 109 23)).toInt < ((k28 : Nat) : Int) := by have a0 := ro_109_22; unfold In at a0; have a1 := (inv_F hIc28 0 500 rfl v28_109_32); unfold In at a1; have a2 := i39; unfold In at a2; have a3 := (inv_F hIc28 0 1000 rfl v28_109_27); unfold In at a3; have a4 := i54a; unfold In at a4; have a5 := i43d; unfold In at a5; have a6 := i43c; unfold In at a6; have a7 := (show In (s54.2.2.1 109 23) 0 9 from inv_F hI54 0 9 rfl rfl); unfold In at a7; omega
            exact gg_w (by omega) (gg_f (gf_cons rfl gf_nil) (ih28  s54 z54a _ z43c z54b hI54 (fr_tr rfl (fr_tr rfl hFc28 hF43) hF54) e54 rfl v28 e54a n28 n28a n28b n28c n28d n28e m28))
  refine g_enter2 (k := 302) (N := 9469802) (by omega) rfl (Nat.le_of_ble_eq_true rfl) ?_
  refine g_aload_n 1 (gd rfl) rfl rfl ?_
  refine g_iconst 0 2 (gd rfl) rfl rfl ?_
  refine g_putI 5 (gd rfl) rfl rfl rfl rfl ?_
  have hI2 := inv_sF (q := 109) (j := 0) hI rfl (in_w 0 2 (in_c 0 rfl) rfl)
  refine g_aload_n 6 (gd rfl) rfl rfl ?_
  refine g_iconst 0 7 (gd rfl) rfl rfl ?_
  refine g_putI 10 (gd rfl) rfl rfl rfl rfl ?_
  have hI7 := inv_sF (q := 109) (j := 23) hI2 rfl (in_w 0 9 (in_c 0 rfl) rfl)
  refine g_aload_n 11 (gd rfl) rfl rfl ?_
  refine g_iconst 0 12 (gd rfl) rfl rfl ?_
  refine g_putI 15 (gd rfl) rfl rfl rfl rfl ?_
  have hI12 := inv_sF (q := 109) (j := 32) hI7 rfl (in_w 0 500 (in_c 0 rfl) rfl)
  refine g_aload_n 16 (gd rfl) rfl rfl ?_
  refine g_iconst 0 17 (gd rfl) rfl rfl ?_
  refine g_putI 20 (gd rfl) rfl rfl rfl rfl ?_
  have hI17 := inv_sF (q := 109) (j := 27) hI12 rfl (in_w 0 1000 (in_c 0 rfl) rfl)
  refine g_aload_n 21 (gd rfl) rfl rfl ?_
  refine g_callv (X := _) (As := []) (r := []) (b := A 109) (q := 109) 24 (gd rfl) rfl rfl rfl rfl rfl (ww_o rfl) (Nat.le_of_ble_eq_true rfl) (Nat.zero_le _) (Nat.zero_le _) (k_303 (by omega) hI17 ) (fun e u h => h) (fun v u h => ?_)
  obtain ⟨s21, hI21, hF21, rfl, rfl, p21⟩ := h
  show GG _ _ _ _ _ _ _ _ [] _ _ _
  refine g_aload_n 25 (gd rfl) rfl rfl ?_
  have v25 : (Int32.ofInt 0) = s21.2.2.1 109 27 := fr_F (s := (sF (sF (sF (sF s 109 0 (Int32.ofInt 0)) 109 23 (Int32.ofInt 0)) 109 32 (Int32.ofInt 0)) 109 27 (Int32.ofInt 0))) (sF_get) hF21 rfl
  have v25a : u_109_22 = s21.2.2.1 109 22 := fr_F (s := (sF (sF (sF (sF s 109 0 (Int32.ofInt 0)) 109 23 (Int32.ofInt 0)) 109 32 (Int32.ofInt 0)) 109 27 (Int32.ofInt 0))) (sF_ne rfl (sF_ne rfl (sF_ne rfl (sF_ne rfl (e_109_22))))) hF21 rfl
  have n25 : ((Int32.ofInt 0)).toInt ≤ (u_109_22).toInt := by have a0 := (inv_F hI 0 1000 rfl e_109_22); unfold In at a0; have a1 := (in_c 0 rfl); unfold In at a1; omega
  refine g_callv (X := _) (As := []) (r := []) (b := A 109) (q := 109) 28 (gd rfl) rfl rfl rfl rfl rfl (ww_o rfl) (Nat.le_of_ble_eq_true rfl) (Nat.zero_le _) (Nat.zero_le _) (k_299 (by omega) hI21 v25 v25a n25) (fun e u h => h) (fun v u h => ?_)
  obtain ⟨s25, hI25, hF25, n25a, n25b, n25c, n25d, n25e, rfl, rfl⟩ := h
  obtain ⟨z25a, e25⟩ : ∃ w, w = s25.2.2.1 109 27 := ⟨_, rfl⟩
  have i25a := inv_F hI25 0 1000 rfl e25
  obtain ⟨z25b, e25a⟩ : ∃ w, w = s25.2.2.1 109 28 := ⟨_, rfl⟩
  obtain ⟨z25c, e25b⟩ : ∃ w, w = s25.2.2.1 109 30 := ⟨_, rfl⟩
  rw [← (show z25a = s25.2.2.1 109 27 from e25)] at n25a
  rw [← (show u_109_22 = s25.2.2.1 109 22 from fr_F (fr_F (s := (sF (sF (sF (sF s 109 0 (Int32.ofInt 0)) 109 23 (Int32.ofInt 0)) 109 32 (Int32.ofInt 0)) 109 27 (Int32.ofInt 0))) (sF_ne rfl (sF_ne rfl (sF_ne rfl (sF_ne rfl (e_109_22))))) hF21 rfl) hF25 rfl)] at n25a
  rw [← (show (Int32.ofInt 0) = s21.2.2.1 109 27 from fr_F (s := (sF (sF (sF (sF s 109 0 (Int32.ofInt 0)) 109 23 (Int32.ofInt 0)) 109 32 (Int32.ofInt 0)) 109 27 (Int32.ofInt 0))) (sF_get) hF21 rfl)] at n25b
  rw [← (show z25a = s25.2.2.1 109 27 from e25)] at n25b
  rw [← (show (Int32.ofInt 0) = s21.2.2.1 109 27 from fr_F (s := (sF (sF (sF (sF s 109 0 (Int32.ofInt 0)) 109 23 (Int32.ofInt 0)) 109 32 (Int32.ofInt 0)) 109 27 (Int32.ofInt 0))) (sF_get) hF21 rfl)] at n25c
  rw [← (show z25a = s25.2.2.1 109 27 from e25)] at n25c
  rw [← (show z25b = s25.2.2.1 109 28 from e25a)] at n25c
  rw [← (show z25b = s25.2.2.1 109 28 from e25a)] at n25d
  rw [← (show z25c = s25.2.2.1 109 30 from e25b)] at n25d
  rw [← (show z25b = s25.2.2.1 109 28 from e25a)] at n25e
  rw [← (show z25c = s25.2.2.1 109 30 from e25b)] at n25e
  show GG _ _ _ _ _ _ _ _ [] _ _ _
  have v28 : (Int32.ofInt 0) = s25.2.2.1 109 32 := fr_F (fr_F (s := (sF (sF (sF (sF s 109 0 (Int32.ofInt 0)) 109 23 (Int32.ofInt 0)) 109 32 (Int32.ofInt 0)) 109 27 (Int32.ofInt 0))) (sF_ne rfl (sF_get)) hF21 rfl) hF25 rfl
  have n28 : (z25a).toInt ≤ (u_109_22).toInt := by have a0 := (inv_F hI 0 1000 rfl e_109_22); unfold In at a0; have a1 := i25a; unfold In at a1; have a2 := (in_c 0 rfl); unfold In at a2; omega
  have n28a : (z25b).toInt ≠ 0 → ((s25.2.2.1 109 23)).toInt = 0 → 3 * ((Int32.ofInt 0)).toInt + 1 ≤ (z25a).toInt := by have a0 := (inv_F hI 0 1000 rfl e_109_22); unfold In at a0; have a1 := i25a; unfold In at a1; have a2 := (in_c 0 rfl); unfold In at a2; have a3 := (show In (s25.2.2.1 109 23) 0 9 from inv_F hI25 0 9 rfl rfl); unfold In at a3; omega
  have n28b : ((s25.2.2.1 109 23)).toInt = 0 → 3 * ((Int32.ofInt 0)).toInt ≤ (z25a).toInt := by have a0 := (inv_F hI 0 1000 rfl e_109_22); unfold In at a0; have a1 := i25a; unfold In at a1; have a2 := (in_c 0 rfl); unfold In at a2; have a3 := (show In (s25.2.2.1 109 23) 0 9 from inv_F hI25 0 9 rfl rfl); unfold In at a3; omega
  have n28c : (s25.2.2.1 109 23).toInt = 0 → LDQ s25 (s25.2.2.1 109 32).toNatClampNeg := by (intro _; rw [show s25.2.2.1 109 32 = Int32.ofInt 0 from ((hF25.2.2.1 109 32 rfl).trans ((hF21.2.2.1 109 32 rfl).trans (by simp [sF])))]; exact ldq_cg (ldq_0 p21.1 p21.2.1 p21.2.2) (hF25.1 110 rfl) (hF25.1 112 rfl) (fun j _ => by rw [hF25.1 127 rfl]) (fun j _ => by rw [hF25.1 128 rfl]))
  have n28d : (s25.2.2.1 109 23).toInt = 0 → (s25.2.2.1 109 9).toInt + (s25.2.2.1 109 32).toInt ≤ 4000 := by (intro _; rw [show s25.2.2.1 109 32 = Int32.ofInt 0 from ((hF25.2.2.1 109 32 rfl).trans ((hF21.2.2.1 109 32 rfl).trans (by simp [sF])))]; have h := inv_F hI25 (z := s25.2.2.1 109 9) 0 4000 rfl rfl; unfold In at h; have h0 : (Int32.ofInt 0).toInt = 0 := rfl; omega)
  have n28e : 0 ≤ (s25.2.2.1 109 23).toInt ∧ (s25.2.2.1 109 23).toInt ≤ 9 := by exact inv_F hI25 0 9 rfl rfl
  have m28 : 10 * ((u_109_22).toInt - (z25a).toInt) + 9 - ((s25.2.2.1 109 23)).toInt < ((10020 : Nat) : Int) := by have a0 := (inv_F hI 0 1000 rfl e_109_22); unfold In at a0; have a1 := i25a; unfold In at a1; have a2 := (in_c 0 rfl); unfold In at a2; have a3 := (show In (s25.2.2.1 109 23) 0 9 from inv_F hI25 0 9 rfl rfl); unfold In at a3; omega
  exact gg_w (by omega) (gg_f (gf_cons rfl gf_nil) (ct28 10020 s25 z25a _ (Int32.ofInt 0) z25b hI25 (fr_tr rfl (fr_tr rfl (fr_sF rfl (fr_sF rfl (fr_sF rfl (fr_sF rfl fr_rf)))) hF21) hF25) e25 rfl v28 e25a n28 n28a n28b n28c n28d n28e m28))
