/-! methods, by vc.py -/
def fm_344 : FM := ([143, 144, 145, 146], [], [], [])
/-- GraphHouseModel.begin -/
theorem k_344 {Z : AmZ} {A : Nat → Nat} {s : GS} {ex : va_W} {d : Nat} {X : AmX} {x1 : Int32} {x2 : Int32} {x3 : Int32} {x4 : Int32} (hd : 4 ≤ d) (hI : Inv s) (h1 : In x1 0 31) (h2 : In x2 0 31) (h3 : In x3 0 32) (h4 : In x4 0 32) : GC Z d 344 [.ref (A 109), .int x1, .int x2, .int x3, .int x4] (WW Z A s ++ ex) 0 0 (fun v u => ∃ t : GS, Inv t ∧ Fr fm_344 s t ∧ v = none ∧ u = WW Z A t ++ ex ∧ (t.1 144 = upd (s.1 144) (x1).toNatClampNeg (x2) ∧ t.1 143 = upd (s.1 143) (x1).toNatClampNeg (x3)) ∧ (∃ w : Int32, t.1 145 = upd (s.1 145) (x1).toNatClampNeg w ∧ ∀ c : Nat, (bt w c = true ↔ ((c : Int) < (x4).toInt ∧ (c : Int) ≤ (x3).toInt ∧ ¬ BRQ s (x2).toNatClampNeg c))) ∧ (∃ w : Int32, t.1 146 = upd (s.1 146) (x1).toNatClampNeg w ∧ WHY s (x2).toNatClampNeg (x1).toInt w)) X := by
  intro post xp hP hX
  have ct62 : ∀ (k62 : Nat) (sc62 : GS) (y62_5 : Int32) (y62_6 : Int32) (y62_7 : Int32), Inv sc62 → Fr fm_344 s sc62 → (In y62_7 0 31) → ((y62_7).toInt ≤ (x1).toInt) → (sc62.1 144 = upd (s.1 144) (x1).toNatClampNeg (x2) ∧ sc62.1 143 = upd (s.1 143) (x1).toNatClampNeg (x3)) → (∃ w : Int32, sc62.1 145 = upd (s.1 145) (x1).toNatClampNeg w ∧ ∀ c : Nat, (bt w c = true ↔ ((c : Int) < (x4).toInt ∧ (c : Int) ≤ (x3).toInt ∧ ¬ BRQ s (x2).toNatClampNeg c))) → (MET (s.1 144) (y62_7).toInt (y62_6)) → (sc62.1 146 = s.1 146) → 31 - (y62_7).toInt < (k62 : Int) → GG Z (d - 1) 344 post (gx xp) (1 + k62 * 900) 62 (fun j => xlook j [(0, .ref (A 109)), (1, .int x1), (2, .int x2), (3, .int x3), (4, .int x4), (5, .int y62_5), (6, .int y62_6), (7, .int y62_7)]) [] (WW Z A sc62 ++ ex) 0 0 := by
    intro k62
    induction k62 with
    | zero => intro sc62 y62_5 y62_6 y62_7 hIc62 hFc62 j62_7 n62_0 g62_0 g62_1 g62_2 g62_3 mm62; exact m_no mm62 j62_7 rfl
    | succ k62 ih62 =>
      intro sc62 y62_5 y62_6 y62_7 hIc62 hFc62 j62_7 n62_0 g62_0 g62_1 g62_2 g62_3 mm62
      refine gg_w (M := 1 + k62 * 900 + 900) (by omega) ?_
      refine g_iload 64 (gd rfl) rfl rfl ?_
      refine g_iload_n 65 (gd rfl) rfl rfl ?_
      refine g_cmp_ge 68 88 (gd rfl) rfl rfl (fun c65 => ?_) (fun c65 => ?_)
      · skip
        refine g_aload_n 89 (gd rfl) rfl rfl ?_
        refine g_getA (q2 := 146) 92 (gd rfl) rfl rfl rfl rfl ?_
        refine g_iload_n 93 (gd rfl) rfl rfl ?_
        refine g_iload_n 94 (gd rfl) rfl rfl ?_
        refine g_iconst 1 95 (gd rfl) rfl rfl ?_
        refine g_iadd 96 (gd rfl) rfl (fun z95 e95 => ?_)
        have i95 := in_add 1 33 e95 h3 (in_c 1 rfl) rfl rfl
        refine g_iload 98 (gd rfl) rfl rfl ?_
        refine g_cmp_ge 101 106 (gd rfl) rfl rfl (fun c98 => ?_) (fun c98 => ?_)
        · skip
          refine g_iload 108 (gd rfl) rfl rfl ?_
          refine g_aload_n 109 (gd rfl) rfl rfl ?_
          refine g_getA (q2 := 138) 112 (gd rfl) rfl rfl rfl rfl ?_
          refine g_iload_n 113 (gd rfl) rfl rfl ?_
          refine g_iaload 114 (gd rfl) rfl (n := 32) rfl (in_ix h2 rfl) (fun z113 e113 => ?_)
          refine g_iand 115 (gd rfl) rfl (fun z114 e114 => ?_)
          refine g_iastore 116 (gd rfl) rfl (n := 33) rfl (in_ix h1 rfl) ?_
          have hI115 := inv_sI (q := 146) (j := x1.toNatClampNeg) hIc62 rfl (in_w (-2147483648) 2147483647 (i_rng z114) rfl)
          have n116 : (sI sc62 146 x1.toNatClampNeg z114).1 144 = upd (s.1 144) (x1).toNatClampNeg (x2) ∧ (sI sc62 146 x1.toNatClampNeg z114).1 143 = upd (s.1 143) (x1).toNatClampNeg (x3) := by exact ⟨by rw [sI_p rfl]; exact g62_0.1, by rw [sI_p rfl]; exact g62_0.2⟩
          have n116a : ∃ w : Int32, (sI sc62 146 x1.toNatClampNeg z114).1 145 = upd (s.1 145) (x1).toNatClampNeg w ∧ ∀ c : Nat, (bt w c = true ↔ ((c : Int) < (x4).toInt ∧ (c : Int) ≤ (x3).toInt ∧ ¬ BRQ s (x2).toNatClampNeg c)) := by rw [sI_p rfl]; exact g62_1
          have n116b : ∃ w : Int32, (sI sc62 146 x1.toNatClampNeg z114).1 146 = upd (s.1 146) (x1).toNatClampNeg w ∧ WHY s (x2).toNatClampNeg (x1).toInt w := by have hm : MET (s.1 144) x1.toInt y62_6 := (by have h := g62_2; rw [show y62_7.toInt = x1.toInt from (by have a0 := h4; unfold In at a0; have a1 := h3; unfold In at a1; have a2 := h2; unfold In at a2; have a3 := h1; unfold In at a3; have a4 := j62_7; unfold In at a4; have a5 := i95; unfold In at a5; have a6 := t_add e95 h3 (in_c 1 rfl) rfl; have a7 := (in_c 1 rfl); unfold In at a7; omega)] at h; exact h); exact ⟨z114, by rw [sI_q, g62_3], why_2 hm (by rw [e113, hFc62.1 138 rfl]) e114⟩
          exact g_return (gd rfl) rfl (hP _ _ ⟨(sI sc62 146 x1.toNatClampNeg z114), hI115, (fr_sI rfl hFc62), rfl, rfl, n116, n116a, n116b⟩)
        · skip
          have i98 := r_lt1 1 31 c98 i95 h4 rfl
          have i98a := r_lt2 2 32 c98 i95 h4 rfl
          refine g_iload 103 (gd rfl) rfl rfl ?_
          refine g_goto 115 (gd rfl) rfl ?_
          refine g_iastore 116 (gd rfl) rfl (n := 33) rfl (in_ix h1 rfl) ?_
          have hI115 := inv_sI (q := 146) (j := x1.toNatClampNeg) hIc62 rfl (in_w (-2147483648) 2147483647 (i_rng y62_6) rfl)
          have n116 : (sI sc62 146 x1.toNatClampNeg y62_6).1 144 = upd (s.1 144) (x1).toNatClampNeg (x2) ∧ (sI sc62 146 x1.toNatClampNeg y62_6).1 143 = upd (s.1 143) (x1).toNatClampNeg (x3) := by exact ⟨by rw [sI_p rfl]; exact g62_0.1, by rw [sI_p rfl]; exact g62_0.2⟩
          have n116a : ∃ w : Int32, (sI sc62 146 x1.toNatClampNeg y62_6).1 145 = upd (s.1 145) (x1).toNatClampNeg w ∧ ∀ c : Nat, (bt w c = true ↔ ((c : Int) < (x4).toInt ∧ (c : Int) ≤ (x3).toInt ∧ ¬ BRQ s (x2).toNatClampNeg c)) := by rw [sI_p rfl]; exact g62_1
          have n116b : ∃ w : Int32, (sI sc62 146 x1.toNatClampNeg y62_6).1 146 = upd (s.1 146) (x1).toNatClampNeg w ∧ WHY s (x2).toNatClampNeg (x1).toInt w := by have hm : MET (s.1 144) x1.toInt y62_6 := (by have h := g62_2; rw [show y62_7.toInt = x1.toInt from (by have a0 := i98a; unfold In at a0; have a1 := h3; unfold In at a1; have a2 := h2; unfold In at a2; have a3 := h1; unfold In at a3; have a4 := j62_7; unfold In at a4; have a5 := i98; unfold In at a5; have a6 := t_add e95 h3 (in_c 1 rfl) rfl; have a7 := (in_c 1 rfl); unfold In at a7; omega)] at h; exact h); exact ⟨y62_6, by rw [sI_q, g62_3], why_1 hm⟩
          exact g_return (gd rfl) rfl (hP _ _ ⟨(sI sc62 146 x1.toNatClampNeg y62_6), hI115, (fr_sI rfl hFc62), rfl, rfl, n116, n116a, n116b⟩)
      · skip
        have i65 := r_lt1 0 30 c65 j62_7 h1 rfl
        have i65a := r_lt2 1 31 c65 j62_7 h1 rfl
        refine g_iload 70 (gd rfl) rfl rfl ?_
        refine g_iconst 1 71 (gd rfl) rfl rfl ?_
        refine g_aload_n 72 (gd rfl) rfl rfl ?_
        refine g_getA (q2 := 144) 75 (gd rfl) rfl rfl rfl rfl ?_
        refine g_iload 77 (gd rfl) rfl rfl ?_
        refine g_iaload 78 (gd rfl) rfl (n := 33) rfl (in_ix i65 rfl) (fun z77 e77 => ?_)
        have i77 := inv_I hIc62 (n := 33) (t := 0) 0 31 rfl (in_ix i65 rfl) rfl e77
        refine g_ishl 79 (gd rfl) rfl (fun z78 e78 => ?_)
        refine g_ior 80 (gd rfl) rfl (fun z79 e79 => ?_)
        refine g_istore 82 (gd rfl) rfl (Nat.le_of_ble_eq_true rfl) ?_
        refine g_iinc 85 (gd rfl) rfl rfl (Nat.le_of_ble_eq_true rfl) (fun z82 e82 => ?_)
        have i82 := in_add 1 31 e82 i65 (in_c 1 rfl) rfl rfl
        refine g_goto 62 (gd rfl) rfl ?_
        have n62 : (z82).toInt ≤ (x1).toInt := by have a0 := h4; unfold In at a0; have a1 := h3; unfold In at a1; have a2 := h2; unfold In at a2; have a3 := i65a; unfold In at a3; have a4 := i65; unfold In at a4; have a5 := i82; unfold In at a5; have a6 := t_add e82 i65 (in_c 1 rfl) rfl; have a7 := (in_c 1 rfl); unfold In at a7; omega
        have n62a : sc62.1 144 = upd (s.1 144) (x1).toNatClampNeg (x2) ∧ sc62.1 143 = upd (s.1 143) (x1).toNatClampNeg (x3) := by exact g62_0
        have n62b : ∃ w : Int32, sc62.1 145 = upd (s.1 145) (x1).toNatClampNeg w ∧ ∀ c : Nat, (bt w c = true ↔ ((c : Int) < (x4).toInt ∧ (c : Int) ≤ (x3).toInt ∧ ¬ BRQ s (x2).toNatClampNeg c)) := by exact g62_1
        have n62c : MET (s.1 144) (z82).toInt (z79) := by exact met_s g62_2 (by have a0 := h4; unfold In at a0; have a1 := h3; unfold In at a1; have a2 := h2; unfold In at a2; have a3 := i65a; unfold In at a3; have a4 := i65; unfold In at a4; have a5 := i82; unfold In at a5; have a6 := t_add e82 i65 (in_c 1 rfl) rfl; have a7 := (in_c 1 rfl); unfold In at a7; omega) (by have a0 := h4; unfold In at a0; have a1 := h3; unfold In at a1; have a2 := h2; unfold In at a2; have a3 := i65a; unfold In at a3; have a4 := i65; unfold In at a4; have a5 := i82; unfold In at a5; have a6 := t_add e82 i65 (in_c 1 rfl) rfl; have a7 := (in_c 1 rfl); unfold In at a7; omega) (by rw [e77, g62_0.1, up_n (by show y62_7.toInt.toNat ≠ x1.toInt.toNat; have a0 := h4; unfold In at a0; have a1 := h3; unfold In at a1; have a2 := h2; unfold In at a2; have a3 := i65a; unfold In at a3; have a4 := i65; unfold In at a4; have a5 := i82; unfold In at a5; have a6 := t_add e82 i65 (in_c 1 rfl) rfl; have a7 := (in_c 1 rfl); unfold In at a7; omega)]) i77 e78 e79
        have n62d : sc62.1 146 = s.1 146 := by exact g62_3
        exact gg_w (by omega) (gg_f (gf_cons rfl (gf_cons rfl (gf_cons rfl (gf_cons rfl (gf_cons rfl (gf_cons rfl (gf_cons rfl (gf_cons rfl gf_nil)))))))) (ih62 sc62 y62_5 z79 z82 hIc62 hFc62 (in_w 0 31 i82 rfl) n62 n62a n62b n62c n62d (m_up mm62 (t_add e82 i65 (in_c 1 rfl) rfl) (in_w 1 1 (in_c 1 rfl) rfl))))
  refine g_enter2 (k := 344) (N := 29701) (by omega) rfl (Nat.le_of_ble_eq_true rfl) ?_
  refine g_iload 2 (gd rfl) rfl rfl ?_
  refine g_bipush 32 4 (gd rfl) rfl rfl ?_
  refine g_cmp_ne 7 11 (gd rfl) rfl rfl (fun c4 => ?_) (fun c4 => ?_)
  · skip
    have i4 := r_ne1 0 31 c4 h4 (in_c 32 rfl) rfl
    refine g_iconst 1 12 (gd rfl) rfl rfl ?_
    refine g_iload 14 (gd rfl) rfl rfl ?_
    refine g_ishl 15 (gd rfl) rfl (fun z14 e14 => ?_)
    refine g_iconst 1 16 (gd rfl) rfl rfl ?_
    refine g_isub 17 (gd rfl) rfl (fun z16 e16 => ?_)
    refine g_istore 19 (gd rfl) rfl (Nat.le_of_ble_eq_true rfl) ?_
    refine g_aload_n 20 (gd rfl) rfl rfl ?_
    refine g_getA (q2 := 144) 23 (gd rfl) rfl rfl rfl rfl ?_
    refine g_iload_n 24 (gd rfl) rfl rfl ?_
    refine g_iload_n 25 (gd rfl) rfl rfl ?_
    refine g_iastore 26 (gd rfl) rfl (n := 33) rfl (in_ix h1 rfl) ?_
    have hI25 := inv_sI (q := 144) (j := x1.toNatClampNeg) hI rfl (in_w 0 31 h2 rfl)
    refine g_aload_n 27 (gd rfl) rfl rfl ?_
    refine g_getA (q2 := 143) 30 (gd rfl) rfl rfl rfl rfl ?_
    refine g_iload_n 31 (gd rfl) rfl rfl ?_
    refine g_iload_n 32 (gd rfl) rfl rfl ?_
    refine g_iastore 33 (gd rfl) rfl (n := 32) rfl (in_ix h1 rfl) ?_
    have hI32 := inv_sI (q := 143) (j := x1.toNatClampNeg) hI25 rfl (in_w (-2147483648) 2147483647 h3 rfl)
    refine g_aload_n 34 (gd rfl) rfl rfl ?_
    refine g_getA (q2 := 145) 37 (gd rfl) rfl rfl rfl rfl ?_
    refine g_iload_n 38 (gd rfl) rfl rfl ?_
    refine g_iload 40 (gd rfl) rfl rfl ?_
    refine g_aload_n 41 (gd rfl) rfl rfl ?_
    refine g_iload_n 42 (gd rfl) rfl rfl ?_
    refine g_callv (X := _) (As := [.int x2]) (r := [.int z16, .int x1, .ref (A 145)]) (b := A 109) (q := 109) 45 (gd rfl) rfl rfl rfl rfl rfl (ww_o rfl) (Nat.le_of_ble_eq_true rfl) (Nat.zero_le _) (Nat.zero_le _) (k_339 (by omega) hI32 (in_w 0 31 h2 rfl)) (fun e u h => h) (fun v u h => ?_)
    obtain ⟨z42, rfl, rfl, i42, p42⟩ := h
    show GG _ _ _ _ _ _ _ _ [.int z42, .int z16, .int x1, .ref (A 145)] _ _ _
    refine g_iconst (-1) 46 (gd rfl) rfl rfl ?_
    refine g_ixor 47 (gd rfl) rfl (fun z46 e46 => ?_)
    refine g_iand 48 (gd rfl) rfl (fun z47 e47 => ?_)
    refine g_iload_n 49 (gd rfl) rfl rfl ?_
    refine g_iload 51 (gd rfl) rfl rfl ?_
    refine g_calls (As := [.int x3, .int x4]) (r := [.int z47, .int x1, .ref (A 145)]) 54 (gd rfl) rfl rfl rfl rfl rfl (Nat.le_of_ble_eq_true rfl) (mc := 0) (ms := 0) (Nat.zero_le _) (Nat.zero_le _) (P := fun v u => _) ?_ (fun v u h => h)
    intro po51 xx51 hp51 hx51
    refine g_enter2 (k := 346) (N := 300) (by omega) rfl (Nat.le_of_ble_eq_true rfl) ?_
    refine g_iload_n 1 (gd rfl) rfl rfl ?_
    refine g_iconst 1 2 (gd rfl) rfl rfl ?_
    refine g_iadd 3 (gd rfl) rfl (fun z51x2 e51x2 => ?_)
    have i51x2 := in_add 1 33 e51x2 h3 (in_c 1 rfl) rfl rfl
    refine g_iload_n 4 (gd rfl) rfl rfl ?_
    refine g_cmp_ge 7 13 (gd rfl) rfl rfl (fun c51x4 => ?_) (fun c51x4 => ?_)
    · skip
      refine g_iload_n 14 (gd rfl) rfl rfl ?_
      refine g_istore_n 15 (gd rfl) rfl (Nat.le_of_ble_eq_true rfl) ?_
      refine g_iload_n 16 (gd rfl) rfl rfl ?_
      refine g_bipush 32 18 (gd rfl) rfl rfl ?_
      refine g_cmp_lt 21 25 (gd rfl) rfl rfl (fun c51x18 => ?_) (fun c51x18 => ?_)
      · skip
        refine g_iconst 1 26 (gd rfl) rfl rfl ?_
        refine g_iload_n 27 (gd rfl) rfl rfl ?_
        refine g_ishl 28 (gd rfl) rfl (fun z51x27 e51x27 => ?_)
        refine g_iconst 1 29 (gd rfl) rfl rfl ?_
        refine g_isub 30 (gd rfl) rfl (fun z51x29 e51x29 => ?_)
        refine g_ireturn (gd rfl) rfl rfl (hp51 _ _ ?_)
        show GG _ _ _ _ _ _ _ _ [.int z51x29, .int z47, .int x1, .ref (A 145)] _ _ _
        refine g_iand 55 (gd rfl) rfl (fun z54 e54 => ?_)
        refine g_iastore 56 (gd rfl) rfl (n := 33) rfl (in_ix h1 rfl) ?_
        have hI55 := inv_sI (q := 145) (j := x1.toNatClampNeg) hI32 rfl (in_w (-2147483648) 2147483647 (i_rng z54) rfl)
        refine g_iconst 0 57 (gd rfl) rfl rfl ?_
        refine g_istore 59 (gd rfl) rfl (Nat.le_of_ble_eq_true rfl) ?_
        refine g_iconst 0 60 (gd rfl) rfl rfl ?_
        refine g_istore 62 (gd rfl) rfl (Nat.le_of_ble_eq_true rfl) ?_
        have n62 : ((Int32.ofInt 0)).toInt ≤ (x1).toInt := by have a0 := i4; unfold In at a0; have a1 := h3; unfold In at a1; have a2 := h2; unfold In at a2; have a3 := h1; unfold In at a3; have a4 := (in_c 0 rfl); unfold In at a4; have a5 := i51x2; unfold In at a5; have a6 := t_add e51x2 h3 (in_c 1 rfl) rfl; have a7 := (in_c 1 rfl); unfold In at a7; omega
        have n62a : (sI (sI (sI s 144 x1.toNatClampNeg x2) 143 x1.toNatClampNeg x3) 145 x1.toNatClampNeg z54).1 144 = upd (s.1 144) (x1).toNatClampNeg (x2) ∧ (sI (sI (sI s 144 x1.toNatClampNeg x2) 143 x1.toNatClampNeg x3) 145 x1.toNatClampNeg z54).1 143 = upd (s.1 143) (x1).toNatClampNeg (x3) := by exact ⟨by simp [sI], by simp [sI]⟩
        have n62b : ∃ w : Int32, (sI (sI (sI s 144 x1.toNatClampNeg x2) 143 x1.toNatClampNeg x3) 145 x1.toNatClampNeg z54).1 145 = upd (s.1 145) (x1).toNatClampNeg w ∧ ∀ c : Nat, (bt w c = true ↔ ((c : Int) < (x4).toInt ∧ (c : Int) ≤ (x3).toInt ∧ ¬ BRQ s (x2).toNatClampNeg c)) := by exact ⟨z54, by simp [sI], lf_i (most := x4.toInt) (al_1 (k := x4) ⟨by have a0 := i4; unfold In at a0; have a1 := h3; unfold In at a1; have a2 := h2; unfold In at a2; have a3 := h1; unfold In at a3; have a4 := (in_c 0 rfl); unfold In at a4; have a5 := i51x2; unfold In at a5; have a6 := t_add e51x2 h3 (in_c 1 rfl) rfl; have a7 := (in_c 1 rfl); unfold In at a7; omega, by have a0 := i4; unfold In at a0; have a1 := h3; unfold In at a1; have a2 := h2; unfold In at a2; have a3 := h1; unfold In at a3; have a4 := (in_c 0 rfl); unfold In at a4; have a5 := i51x2; unfold In at a5; have a6 := t_add e51x2 h3 (in_c 1 rfl) rfl; have a7 := (in_c 1 rfl); unfold In at a7; omega⟩ e14 e16) (al_1 (k := x4) ⟨by have a0 := i4; unfold In at a0; have a1 := h3; unfold In at a1; have a2 := h2; unfold In at a2; have a3 := h1; unfold In at a3; have a4 := (in_c 0 rfl); unfold In at a4; have a5 := i51x2; unfold In at a5; have a6 := t_add e51x2 h3 (in_c 1 rfl) rfl; have a7 := (in_c 1 rfl); unfold In at a7; omega, by have a0 := i4; unfold In at a0; have a1 := h3; unfold In at a1; have a2 := h2; unfold In at a2; have a3 := h1; unfold In at a3; have a4 := (in_c 0 rfl); unfold In at a4; have a5 := i51x2; unfold In at a5; have a6 := t_add e51x2 h3 (in_c 1 rfl) rfl; have a7 := (in_c 1 rfl); unfold In at a7; omega⟩ e51x27 e51x29) (fun c hc => by have a0 := i4; unfold In at a0; have a1 := h3; unfold In at a1; have a2 := h2; unfold In at a2; have a3 := h1; unfold In at a3; have a4 := (in_c 0 rfl); unfold In at a4; have a5 := i51x2; unfold In at a5; have a6 := t_add e51x2 h3 (in_c 1 rfl) rfl; have a7 := (in_c 1 rfl); unfold In at a7; omega) (by have a0 := i4; unfold In at a0; have a1 := h3; unfold In at a1; have a2 := h2; unfold In at a2; have a3 := h1; unfold In at a3; have a4 := (in_c 0 rfl); unfold In at a4; have a5 := i51x2; unfold In at a5; have a6 := t_add e51x2 h3 (in_c 1 rfl) rfl; have a7 := (in_c 1 rfl); unfold In at a7; omega) p42 e46 e47 e54⟩
        have n62c : MET (s.1 144) ((Int32.ofInt 0)).toInt ((Int32.ofInt 0)) := by exact met_0
        have n62d : (sI (sI (sI s 144 x1.toNatClampNeg x2) 143 x1.toNatClampNeg x3) 145 x1.toNatClampNeg z54).1 146 = s.1 146 := by simp [sI]
        exact gg_w (by omega) (gg_f (gf_cons rfl (gf_cons rfl (gf_cons rfl (gf_cons rfl (gf_cons rfl (gf_cons rfl (gf_cons rfl (gf_cons rfl gf_nil)))))))) (ct62 32 (sI (sI (sI s 144 x1.toNatClampNeg x2) 143 x1.toNatClampNeg x3) 145 x1.toNatClampNeg z54) z16 (Int32.ofInt 0) (Int32.ofInt 0) hI55 (fr_sI rfl (fr_sI rfl (fr_sI rfl fr_rf))) (in_w 0 31 (in_c 0 rfl) rfl) n62 n62a n62b n62c n62d (m_in 32 (in_w 0 31 (in_c 0 rfl) rfl) rfl)))
      · skip
        exact n_le c51x18 (in_c 32 rfl) i4 rfl
    · skip
      have i51x4 := r_lt1 1 30 c51x4 i51x2 i4 rfl
      have i51x4a := r_lt2 2 31 c51x4 i51x2 i4 rfl
      refine g_iload_n 8 (gd rfl) rfl rfl ?_
      refine g_iconst 1 9 (gd rfl) rfl rfl ?_
      refine g_iadd 10 (gd rfl) rfl (fun z51x9 e51x9 => ?_)
      have i51x9 := in_add 1 33 e51x9 h3 (in_c 1 rfl) rfl rfl
      refine g_goto 14 (gd rfl) rfl ?_
      refine g_istore_n 15 (gd rfl) rfl (Nat.le_of_ble_eq_true rfl) ?_
      refine g_iload_n 16 (gd rfl) rfl rfl ?_
      refine g_bipush 32 18 (gd rfl) rfl rfl ?_
      refine g_cmp_lt 21 25 (gd rfl) rfl rfl (fun c51x18 => ?_) (fun c51x18 => ?_)
      · skip
        have i51x18 := r_lt1 1 31 c51x18 i51x9 (in_c 32 rfl) rfl
        refine g_iconst 1 26 (gd rfl) rfl rfl ?_
        refine g_iload_n 27 (gd rfl) rfl rfl ?_
        refine g_ishl 28 (gd rfl) rfl (fun z51x27 e51x27 => ?_)
        refine g_iconst 1 29 (gd rfl) rfl rfl ?_
        refine g_isub 30 (gd rfl) rfl (fun z51x29 e51x29 => ?_)
        refine g_ireturn (gd rfl) rfl rfl (hp51 _ _ ?_)
        show GG _ _ _ _ _ _ _ _ [.int z51x29, .int z47, .int x1, .ref (A 145)] _ _ _
        refine g_iand 55 (gd rfl) rfl (fun z54 e54 => ?_)
        refine g_iastore 56 (gd rfl) rfl (n := 33) rfl (in_ix h1 rfl) ?_
        have hI55 := inv_sI (q := 145) (j := x1.toNatClampNeg) hI32 rfl (in_w (-2147483648) 2147483647 (i_rng z54) rfl)
        refine g_iconst 0 57 (gd rfl) rfl rfl ?_
        refine g_istore 59 (gd rfl) rfl (Nat.le_of_ble_eq_true rfl) ?_
        refine g_iconst 0 60 (gd rfl) rfl rfl ?_
        refine g_istore 62 (gd rfl) rfl (Nat.le_of_ble_eq_true rfl) ?_
        have n62 : ((Int32.ofInt 0)).toInt ≤ (x1).toInt := by have a0 := i51x4a; unfold In at a0; have a1 := h3; unfold In at a1; have a2 := h2; unfold In at a2; have a3 := h1; unfold In at a3; have a4 := (in_c 0 rfl); unfold In at a4; have a5 := i51x18; unfold In at a5; have a6 := t_add e51x9 h3 (in_c 1 rfl) rfl; have a7 := (in_c 1 rfl); unfold In at a7; have a8 := i51x4; unfold In at a8; have a9 := t_add e51x2 h3 (in_c 1 rfl) rfl; omega
        have n62a : (sI (sI (sI s 144 x1.toNatClampNeg x2) 143 x1.toNatClampNeg x3) 145 x1.toNatClampNeg z54).1 144 = upd (s.1 144) (x1).toNatClampNeg (x2) ∧ (sI (sI (sI s 144 x1.toNatClampNeg x2) 143 x1.toNatClampNeg x3) 145 x1.toNatClampNeg z54).1 143 = upd (s.1 143) (x1).toNatClampNeg (x3) := by exact ⟨by simp [sI], by simp [sI]⟩
        have n62b : ∃ w : Int32, (sI (sI (sI s 144 x1.toNatClampNeg x2) 143 x1.toNatClampNeg x3) 145 x1.toNatClampNeg z54).1 145 = upd (s.1 145) (x1).toNatClampNeg w ∧ ∀ c : Nat, (bt w c = true ↔ ((c : Int) < (x4).toInt ∧ (c : Int) ≤ (x3).toInt ∧ ¬ BRQ s (x2).toNatClampNeg c)) := by exact ⟨z54, by simp [sI], lf_i (most := z51x9.toInt) (al_1 (k := x4) ⟨by have a0 := i51x4a; unfold In at a0; have a1 := h3; unfold In at a1; have a2 := h2; unfold In at a2; have a3 := h1; unfold In at a3; have a4 := (in_c 0 rfl); unfold In at a4; have a5 := i51x18; unfold In at a5; have a6 := t_add e51x9 h3 (in_c 1 rfl) rfl; have a7 := (in_c 1 rfl); unfold In at a7; have a8 := i51x4; unfold In at a8; have a9 := t_add e51x2 h3 (in_c 1 rfl) rfl; omega, by have a0 := i51x4a; unfold In at a0; have a1 := h3; unfold In at a1; have a2 := h2; unfold In at a2; have a3 := h1; unfold In at a3; have a4 := (in_c 0 rfl); unfold In at a4; have a5 := i51x18; unfold In at a5; have a6 := t_add e51x9 h3 (in_c 1 rfl) rfl; have a7 := (in_c 1 rfl); unfold In at a7; have a8 := i51x4; unfold In at a8; have a9 := t_add e51x2 h3 (in_c 1 rfl) rfl; omega⟩ e14 e16) (al_1 (k := z51x9) ⟨by have a0 := i51x4a; unfold In at a0; have a1 := h3; unfold In at a1; have a2 := h2; unfold In at a2; have a3 := h1; unfold In at a3; have a4 := (in_c 0 rfl); unfold In at a4; have a5 := i51x18; unfold In at a5; have a6 := t_add e51x9 h3 (in_c 1 rfl) rfl; have a7 := (in_c 1 rfl); unfold In at a7; have a8 := i51x4; unfold In at a8; have a9 := t_add e51x2 h3 (in_c 1 rfl) rfl; omega, by have a0 := i51x4a; unfold In at a0; have a1 := h3; unfold In at a1; have a2 := h2; unfold In at a2; have a3 := h1; unfold In at a3; have a4 := (in_c 0 rfl); unfold In at a4; have a5 := i51x18; unfold In at a5; have a6 := t_add e51x9 h3 (in_c 1 rfl) rfl; have a7 := (in_c 1 rfl); unfold In at a7; have a8 := i51x4; unfold In at a8; have a9 := t_add e51x2 h3 (in_c 1 rfl) rfl; omega⟩ e51x27 e51x29) (fun c hc => by have a0 := i51x4a; unfold In at a0; have a1 := h3; unfold In at a1; have a2 := h2; unfold In at a2; have a3 := h1; unfold In at a3; have a4 := (in_c 0 rfl); unfold In at a4; have a5 := i51x18; unfold In at a5; have a6 := t_add e51x9 h3 (in_c 1 rfl) rfl; have a7 := (in_c 1 rfl); unfold In at a7; have a8 := i51x4; unfold In at a8; have a9 := t_add e51x2 h3 (in_c 1 rfl) rfl; omega) (by have a0 := i51x4a; unfold In at a0; have a1 := h3; unfold In at a1; have a2 := h2; unfold In at a2; have a3 := h1; unfold In at a3; have a4 := (in_c 0 rfl); unfold In at a4; have a5 := i51x18; unfold In at a5; have a6 := t_add e51x9 h3 (in_c 1 rfl) rfl; have a7 := (in_c 1 rfl); unfold In at a7; have a8 := i51x4; unfold In at a8; have a9 := t_add e51x2 h3 (in_c 1 rfl) rfl; omega) p42 e46 e47 e54⟩
        have n62c : MET (s.1 144) ((Int32.ofInt 0)).toInt ((Int32.ofInt 0)) := by exact met_0
        have n62d : (sI (sI (sI s 144 x1.toNatClampNeg x2) 143 x1.toNatClampNeg x3) 145 x1.toNatClampNeg z54).1 146 = s.1 146 := by simp [sI]
        exact gg_w (by omega) (gg_f (gf_cons rfl (gf_cons rfl (gf_cons rfl (gf_cons rfl (gf_cons rfl (gf_cons rfl (gf_cons rfl (gf_cons rfl gf_nil)))))))) (ct62 32 (sI (sI (sI s 144 x1.toNatClampNeg x2) 143 x1.toNatClampNeg x3) 145 x1.toNatClampNeg z54) z16 (Int32.ofInt 0) (Int32.ofInt 0) hI55 (fr_sI rfl (fr_sI rfl (fr_sI rfl fr_rf))) (in_w 0 31 (in_c 0 rfl) rfl) n62 n62a n62b n62c n62d (m_in 32 (in_w 0 31 (in_c 0 rfl) rfl) rfl)))
      · skip
        have i51x18 := r_le2 32 33 c51x18 (in_c 32 rfl) i51x9 rfl
        refine g_iconst (-1) 22 (gd rfl) rfl rfl ?_
        refine g_goto 30 (gd rfl) rfl ?_
        refine g_ireturn (gd rfl) rfl rfl (hp51 _ _ ?_)
        show GG _ _ _ _ _ _ _ _ [.int (Int32.ofInt (-1)), .int z47, .int x1, .ref (A 145)] _ _ _
        refine g_iand 55 (gd rfl) rfl (fun z54 e54 => ?_)
        refine g_iastore 56 (gd rfl) rfl (n := 33) rfl (in_ix h1 rfl) ?_
        have hI55 := inv_sI (q := 145) (j := x1.toNatClampNeg) hI32 rfl (in_w (-2147483648) 2147483647 (i_rng z54) rfl)
        refine g_iconst 0 57 (gd rfl) rfl rfl ?_
        refine g_istore 59 (gd rfl) rfl (Nat.le_of_ble_eq_true rfl) ?_
        refine g_iconst 0 60 (gd rfl) rfl rfl ?_
        refine g_istore 62 (gd rfl) rfl (Nat.le_of_ble_eq_true rfl) ?_
        have n62 : ((Int32.ofInt 0)).toInt ≤ (x1).toInt := by have a0 := i51x4a; unfold In at a0; have a1 := h3; unfold In at a1; have a2 := h2; unfold In at a2; have a3 := h1; unfold In at a3; have a4 := (in_c 0 rfl); unfold In at a4; have a5 := i51x18; unfold In at a5; have a6 := t_add e51x9 h3 (in_c 1 rfl) rfl; have a7 := (in_c 1 rfl); unfold In at a7; have a8 := i51x4; unfold In at a8; have a9 := t_add e51x2 h3 (in_c 1 rfl) rfl; omega
        have n62a : (sI (sI (sI s 144 x1.toNatClampNeg x2) 143 x1.toNatClampNeg x3) 145 x1.toNatClampNeg z54).1 144 = upd (s.1 144) (x1).toNatClampNeg (x2) ∧ (sI (sI (sI s 144 x1.toNatClampNeg x2) 143 x1.toNatClampNeg x3) 145 x1.toNatClampNeg z54).1 143 = upd (s.1 143) (x1).toNatClampNeg (x3) := by exact ⟨by simp [sI], by simp [sI]⟩
        have n62b : ∃ w : Int32, (sI (sI (sI s 144 x1.toNatClampNeg x2) 143 x1.toNatClampNeg x3) 145 x1.toNatClampNeg z54).1 145 = upd (s.1 145) (x1).toNatClampNeg w ∧ ∀ c : Nat, (bt w c = true ↔ ((c : Int) < (x4).toInt ∧ (c : Int) ≤ (x3).toInt ∧ ¬ BRQ s (x2).toNatClampNeg c)) := by exact ⟨z54, by simp [sI], lf_i (most := z51x9.toInt) (al_1 (k := x4) ⟨by have a0 := i51x4a; unfold In at a0; have a1 := h3; unfold In at a1; have a2 := h2; unfold In at a2; have a3 := h1; unfold In at a3; have a4 := (in_c 0 rfl); unfold In at a4; have a5 := i51x18; unfold In at a5; have a6 := t_add e51x9 h3 (in_c 1 rfl) rfl; have a7 := (in_c 1 rfl); unfold In at a7; have a8 := i51x4; unfold In at a8; have a9 := t_add e51x2 h3 (in_c 1 rfl) rfl; omega, by have a0 := i51x4a; unfold In at a0; have a1 := h3; unfold In at a1; have a2 := h2; unfold In at a2; have a3 := h1; unfold In at a3; have a4 := (in_c 0 rfl); unfold In at a4; have a5 := i51x18; unfold In at a5; have a6 := t_add e51x9 h3 (in_c 1 rfl) rfl; have a7 := (in_c 1 rfl); unfold In at a7; have a8 := i51x4; unfold In at a8; have a9 := t_add e51x2 h3 (in_c 1 rfl) rfl; omega⟩ e14 e16) (al_2 (by have a0 := i51x4a; unfold In at a0; have a1 := h3; unfold In at a1; have a2 := h2; unfold In at a2; have a3 := h1; unfold In at a3; have a4 := (in_c 0 rfl); unfold In at a4; have a5 := i51x18; unfold In at a5; have a6 := t_add e51x9 h3 (in_c 1 rfl) rfl; have a7 := (in_c 1 rfl); unfold In at a7; have a8 := i51x4; unfold In at a8; have a9 := t_add e51x2 h3 (in_c 1 rfl) rfl; omega)) (fun c hc => by have a0 := i51x4a; unfold In at a0; have a1 := h3; unfold In at a1; have a2 := h2; unfold In at a2; have a3 := h1; unfold In at a3; have a4 := (in_c 0 rfl); unfold In at a4; have a5 := i51x18; unfold In at a5; have a6 := t_add e51x9 h3 (in_c 1 rfl) rfl; have a7 := (in_c 1 rfl); unfold In at a7; have a8 := i51x4; unfold In at a8; have a9 := t_add e51x2 h3 (in_c 1 rfl) rfl; omega) (by have a0 := i51x4a; unfold In at a0; have a1 := h3; unfold In at a1; have a2 := h2; unfold In at a2; have a3 := h1; unfold In at a3; have a4 := (in_c 0 rfl); unfold In at a4; have a5 := i51x18; unfold In at a5; have a6 := t_add e51x9 h3 (in_c 1 rfl) rfl; have a7 := (in_c 1 rfl); unfold In at a7; have a8 := i51x4; unfold In at a8; have a9 := t_add e51x2 h3 (in_c 1 rfl) rfl; omega) p42 e46 e47 e54⟩
        have n62c : MET (s.1 144) ((Int32.ofInt 0)).toInt ((Int32.ofInt 0)) := by exact met_0
        have n62d : (sI (sI (sI s 144 x1.toNatClampNeg x2) 143 x1.toNatClampNeg x3) 145 x1.toNatClampNeg z54).1 146 = s.1 146 := by simp [sI]
        exact gg_w (by omega) (gg_f (gf_cons rfl (gf_cons rfl (gf_cons rfl (gf_cons rfl (gf_cons rfl (gf_cons rfl (gf_cons rfl (gf_cons rfl gf_nil)))))))) (ct62 32 (sI (sI (sI s 144 x1.toNatClampNeg x2) 143 x1.toNatClampNeg x3) 145 x1.toNatClampNeg z54) z16 (Int32.ofInt 0) (Int32.ofInt 0) hI55 (fr_sI rfl (fr_sI rfl (fr_sI rfl fr_rf))) (in_w 0 31 (in_c 0 rfl) rfl) n62 n62a n62b n62c n62d (m_in 32 (in_w 0 31 (in_c 0 rfl) rfl) rfl)))
  · skip
    have i4 := r_eq1 32 32 c4 h4 (in_c 32 rfl) rfl
    refine g_iconst (-1) 8 (gd rfl) rfl rfl ?_
    refine g_goto 17 (gd rfl) rfl ?_
    refine g_istore 19 (gd rfl) rfl (Nat.le_of_ble_eq_true rfl) ?_
    refine g_aload_n 20 (gd rfl) rfl rfl ?_
    refine g_getA (q2 := 144) 23 (gd rfl) rfl rfl rfl rfl ?_
    refine g_iload_n 24 (gd rfl) rfl rfl ?_
    refine g_iload_n 25 (gd rfl) rfl rfl ?_
    refine g_iastore 26 (gd rfl) rfl (n := 33) rfl (in_ix h1 rfl) ?_
    have hI25 := inv_sI (q := 144) (j := x1.toNatClampNeg) hI rfl (in_w 0 31 h2 rfl)
    refine g_aload_n 27 (gd rfl) rfl rfl ?_
    refine g_getA (q2 := 143) 30 (gd rfl) rfl rfl rfl rfl ?_
    refine g_iload_n 31 (gd rfl) rfl rfl ?_
    refine g_iload_n 32 (gd rfl) rfl rfl ?_
    refine g_iastore 33 (gd rfl) rfl (n := 32) rfl (in_ix h1 rfl) ?_
    have hI32 := inv_sI (q := 143) (j := x1.toNatClampNeg) hI25 rfl (in_w (-2147483648) 2147483647 h3 rfl)
    refine g_aload_n 34 (gd rfl) rfl rfl ?_
    refine g_getA (q2 := 145) 37 (gd rfl) rfl rfl rfl rfl ?_
    refine g_iload_n 38 (gd rfl) rfl rfl ?_
    refine g_iload 40 (gd rfl) rfl rfl ?_
    refine g_aload_n 41 (gd rfl) rfl rfl ?_
    refine g_iload_n 42 (gd rfl) rfl rfl ?_
    refine g_callv (X := _) (As := [.int x2]) (r := [.int (Int32.ofInt (-1)), .int x1, .ref (A 145)]) (b := A 109) (q := 109) 45 (gd rfl) rfl rfl rfl rfl rfl (ww_o rfl) (Nat.le_of_ble_eq_true rfl) (Nat.zero_le _) (Nat.zero_le _) (k_339 (by omega) hI32 (in_w 0 31 h2 rfl)) (fun e u h => h) (fun v u h => ?_)
    obtain ⟨z42, rfl, rfl, i42, p42⟩ := h
    show GG _ _ _ _ _ _ _ _ [.int z42, .int (Int32.ofInt (-1)), .int x1, .ref (A 145)] _ _ _
    refine g_iconst (-1) 46 (gd rfl) rfl rfl ?_
    refine g_ixor 47 (gd rfl) rfl (fun z46 e46 => ?_)
    refine g_iand 48 (gd rfl) rfl (fun z47 e47 => ?_)
    refine g_iload_n 49 (gd rfl) rfl rfl ?_
    refine g_iload 51 (gd rfl) rfl rfl ?_
    refine g_calls (As := [.int x3, .int x4]) (r := [.int z47, .int x1, .ref (A 145)]) 54 (gd rfl) rfl rfl rfl rfl rfl (Nat.le_of_ble_eq_true rfl) (mc := 0) (ms := 0) (Nat.zero_le _) (Nat.zero_le _) (P := fun v u => _) ?_ (fun v u h => h)
    intro po51 xx51 hp51 hx51
    refine g_enter2 (k := 346) (N := 300) (by omega) rfl (Nat.le_of_ble_eq_true rfl) ?_
    refine g_iload_n 1 (gd rfl) rfl rfl ?_
    refine g_iconst 1 2 (gd rfl) rfl rfl ?_
    refine g_iadd 3 (gd rfl) rfl (fun z51x2 e51x2 => ?_)
    have i51x2 := in_add 1 33 e51x2 h3 (in_c 1 rfl) rfl rfl
    refine g_iload_n 4 (gd rfl) rfl rfl ?_
    refine g_cmp_ge 7 13 (gd rfl) rfl rfl (fun c51x4 => ?_) (fun c51x4 => ?_)
    · skip
      have i51x4 := r_le2 32 33 c51x4 i4 i51x2 rfl
      refine g_iload_n 14 (gd rfl) rfl rfl ?_
      refine g_istore_n 15 (gd rfl) rfl (Nat.le_of_ble_eq_true rfl) ?_
      refine g_iload_n 16 (gd rfl) rfl rfl ?_
      refine g_bipush 32 18 (gd rfl) rfl rfl ?_
      refine g_cmp_lt 21 25 (gd rfl) rfl rfl (fun c51x18 => ?_) (fun c51x18 => ?_)
      · skip
        exact n_lt c51x18 i4 (in_c 32 rfl) rfl
      · skip
        refine g_iconst (-1) 22 (gd rfl) rfl rfl ?_
        refine g_goto 30 (gd rfl) rfl ?_
        refine g_ireturn (gd rfl) rfl rfl (hp51 _ _ ?_)
        show GG _ _ _ _ _ _ _ _ [.int (Int32.ofInt (-1)), .int z47, .int x1, .ref (A 145)] _ _ _
        refine g_iand 55 (gd rfl) rfl (fun z54 e54 => ?_)
        refine g_iastore 56 (gd rfl) rfl (n := 33) rfl (in_ix h1 rfl) ?_
        have hI55 := inv_sI (q := 145) (j := x1.toNatClampNeg) hI32 rfl (in_w (-2147483648) 2147483647 (i_rng z54) rfl)
        refine g_iconst 0 57 (gd rfl) rfl rfl ?_
        refine g_istore 59 (gd rfl) rfl (Nat.le_of_ble_eq_true rfl) ?_
        refine g_iconst 0 60 (gd rfl) rfl rfl ?_
        refine g_istore 62 (gd rfl) rfl (Nat.le_of_ble_eq_true rfl) ?_
        have n62 : ((Int32.ofInt 0)).toInt ≤ (x1).toInt := by have a0 := i4; unfold In at a0; have a1 := h3; unfold In at a1; have a2 := h2; unfold In at a2; have a3 := h1; unfold In at a3; have a4 := (in_c 0 rfl); unfold In at a4; have a5 := (in_c (-1) rfl); unfold In at a5; have a6 := i51x4; unfold In at a6; have a7 := t_add e51x2 h3 (in_c 1 rfl) rfl; have a8 := (in_c 1 rfl); unfold In at a8; omega
        have n62a : (sI (sI (sI s 144 x1.toNatClampNeg x2) 143 x1.toNatClampNeg x3) 145 x1.toNatClampNeg z54).1 144 = upd (s.1 144) (x1).toNatClampNeg (x2) ∧ (sI (sI (sI s 144 x1.toNatClampNeg x2) 143 x1.toNatClampNeg x3) 145 x1.toNatClampNeg z54).1 143 = upd (s.1 143) (x1).toNatClampNeg (x3) := by exact ⟨by simp [sI], by simp [sI]⟩
        have n62b : ∃ w : Int32, (sI (sI (sI s 144 x1.toNatClampNeg x2) 143 x1.toNatClampNeg x3) 145 x1.toNatClampNeg z54).1 145 = upd (s.1 145) (x1).toNatClampNeg w ∧ ∀ c : Nat, (bt w c = true ↔ ((c : Int) < (x4).toInt ∧ (c : Int) ≤ (x3).toInt ∧ ¬ BRQ s (x2).toNatClampNeg c)) := by exact ⟨z54, by simp [sI], lf_i (most := x4.toInt) (al_2 (by have a0 := i4; unfold In at a0; have a1 := h3; unfold In at a1; have a2 := h2; unfold In at a2; have a3 := h1; unfold In at a3; have a4 := (in_c 0 rfl); unfold In at a4; have a5 := (in_c (-1) rfl); unfold In at a5; have a6 := i51x4; unfold In at a6; have a7 := t_add e51x2 h3 (in_c 1 rfl) rfl; have a8 := (in_c 1 rfl); unfold In at a8; omega)) (al_2 (by have a0 := i4; unfold In at a0; have a1 := h3; unfold In at a1; have a2 := h2; unfold In at a2; have a3 := h1; unfold In at a3; have a4 := (in_c 0 rfl); unfold In at a4; have a5 := (in_c (-1) rfl); unfold In at a5; have a6 := i51x4; unfold In at a6; have a7 := t_add e51x2 h3 (in_c 1 rfl) rfl; have a8 := (in_c 1 rfl); unfold In at a8; omega)) (fun c hc => by have a0 := i4; unfold In at a0; have a1 := h3; unfold In at a1; have a2 := h2; unfold In at a2; have a3 := h1; unfold In at a3; have a4 := (in_c 0 rfl); unfold In at a4; have a5 := (in_c (-1) rfl); unfold In at a5; have a6 := i51x4; unfold In at a6; have a7 := t_add e51x2 h3 (in_c 1 rfl) rfl; have a8 := (in_c 1 rfl); unfold In at a8; omega) (by have a0 := i4; unfold In at a0; have a1 := h3; unfold In at a1; have a2 := h2; unfold In at a2; have a3 := h1; unfold In at a3; have a4 := (in_c 0 rfl); unfold In at a4; have a5 := (in_c (-1) rfl); unfold In at a5; have a6 := i51x4; unfold In at a6; have a7 := t_add e51x2 h3 (in_c 1 rfl) rfl; have a8 := (in_c 1 rfl); unfold In at a8; omega) p42 e46 e47 e54⟩
        have n62c : MET (s.1 144) ((Int32.ofInt 0)).toInt ((Int32.ofInt 0)) := by exact met_0
        have n62d : (sI (sI (sI s 144 x1.toNatClampNeg x2) 143 x1.toNatClampNeg x3) 145 x1.toNatClampNeg z54).1 146 = s.1 146 := by simp [sI]
        exact gg_w (by omega) (gg_f (gf_cons rfl (gf_cons rfl (gf_cons rfl (gf_cons rfl (gf_cons rfl (gf_cons rfl (gf_cons rfl (gf_cons rfl gf_nil)))))))) (ct62 32 (sI (sI (sI s 144 x1.toNatClampNeg x2) 143 x1.toNatClampNeg x3) 145 x1.toNatClampNeg z54) (Int32.ofInt (-1)) (Int32.ofInt 0) (Int32.ofInt 0) hI55 (fr_sI rfl (fr_sI rfl (fr_sI rfl fr_rf))) (in_w 0 31 (in_c 0 rfl) rfl) n62 n62a n62b n62c n62d (m_in 32 (in_w 0 31 (in_c 0 rfl) rfl) rfl)))
    · skip
      have i51x4 := r_lt1 1 31 c51x4 i51x2 i4 rfl
      refine g_iload_n 8 (gd rfl) rfl rfl ?_
      refine g_iconst 1 9 (gd rfl) rfl rfl ?_
      refine g_iadd 10 (gd rfl) rfl (fun z51x9 e51x9 => ?_)
      have i51x9 := in_add 1 33 e51x9 h3 (in_c 1 rfl) rfl rfl
      refine g_goto 14 (gd rfl) rfl ?_
      refine g_istore_n 15 (gd rfl) rfl (Nat.le_of_ble_eq_true rfl) ?_
      refine g_iload_n 16 (gd rfl) rfl rfl ?_
      refine g_bipush 32 18 (gd rfl) rfl rfl ?_
      refine g_cmp_lt 21 25 (gd rfl) rfl rfl (fun c51x18 => ?_) (fun c51x18 => ?_)
      · skip
        have i51x18 := r_lt1 1 31 c51x18 i51x9 (in_c 32 rfl) rfl
        refine g_iconst 1 26 (gd rfl) rfl rfl ?_
        refine g_iload_n 27 (gd rfl) rfl rfl ?_
        refine g_ishl 28 (gd rfl) rfl (fun z51x27 e51x27 => ?_)
        refine g_iconst 1 29 (gd rfl) rfl rfl ?_
        refine g_isub 30 (gd rfl) rfl (fun z51x29 e51x29 => ?_)
        refine g_ireturn (gd rfl) rfl rfl (hp51 _ _ ?_)
        show GG _ _ _ _ _ _ _ _ [.int z51x29, .int z47, .int x1, .ref (A 145)] _ _ _
        refine g_iand 55 (gd rfl) rfl (fun z54 e54 => ?_)
        refine g_iastore 56 (gd rfl) rfl (n := 33) rfl (in_ix h1 rfl) ?_
        have hI55 := inv_sI (q := 145) (j := x1.toNatClampNeg) hI32 rfl (in_w (-2147483648) 2147483647 (i_rng z54) rfl)
        refine g_iconst 0 57 (gd rfl) rfl rfl ?_
        refine g_istore 59 (gd rfl) rfl (Nat.le_of_ble_eq_true rfl) ?_
        refine g_iconst 0 60 (gd rfl) rfl rfl ?_
        refine g_istore 62 (gd rfl) rfl (Nat.le_of_ble_eq_true rfl) ?_
        have n62 : ((Int32.ofInt 0)).toInt ≤ (x1).toInt := by have a0 := i4; unfold In at a0; have a1 := h3; unfold In at a1; have a2 := h2; unfold In at a2; have a3 := h1; unfold In at a3; have a4 := (in_c 0 rfl); unfold In at a4; have a5 := (in_c (-1) rfl); unfold In at a5; have a6 := i51x18; unfold In at a6; have a7 := t_add e51x9 h3 (in_c 1 rfl) rfl; have a8 := (in_c 1 rfl); unfold In at a8; have a9 := i51x4; unfold In at a9; have a10 := t_add e51x2 h3 (in_c 1 rfl) rfl; omega
        have n62a : (sI (sI (sI s 144 x1.toNatClampNeg x2) 143 x1.toNatClampNeg x3) 145 x1.toNatClampNeg z54).1 144 = upd (s.1 144) (x1).toNatClampNeg (x2) ∧ (sI (sI (sI s 144 x1.toNatClampNeg x2) 143 x1.toNatClampNeg x3) 145 x1.toNatClampNeg z54).1 143 = upd (s.1 143) (x1).toNatClampNeg (x3) := by exact ⟨by simp [sI], by simp [sI]⟩
        have n62b : ∃ w : Int32, (sI (sI (sI s 144 x1.toNatClampNeg x2) 143 x1.toNatClampNeg x3) 145 x1.toNatClampNeg z54).1 145 = upd (s.1 145) (x1).toNatClampNeg w ∧ ∀ c : Nat, (bt w c = true ↔ ((c : Int) < (x4).toInt ∧ (c : Int) ≤ (x3).toInt ∧ ¬ BRQ s (x2).toNatClampNeg c)) := by exact ⟨z54, by simp [sI], lf_i (most := z51x9.toInt) (al_2 (by have a0 := i4; unfold In at a0; have a1 := h3; unfold In at a1; have a2 := h2; unfold In at a2; have a3 := h1; unfold In at a3; have a4 := (in_c 0 rfl); unfold In at a4; have a5 := (in_c (-1) rfl); unfold In at a5; have a6 := i51x18; unfold In at a6; have a7 := t_add e51x9 h3 (in_c 1 rfl) rfl; have a8 := (in_c 1 rfl); unfold In at a8; have a9 := i51x4; unfold In at a9; have a10 := t_add e51x2 h3 (in_c 1 rfl) rfl; omega)) (al_1 (k := z51x9) ⟨by have a0 := i4; unfold In at a0; have a1 := h3; unfold In at a1; have a2 := h2; unfold In at a2; have a3 := h1; unfold In at a3; have a4 := (in_c 0 rfl); unfold In at a4; have a5 := (in_c (-1) rfl); unfold In at a5; have a6 := i51x18; unfold In at a6; have a7 := t_add e51x9 h3 (in_c 1 rfl) rfl; have a8 := (in_c 1 rfl); unfold In at a8; have a9 := i51x4; unfold In at a9; have a10 := t_add e51x2 h3 (in_c 1 rfl) rfl; omega, by have a0 := i4; unfold In at a0; have a1 := h3; unfold In at a1; have a2 := h2; unfold In at a2; have a3 := h1; unfold In at a3; have a4 := (in_c 0 rfl); unfold In at a4; have a5 := (in_c (-1) rfl); unfold In at a5; have a6 := i51x18; unfold In at a6; have a7 := t_add e51x9 h3 (in_c 1 rfl) rfl; have a8 := (in_c 1 rfl); unfold In at a8; have a9 := i51x4; unfold In at a9; have a10 := t_add e51x2 h3 (in_c 1 rfl) rfl; omega⟩ e51x27 e51x29) (fun c hc => by have a0 := i4; unfold In at a0; have a1 := h3; unfold In at a1; have a2 := h2; unfold In at a2; have a3 := h1; unfold In at a3; have a4 := (in_c 0 rfl); unfold In at a4; have a5 := (in_c (-1) rfl); unfold In at a5; have a6 := i51x18; unfold In at a6; have a7 := t_add e51x9 h3 (in_c 1 rfl) rfl; have a8 := (in_c 1 rfl); unfold In at a8; have a9 := i51x4; unfold In at a9; have a10 := t_add e51x2 h3 (in_c 1 rfl) rfl; omega) (by have a0 := i4; unfold In at a0; have a1 := h3; unfold In at a1; have a2 := h2; unfold In at a2; have a3 := h1; unfold In at a3; have a4 := (in_c 0 rfl); unfold In at a4; have a5 := (in_c (-1) rfl); unfold In at a5; have a6 := i51x18; unfold In at a6; have a7 := t_add e51x9 h3 (in_c 1 rfl) rfl; have a8 := (in_c 1 rfl); unfold In at a8; have a9 := i51x4; unfold In at a9; have a10 := t_add e51x2 h3 (in_c 1 rfl) rfl; omega) p42 e46 e47 e54⟩
        have n62c : MET (s.1 144) ((Int32.ofInt 0)).toInt ((Int32.ofInt 0)) := by exact met_0
        have n62d : (sI (sI (sI s 144 x1.toNatClampNeg x2) 143 x1.toNatClampNeg x3) 145 x1.toNatClampNeg z54).1 146 = s.1 146 := by simp [sI]
        exact gg_w (by omega) (gg_f (gf_cons rfl (gf_cons rfl (gf_cons rfl (gf_cons rfl (gf_cons rfl (gf_cons rfl (gf_cons rfl (gf_cons rfl gf_nil)))))))) (ct62 32 (sI (sI (sI s 144 x1.toNatClampNeg x2) 143 x1.toNatClampNeg x3) 145 x1.toNatClampNeg z54) (Int32.ofInt (-1)) (Int32.ofInt 0) (Int32.ofInt 0) hI55 (fr_sI rfl (fr_sI rfl (fr_sI rfl fr_rf))) (in_w 0 31 (in_c 0 rfl) rfl) n62 n62a n62b n62c n62d (m_in 32 (in_w 0 31 (in_c 0 rfl) rfl) rfl)))
      · skip
        have i51x18 := r_le2 32 33 c51x18 (in_c 32 rfl) i51x9 rfl
        refine g_iconst (-1) 22 (gd rfl) rfl rfl ?_
        refine g_goto 30 (gd rfl) rfl ?_
        refine g_ireturn (gd rfl) rfl rfl (hp51 _ _ ?_)
        show GG _ _ _ _ _ _ _ _ [.int (Int32.ofInt (-1)), .int z47, .int x1, .ref (A 145)] _ _ _
        refine g_iand 55 (gd rfl) rfl (fun z54 e54 => ?_)
        refine g_iastore 56 (gd rfl) rfl (n := 33) rfl (in_ix h1 rfl) ?_
        have hI55 := inv_sI (q := 145) (j := x1.toNatClampNeg) hI32 rfl (in_w (-2147483648) 2147483647 (i_rng z54) rfl)
        refine g_iconst 0 57 (gd rfl) rfl rfl ?_
        refine g_istore 59 (gd rfl) rfl (Nat.le_of_ble_eq_true rfl) ?_
        refine g_iconst 0 60 (gd rfl) rfl rfl ?_
        refine g_istore 62 (gd rfl) rfl (Nat.le_of_ble_eq_true rfl) ?_
        have n62 : ((Int32.ofInt 0)).toInt ≤ (x1).toInt := by have a0 := i4; unfold In at a0; have a1 := h3; unfold In at a1; have a2 := h2; unfold In at a2; have a3 := h1; unfold In at a3; have a4 := (in_c 0 rfl); unfold In at a4; have a5 := (in_c (-1) rfl); unfold In at a5; have a6 := i51x18; unfold In at a6; have a7 := t_add e51x9 h3 (in_c 1 rfl) rfl; have a8 := (in_c 1 rfl); unfold In at a8; have a9 := i51x4; unfold In at a9; have a10 := t_add e51x2 h3 (in_c 1 rfl) rfl; omega
        have n62a : (sI (sI (sI s 144 x1.toNatClampNeg x2) 143 x1.toNatClampNeg x3) 145 x1.toNatClampNeg z54).1 144 = upd (s.1 144) (x1).toNatClampNeg (x2) ∧ (sI (sI (sI s 144 x1.toNatClampNeg x2) 143 x1.toNatClampNeg x3) 145 x1.toNatClampNeg z54).1 143 = upd (s.1 143) (x1).toNatClampNeg (x3) := by exact ⟨by simp [sI], by simp [sI]⟩
        have n62b : ∃ w : Int32, (sI (sI (sI s 144 x1.toNatClampNeg x2) 143 x1.toNatClampNeg x3) 145 x1.toNatClampNeg z54).1 145 = upd (s.1 145) (x1).toNatClampNeg w ∧ ∀ c : Nat, (bt w c = true ↔ ((c : Int) < (x4).toInt ∧ (c : Int) ≤ (x3).toInt ∧ ¬ BRQ s (x2).toNatClampNeg c)) := by exact ⟨z54, by simp [sI], lf_i (most := z51x9.toInt) (al_2 (by have a0 := i4; unfold In at a0; have a1 := h3; unfold In at a1; have a2 := h2; unfold In at a2; have a3 := h1; unfold In at a3; have a4 := (in_c 0 rfl); unfold In at a4; have a5 := (in_c (-1) rfl); unfold In at a5; have a6 := i51x18; unfold In at a6; have a7 := t_add e51x9 h3 (in_c 1 rfl) rfl; have a8 := (in_c 1 rfl); unfold In at a8; have a9 := i51x4; unfold In at a9; have a10 := t_add e51x2 h3 (in_c 1 rfl) rfl; omega)) (al_2 (by have a0 := i4; unfold In at a0; have a1 := h3; unfold In at a1; have a2 := h2; unfold In at a2; have a3 := h1; unfold In at a3; have a4 := (in_c 0 rfl); unfold In at a4; have a5 := (in_c (-1) rfl); unfold In at a5; have a6 := i51x18; unfold In at a6; have a7 := t_add e51x9 h3 (in_c 1 rfl) rfl; have a8 := (in_c 1 rfl); unfold In at a8; have a9 := i51x4; unfold In at a9; have a10 := t_add e51x2 h3 (in_c 1 rfl) rfl; omega)) (fun c hc => by have a0 := i4; unfold In at a0; have a1 := h3; unfold In at a1; have a2 := h2; unfold In at a2; have a3 := h1; unfold In at a3; have a4 := (in_c 0 rfl); unfold In at a4; have a5 := (in_c (-1) rfl); unfold In at a5; have a6 := i51x18; unfold In at a6; have a7 := t_add e51x9 h3 (in_c 1 rfl) rfl; have a8 := (in_c 1 rfl); unfold In at a8; have a9 := i51x4; unfold In at a9; have a10 := t_add e51x2 h3 (in_c 1 rfl) rfl; omega) (by have a0 := i4; unfold In at a0; have a1 := h3; unfold In at a1; have a2 := h2; unfold In at a2; have a3 := h1; unfold In at a3; have a4 := (in_c 0 rfl); unfold In at a4; have a5 := (in_c (-1) rfl); unfold In at a5; have a6 := i51x18; unfold In at a6; have a7 := t_add e51x9 h3 (in_c 1 rfl) rfl; have a8 := (in_c 1 rfl); unfold In at a8; have a9 := i51x4; unfold In at a9; have a10 := t_add e51x2 h3 (in_c 1 rfl) rfl; omega) p42 e46 e47 e54⟩
        have n62c : MET (s.1 144) ((Int32.ofInt 0)).toInt ((Int32.ofInt 0)) := by exact met_0
        have n62d : (sI (sI (sI s 144 x1.toNatClampNeg x2) 143 x1.toNatClampNeg x3) 145 x1.toNatClampNeg z54).1 146 = s.1 146 := by simp [sI]
        exact gg_w (by omega) (gg_f (gf_cons rfl (gf_cons rfl (gf_cons rfl (gf_cons rfl (gf_cons rfl (gf_cons rfl (gf_cons rfl (gf_cons rfl gf_nil)))))))) (ct62 32 (sI (sI (sI s 144 x1.toNatClampNeg x2) 143 x1.toNatClampNeg x3) 145 x1.toNatClampNeg z54) (Int32.ofInt (-1)) (Int32.ofInt 0) (Int32.ofInt 0) hI55 (fr_sI rfl (fr_sI rfl (fr_sI rfl fr_rf))) (in_w 0 31 (in_c 0 rfl) rfl) n62 n62a n62b n62c n62d (m_in 32 (in_w 0 31 (in_c 0 rfl) rfl) rfl)))
