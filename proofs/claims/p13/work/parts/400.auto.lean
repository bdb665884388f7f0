/-! methods, by vc.py -/
/-- GraphHouseModel.freePlace -/
theorem k_280 {Z : AmZ} {A : Nat → Nat} {s : GS} {ex : va_W} {d : Nat} {X : AmX} {x1 : Int32} (hd : 1 ≤ d) (hI : Inv s) (h1 : In x1 0 2) : GC Z d 280 [.ref (A 109), .int x1] (WW Z A s ++ ex) 0 0 (fun v u => ∃ z : Int32, v = some (.int z) ∧ u = WW Z A s ++ ex ∧ In z 0 160 ∧ ((z).toNatClampNeg = fpl (thg s (160 * (x1).toNatClampNeg)))) X := by
  intro post xp hP hX
  have ct2 : ∀ (k2 : Nat) (y2_2 : Int32), (In y2_2 0 160) → (∀ i : Nat, (i : Int) < (y2_2).toInt → (s.1 112 (160 * (x1).toNatClampNeg + i)).toInt ≠ 0) → 160 - (y2_2).toInt < (k2 : Int) → GG Z (d - 1) 280 post (gx xp) (1 + k2 * 900) 2 (fun j => xlook j [(0, .ref (A 109)), (1, .int x1), (2, .int y2_2)]) [] (WW Z A s ++ ex) 0 0 := by
    intro k2
    induction k2 with
    | zero => intro y2_2 j2_2 g2_0 mm2; exact m_no mm2 j2_2 rfl
    | succ k2 ih2 =>
      intro y2_2 j2_2 g2_0 mm2
      refine gg_w (M := 1 + k2 * 900 + 900) (by omega) ?_
      refine g_iload_n 3 (gd rfl) rfl rfl ?_
      refine g_sipush 160 6 (gd rfl) rfl rfl ?_
      refine g_cmp_ge 9 30 (gd rfl) rfl rfl (fun c6 => ?_) (fun c6 => ?_)
      · skip
        have i6 := r_le2 160 160 c6 (in_c 160 rfl) j2_2 rfl
        refine g_iload_n 31 (gd rfl) rfl rfl ?_
        have n31 : (y2_2).toNatClampNeg = fpl (thg s (160 * (x1).toNatClampNeg)) := by exact (fpl_eq (r := y2_2.toNatClampNeg) (by show y2_2.toInt.toNat ≤ 160; have a0 := h1; unfold In at a0; have a1 := i6; unfold In at a1; omega) (fun i hi => decide_eq_true (g2_0 i (by have e2 : y2_2.toNatClampNeg = y2_2.toInt.toNat := rfl; have a0 := h1; unfold In at a0; have a1 := i6; unfold In at a1; omega))) (fun hlt => by first | (exfalso; have e2 : y2_2.toNatClampNeg = y2_2.toInt.toNat := rfl; have a0 := h1; unfold In at a0; have a1 := i6; unfold In at a1; omega) | (refine decide_eq_false (fun z => z ?_); rw [show 160 * x1.toNatClampNeg + y2_2.toNatClampNeg = z19.toNatClampNeg from (by show 160 * x1.toInt.toNat + y2_2.toInt.toNat = z19.toInt.toNat; have a0 := h1; unfold In at a0; have a1 := i6; unfold In at a1; omega), ← e20]; exact c21))).symm
        exact g_ireturn (gd rfl) rfl rfl (hP _ _ ⟨y2_2, rfl, rfl, in_w 0 160 i6 rfl, n31⟩)
      · skip
        have i6 := r_lt1 0 159 c6 j2_2 (in_c 160 rfl) rfl
        refine g_aload_n 10 (gd rfl) rfl rfl ?_
        refine g_getA (q2 := 112) 13 (gd rfl) rfl rfl rfl rfl ?_
        refine g_sipush 160 16 (gd rfl) rfl rfl ?_
        refine g_iload_n 17 (gd rfl) rfl rfl ?_
        refine g_imul 18 (gd rfl) rfl (fun z17 e17 => ?_)
        have i17 := in_mulc 160 0 320 (Or.inl e17) h1 rfl rfl
        refine g_iload_n 19 (gd rfl) rfl rfl ?_
        refine g_iadd 20 (gd rfl) rfl (fun z19 e19 => ?_)
        have i19 := in_add 0 479 e19 i17 i6 rfl rfl
        refine g_baload 21 (gd rfl) rfl (n := 480) rfl (in_ix i19 rfl) (fun z20 e20 => ?_)
        have i20 := inv_I hI (n := 480) (t := 3) 0 1 rfl (in_ix i19 rfl) rfl e20
        refine g_if_eq 24 30 (gd rfl) rfl rfl (fun c21 => ?_) (fun c21 => ?_)
        · skip
          have i21 := z_eq 0 0 c21 i20 rfl
          refine g_iload_n 31 (gd rfl) rfl rfl ?_
          have n31 : (y2_2).toNatClampNeg = fpl (thg s (160 * (x1).toNatClampNeg)) := by exact (fpl_eq (r := y2_2.toNatClampNeg) (by show y2_2.toInt.toNat ≤ 160; have a0 := h1; unfold In at a0; have a1 := i6; unfold In at a1; have a2 := i19; unfold In at a2; have a3 := t_add e19 i17 i6 rfl; have a4 := i17; unfold In at a4; have a5 := (t_mulc 160 (Or.inl e17) h1 rfl).1; omega) (fun i hi => decide_eq_true (g2_0 i (by have e2 : y2_2.toNatClampNeg = y2_2.toInt.toNat := rfl; have a0 := h1; unfold In at a0; have a1 := i6; unfold In at a1; have a2 := i19; unfold In at a2; have a3 := t_add e19 i17 i6 rfl; have a4 := i17; unfold In at a4; have a5 := (t_mulc 160 (Or.inl e17) h1 rfl).1; omega))) (fun hlt => by first | (exfalso; have e2 : y2_2.toNatClampNeg = y2_2.toInt.toNat := rfl; have a0 := h1; unfold In at a0; have a1 := i6; unfold In at a1; have a2 := i19; unfold In at a2; have a3 := t_add e19 i17 i6 rfl; have a4 := i17; unfold In at a4; have a5 := (t_mulc 160 (Or.inl e17) h1 rfl).1; omega) | (refine decide_eq_false (fun z => z ?_); rw [show 160 * x1.toNatClampNeg + y2_2.toNatClampNeg = z19.toNatClampNeg from (by show 160 * x1.toInt.toNat + y2_2.toInt.toNat = z19.toInt.toNat; have a0 := h1; unfold In at a0; have a1 := i6; unfold In at a1; have a2 := i19; unfold In at a2; have a3 := t_add e19 i17 i6 rfl; have a4 := i17; unfold In at a4; have a5 := (t_mulc 160 (Or.inl e17) h1 rfl).1; omega), ← e20]; exact c21))).symm
          exact g_ireturn (gd rfl) rfl rfl (hP _ _ ⟨y2_2, rfl, rfl, in_w 0 160 i6 rfl, n31⟩)
        · skip
          have i21 := z_ne 1 1 c21 i20 rfl
          refine g_iinc 27 (gd rfl) rfl rfl (Nat.le_of_ble_eq_true rfl) (fun z24 e24 => ?_)
          have i24 := in_add 1 160 e24 i6 (in_c 1 rfl) rfl rfl
          refine g_goto 2 (gd rfl) rfl ?_
          have n2 : ∀ i : Nat, (i : Int) < (z24).toInt → (s.1 112 (160 * (x1).toNatClampNeg + i)).toInt ≠ 0 := by (intro i hi; have e2 : y2_2.toNatClampNeg = y2_2.toInt.toNat := rfl; by_cases c : i = y2_2.toNatClampNeg; (rw [c, show 160 * x1.toNatClampNeg + y2_2.toNatClampNeg = z19.toNatClampNeg from (by show 160 * x1.toInt.toNat + y2_2.toInt.toNat = z19.toInt.toNat; have a0 := h1; unfold In at a0; have a1 := i6; unfold In at a1; have a2 := i24; unfold In at a2; have a3 := t_add e24 i6 (in_c 1 rfl) rfl; have a4 := (in_c 1 rfl); unfold In at a4; have a5 := i19; unfold In at a5; have a6 := t_add e19 i17 i6 rfl; have a7 := i17; unfold In at a7; have a8 := (t_mulc 160 (Or.inl e17) h1 rfl).1; omega), ← e20]; exact c21); exact g2_0 i (by have a0 := h1; unfold In at a0; have a1 := i6; unfold In at a1; have a2 := i24; unfold In at a2; have a3 := t_add e24 i6 (in_c 1 rfl) rfl; have a4 := (in_c 1 rfl); unfold In at a4; have a5 := i19; unfold In at a5; have a6 := t_add e19 i17 i6 rfl; have a7 := i17; unfold In at a7; have a8 := (t_mulc 160 (Or.inl e17) h1 rfl).1; omega))
          exact gg_w (by omega) (gg_f (gf_cons rfl (gf_cons rfl (gf_cons rfl gf_nil))) (ih2  z24  (in_w 0 160 i24 rfl) n2 (m_up mm2 (t_add e24 i6 (in_c 1 rfl) rfl) (in_w 1 1 (in_c 1 rfl) rfl))))
  refine g_enter2 (k := 280) (N := 145801) (by omega) rfl (Nat.le_of_ble_eq_true rfl) ?_
  refine g_iconst 0 1 (gd rfl) rfl rfl ?_
  refine g_istore_n 2 (gd rfl) rfl (Nat.le_of_ble_eq_true rfl) ?_
  have n2 : ∀ i : Nat, (i : Int) < ((Int32.ofInt 0)).toInt → (s.1 112 (160 * (x1).toNatClampNeg + i)).toInt ≠ 0 := by (intro i hi; exfalso; have h0 : (Int32.ofInt 0).toInt = 0 := rfl; omega)
  exact gg_w (by omega) (gg_f (gf_cons rfl (gf_cons rfl (gf_cons rfl gf_nil))) (ct2 161  (Int32.ofInt 0)  (in_w 0 160 (in_c 0 rfl) rfl) n2 (m_in 161 (in_w 0 160 (in_c 0 rfl) rfl) rfl)))

def fm_298 : FM := ([], [], [(109, 23), (109, 24)], [])
/-- GraphHouseModel.blame -/
theorem k_298 {Z : AmZ} {A : Nat → Nat} {s : GS} {ex : va_W} {d : Nat} {X : AmX} {x1 : Int32} {x2 : Int32} (hd : 1 ≤ d) (hI : Inv s) (h1 : In x1 1 5) : GC Z d 298 [.ref (A 109), .int x1, .int x2] (WW Z A s ++ ex) 0 0 (fun v u => ∃ t : GS, Inv t ∧ Fr fm_298 s t ∧ (1 ≤ (t.2.2.1 109 23).toInt) ∧ v = none ∧ u = WW Z A t ++ ex) X := by
  intro post xp hP hX
  refine g_enter2 (k := 298) (N := 900) (by omega) rfl (Nat.le_of_ble_eq_true rfl) ?_
  refine g_aload_n 1 (gd rfl) rfl rfl ?_
  refine g_getI 4 (gd rfl) rfl rfl rfl (fun z1 e1 => ?_)
  have i1 := inv_F hI 0 9 rfl e1
  refine g_if_ne 7 17 (gd rfl) rfl rfl (fun c4 => ?_) (fun c4 => ?_)
  · skip
    have i4 := z_ne 1 9 c4 i1 rfl
    have n17 : 1 ≤ (z1).toInt := by have a0 := h1; unfold In at a0; have a1 := i4; unfold In at a1; omega
    have n17a : 1 ≤ (s.2.2.1 109 23).toInt := by have b0 : z1 = s.2.2.1 109 23 := e1; rw [← b0]; exact n17
    exact g_return (gd rfl) rfl (hP _ _ ⟨s, hI, fr_rf, n17a, rfl, rfl⟩)
  · skip
    have i4 := z_eq 0 0 c4 i1 rfl
    refine g_aload_n 8 (gd rfl) rfl rfl ?_
    refine g_iload_n 9 (gd rfl) rfl rfl ?_
    refine g_putI 12 (gd rfl) rfl rfl rfl rfl ?_
    have hI9 := inv_sF (q := 109) (j := 23) hI rfl (in_w 0 9 h1 rfl)
    refine g_aload_n 13 (gd rfl) rfl rfl ?_
    refine g_iload_n 14 (gd rfl) rfl rfl ?_
    refine g_putI 17 (gd rfl) rfl rfl rfl rfl ?_
    have hI14 := inv_sF (q := 109) (j := 24) hI9 rfl (in_w (-2147483648) 2147483647 (i_rng x2) rfl)
    have n17 : 1 ≤ (x1).toInt := by have a0 := h1; unfold In at a0; omega
    have n17a : 1 ≤ ((sF (sF s 109 23 x1) 109 24 x2).2.2.1 109 23).toInt := by have b0 : x1 = (sF (sF s 109 23 x1) 109 24 x2).2.2.1 109 23 := sF_ne rfl (sF_get); rw [← b0]; exact n17
    exact g_return (gd rfl) rfl (hP _ _ ⟨(sF (sF s 109 23 x1) 109 24 x2), hI14, (fr_sF rfl (fr_sF rfl fr_rf)), n17a, rfl, rfl⟩)

def fm_305 : FM := ([110, 112], [], [], [])
/-- GraphHouseModel.isDone -/
theorem k_305 {Z : AmZ} {A : Nat → Nat} {s : GS} {ex : va_W} {d : Nat} {X : AmX} {x1 : Int32} {x2 : Int32} (hd : 4 ≤ d) (hI : Inv s) (h1 : In x1 97 119) (h2 : In x2 0 2495) (q_0 : 0 ≤ (s.1 110 2).toInt ∧ (s.1 110 2).toInt ≤ 32) : GC Z d 305 [.ref (A 109), .int x1, .int x2] (WW Z A s ++ ex) 0 0 (fun v u => ∃ t : GS, Inv t ∧ Fr fm_305 s t ∧ ∃ z : Int32, v = some (.int z) ∧ u = WW Z A t ++ ex ∧ In z 0 1 ∧ (DNE s t (x1).toInt (x2).toNatClampNeg (z).toInt)) X := by
  intro post xp hP hX
  have ct311 : ∀ (sc311 : GS) (y311_3 : Int32) (y311_4 : Int32), Inv sc311 → Fr fm_305 s sc311 → (sc311 = s) → GG Z (d - 1) 305 post (gx xp) (901) 311 (fun j => xlook j [(0, .ref (A 109)), (1, .int x1), (2, .int x2), (3, .int y311_3), (4, .int y311_4)]) [] (WW Z A sc311 ++ ex) 0 0 := by
    intro sc311 y311_3 y311_4 hIc311 hFc311 g311_0
    refine g_iconst 0 312 (gd rfl) rfl rfl ?_
    have n312 : DNE s sc311 (x1).toInt (x2).toNatClampNeg ((Int32.ofInt 0)).toInt := by exact dne_no g311_0 (by decide)
    exact g_ireturn (gd rfl) rfl (nb01 (in_w 0 1 (in_c 0 rfl) rfl)) (hP _ _ ⟨sc311, hIc311, hFc311, (Int32.ofInt 0), rfl, rfl, in_w 0 1 (in_c 0 rfl) rfl, n312⟩)
  have ct255 : ∀ (sc255 : GS) (y255_3 : Int32) (y255_4 : Int32) (y255_7 : Int32), Inv sc255 → Fr fm_305 s sc255 → (In x1 116 116) → (In y255_7 0 1) → (DNE s sc255 (x1).toInt (x2).toNatClampNeg (y255_7).toInt) → GG Z (d - 1) 305 post (gx xp) (1802) 255 (fun j => xlook j [(0, .ref (A 109)), (1, .int x1), (2, .int x2), (3, .int y255_3), (4, .int y255_4), (7, .int y255_7)]) [] (WW Z A sc255 ++ ex) 0 0 := by
    intro sc255 y255_3 y255_4 y255_7 hIc255 hFc255 j255_1 j255_7 g255_0
    refine g_iload 257 (gd rfl) rfl rfl ?_
    have n257 : DNE s sc255 (x1).toInt (x2).toNatClampNeg (y255_7).toInt := by exact g255_0
    exact g_ireturn (gd rfl) rfl (nb01 (in_w 0 1 j255_7 rfl)) (hP _ _ ⟨sc255, hIc255, hFc255, y255_7, rfl, rfl, in_w 0 1 j255_7 rfl, n257⟩)
  have ct236 : ∀ (sc236 : GS) (y236_3 : Int32) (y236_4 : Int32), Inv sc236 → Fr fm_305 s sc236 → (In x1 116 116) → (sc236 = s) → GG Z (d - 1) 305 post (gx xp) (2703) 236 (fun j => xlook j [(0, .ref (A 109)), (1, .int x1), (2, .int x2), (3, .int y236_3), (4, .int y236_4)]) [] (WW Z A sc236 ++ ex) 0 0 := by
    intro sc236 y236_3 y236_4 hIc236 hFc236 j236_1 g236_0
    refine g_iconst 0 237 (gd rfl) rfl rfl ?_
    refine g_istore 239 (gd rfl) rfl (Nat.le_of_ble_eq_true rfl) ?_
    refine g_iload 241 (gd rfl) rfl rfl ?_
    refine g_if_eq 244 255 (gd rfl) rfl rfl (fun c241 => ?_) (fun c241 => ?_)
    · skip
      have n255 : DNE s sc236 (x1).toInt (x2).toNatClampNeg ((Int32.ofInt 0)).toInt := by exact dne_no g236_0 (by decide)
      exact gg_w (by omega) (gg_f (gf_cons rfl (gf_cons rfl (gf_cons rfl (gf_cons rfl (gf_cons rfl (gf_cons rfl gf_nil)))))) (ct255 sc236 y236_3 y236_4 (Int32.ofInt 0) hIc236 hFc236 (in_w 116 116 j236_1 rfl) (in_w 0 1 (in_c 0 rfl) rfl) n255))
    · skip
      exact zn_ne c241 (in_c 0 rfl) rfl
  have ct188 : ∀ (sc188 : GS) (y188_3 : Int32) (y188_4 : Int32) (y188_5 : Int32) (y188_6 : Int32), Inv sc188 → Fr fm_305 s sc188 → (In x1 97 97) → (In y188_5 0 160) → (In y188_6 0 1) → (DNE s sc188 (x1).toInt (x2).toNatClampNeg (y188_6).toInt) → GG Z (d - 1) 305 post (gx xp) (3604) 188 (fun j => xlook j [(0, .ref (A 109)), (1, .int x1), (2, .int x2), (3, .int y188_3), (4, .int y188_4), (5, .int y188_5), (6, .int y188_6)]) [] (WW Z A sc188 ++ ex) 0 0 := by
    intro sc188 y188_3 y188_4 y188_5 y188_6 hIc188 hFc188 j188_1 j188_5 j188_6 g188_0
    refine g_iload 190 (gd rfl) rfl rfl ?_
    have n190 : DNE s sc188 (x1).toInt (x2).toNatClampNeg (y188_6).toInt := by exact g188_0
    exact g_ireturn (gd rfl) rfl (nb01 (in_w 0 1 j188_6 rfl)) (hP _ _ ⟨sc188, hIc188, hFc188, y188_6, rfl, rfl, in_w 0 1 j188_6 rfl, n190⟩)
  have ct168 : ∀ (sc168 : GS) (y168_3 : Int32) (y168_4 : Int32) (y168_5 : Int32), Inv sc168 → Fr fm_305 s sc168 → (In x1 97 97) → (In y168_5 0 160) → (sc168 = s) → GG Z (d - 1) 305 post (gx xp) (4505) 168 (fun j => xlook j [(0, .ref (A 109)), (1, .int x1), (2, .int x2), (3, .int y168_3), (4, .int y168_4), (5, .int y168_5)]) [] (WW Z A sc168 ++ ex) 0 0 := by
    intro sc168 y168_3 y168_4 y168_5 hIc168 hFc168 j168_1 j168_5 g168_0
    refine g_iconst 0 169 (gd rfl) rfl rfl ?_
    refine g_istore 171 (gd rfl) rfl (Nat.le_of_ble_eq_true rfl) ?_
    refine g_iload 173 (gd rfl) rfl rfl ?_
    refine g_if_eq 176 188 (gd rfl) rfl rfl (fun c173 => ?_) (fun c173 => ?_)
    · skip
      have n188 : DNE s sc168 (x1).toInt (x2).toNatClampNeg ((Int32.ofInt 0)).toInt := by exact dne_no g168_0 (by decide)
      exact gg_w (by omega) (gg_f (gf_cons rfl (gf_cons rfl (gf_cons rfl (gf_cons rfl (gf_cons rfl (gf_cons rfl (gf_cons rfl gf_nil))))))) (ct188 sc168 y168_3 y168_4 y168_5 (Int32.ofInt 0) hIc168 hFc168 (in_w 97 97 j168_1 rfl) (in_w 0 160 j168_5 rfl) (in_w 0 1 (in_c 0 rfl) rfl) n188))
    · skip
      exact zn_ne c173 (in_c 0 rfl) rfl
  refine g_enter2 (k := 305) (N := 5405) (by omega) rfl (Nat.le_of_ble_eq_true rfl) ?_
  refine g_aload_n 1 (gd rfl) rfl rfl ?_
  refine g_getA (q2 := 128) 4 (gd rfl) rfl rfl rfl rfl ?_
  refine g_iload_n 5 (gd rfl) rfl rfl ?_
  refine g_iaload 6 (gd rfl) rfl (n := 2500) rfl (in_ix h2 rfl) (fun z5 e5 => ?_)
  refine g_istore_n 7 (gd rfl) rfl (Nat.le_of_ble_eq_true rfl) ?_
  refine g_aload_n 8 (gd rfl) rfl rfl ?_
  refine g_getA (q2 := 128) 11 (gd rfl) rfl rfl rfl rfl ?_
  refine g_iload_n 12 (gd rfl) rfl rfl ?_
  refine g_iconst 1 13 (gd rfl) rfl rfl ?_
  refine g_iadd 14 (gd rfl) rfl (fun z13 e13 => ?_)
  have i13 := in_add 1 2496 e13 h2 (in_c 1 rfl) rfl rfl
  refine g_iaload 15 (gd rfl) rfl (n := 2500) rfl (in_ix i13 rfl) (fun z14 e14 => ?_)
  refine g_istore 17 (gd rfl) rfl (Nat.le_of_ble_eq_true rfl) ?_
  refine g_iload_n 18 (gd rfl) rfl rfl ?_
  refine g_lsw [(97, 79), (110, 52), (116, 191)] 258 (gd rfl) rfl rfl rfl ⟨fun c18 => ?_, fun c18_0 => ⟨fun c18 => ?_, fun c18_1 => ⟨fun c18 => ?_, fun c18_2 => ?_⟩⟩⟩
  · skip
    have i18 := sw_eq c18
    refine g_aload_n 80 (gd rfl) rfl rfl ?_
    refine g_iconst 2 81 (gd rfl) rfl rfl ?_
    refine g_callv (X := _) (As := [.int (Int32.ofInt 2)]) (r := []) (b := A 109) (q := 109) 84 (gd rfl) rfl rfl rfl rfl rfl (ww_o rfl) (Nat.le_of_ble_eq_true rfl) (Nat.zero_le _) (Nat.zero_le _) (k_280 (by omega) hI (in_w 0 2 (in_c 2 rfl) rfl)) (fun e u h => h) (fun v u h => ?_)
    obtain ⟨z81, rfl, rfl, i81, p81⟩ := h
    show GG _ _ _ _ _ _ _ _ [.int z81] _ _ _
    refine g_istore 86 (gd rfl) rfl (Nat.le_of_ble_eq_true rfl) ?_
    refine g_iload 88 (gd rfl) rfl rfl ?_
    refine g_sipush 160 91 (gd rfl) rfl rfl ?_
    refine g_cmp_ge 94 168 (gd rfl) rfl rfl (fun c91 => ?_) (fun c91 => ?_)
    · skip
      have i91 := r_le2 160 160 c91 (in_c 160 rfl) i81 rfl
      have n168 : s = s := by rfl
      exact gg_w (by omega) (gg_f (gf_cons rfl (gf_cons rfl (gf_cons rfl (gf_cons rfl (gf_cons rfl (gf_cons rfl gf_nil)))))) (ct168 s z5 z14 z81 hI fr_rf (in_w 97 97 i18 rfl) (in_w 0 160 i91 rfl) n168))
    · skip
      have i91 := r_lt1 0 159 c91 i81 (in_c 160 rfl) rfl
      refine g_iload_n 95 (gd rfl) rfl rfl ?_
      refine g_i2l 96 (gd rfl) rfl (fun z95 e95 => ?_)
      have i95 := l_i e95 (i_rng z5)
      refine g_lconst 0 97 (gd rfl) rfl rfl ?_
      refine g_aload_n 98 (gd rfl) rfl rfl ?_
      refine g_getA (q2 := 110) 101 (gd rfl) rfl rfl rfl rfl ?_
      refine g_iconst 2 102 (gd rfl) rfl rfl ?_
      refine g_iaload 103 (gd rfl) rfl (n := 3) rfl (in_ix (in_c 2 rfl) rfl) (fun z102 e102 => ?_)
      have i103 : In z102 0 32 := by rw [e102]; exact q_0
      refine g_iconst 1 104 (gd rfl) rfl rfl ?_
      refine g_isub 105 (gd rfl) rfl (fun z104 e104 => ?_)
      have i104 := in_sub (-1) 31 e104 i103 (in_c 1 rfl) rfl rfl
      refine g_i2l 106 (gd rfl) rfl (fun z105 e105 => ?_)
      have i105 := l_i e105 i104
      refine g_calls (As := [.long z95, .long (Int64.ofInt 0), .long z105]) (r := []) 109 (gd rfl) rfl rfl rfl rfl rfl (Nat.le_of_ble_eq_true rfl) (mc := 0) (ms := 0) (Nat.zero_le _) (Nat.zero_le _) (P := fun v u => _) ?_ (fun v u h => h)
      intro po106 xx106 hp106 hx106
      refine g_enter2 (k := 269) (N := 300) (by omega) rfl (Nat.le_of_ble_eq_true rfl) ?_
      refine g_lload_n 1 (gd rfl) rfl rfl ?_
      refine g_lload_n 2 (gd rfl) rfl rfl ?_
      refine g_lcmp 3 (gd rfl) rfl (fun z106x2 e106x2 => ?_)
      have i106x2 := lc_in e106x2
      refine g_if_lt 6 17 (gd rfl) rfl rfl (fun c106x3 => ?_) (fun c106x3 => ?_)
      · skip
        have i106x3 := z_lt (-1) (-1) c106x3 i106x2 rfl
        have c106x3a := lc_lt e106x2 c106x3
        have i106x3a := lr_lt1 (-2147483648) (-1) c106x3a i95 (l_c 0 rfl) rfl
        have i106x3b := l_b e95 i106x3a
        refine g_iconst 0 18 (gd rfl) rfl rfl ?_
        refine g_ireturn (gd rfl) rfl (nb01 (in_w 0 1 (in_c 0 rfl) rfl)) (hp106 _ _ ?_)
        show GG _ _ _ _ _ _ _ _ [.int (Int32.ofInt 0)] _ _ _
        refine g_if_eq 112 168 (gd rfl) rfl rfl (fun c109 => ?_) (fun c109 => ?_)
        · skip
          have n168 : s = s := by rfl
          exact gg_w (by omega) (gg_f (gf_cons rfl (gf_cons rfl (gf_cons rfl (gf_cons rfl (gf_cons rfl (gf_cons rfl gf_nil)))))) (ct168 s z5 z14 z81 hI fr_rf (in_w 97 97 i18 rfl) (in_w 0 160 i91 rfl) n168))
        · skip
          exact zn_ne c109 (in_c 0 rfl) rfl
      · skip
        have i106x3 := z_ge 0 1 c106x3 i106x2 rfl
        have c106x3a := lc_ge e106x2 c106x3
        have i106x3a := lr_le2 0 2147483647 c106x3a (l_c 0 rfl) i95 rfl
        have i106x3b := l_b e95 i106x3a
        refine g_lload_n 7 (gd rfl) rfl rfl ?_
        refine g_lload 9 (gd rfl) rfl rfl ?_
        refine g_lcmp 10 (gd rfl) rfl (fun z106x9 e106x9 => ?_)
        have i106x9 := lc_in e106x9
        refine g_if_gt 13 17 (gd rfl) rfl rfl (fun c106x10 => ?_) (fun c106x10 => ?_)
        · skip
          have i106x10 := z_gt 1 1 c106x10 i106x9 rfl
          have c106x10a := lc_gt e106x9 c106x10
          refine g_iconst 0 18 (gd rfl) rfl rfl ?_
          refine g_ireturn (gd rfl) rfl (nb01 (in_w 0 1 (in_c 0 rfl) rfl)) (hp106 _ _ ?_)
          show GG _ _ _ _ _ _ _ _ [.int (Int32.ofInt 0)] _ _ _
          refine g_if_eq 112 168 (gd rfl) rfl rfl (fun c109 => ?_) (fun c109 => ?_)
          · skip
            have n168 : s = s := by rfl
            exact gg_w (by omega) (gg_f (gf_cons rfl (gf_cons rfl (gf_cons rfl (gf_cons rfl (gf_cons rfl (gf_cons rfl gf_nil)))))) (ct168 s z5 z14 z81 hI fr_rf (in_w 97 97 i18 rfl) (in_w 0 160 i91 rfl) n168))
          · skip
            exact zn_ne c109 (in_c 0 rfl) rfl
        · skip
          have i106x10 := z_le (-1) 0 c106x10 i106x9 rfl
          have c106x10a := lc_le e106x9 c106x10
          have i106x10a := lr_le1 0 31 c106x10a i106x3a i105 rfl
          have i106x10b := l_b e95 i106x10a
          have i106x10c := lr_le2 0 31 c106x10a i106x3a i105 rfl
          have i106x10d := l_b e105 i106x10c
          refine g_iconst 1 14 (gd rfl) rfl rfl ?_
          refine g_goto 18 (gd rfl) rfl ?_
          refine g_ireturn (gd rfl) rfl (nb01 (in_w 0 1 (in_c 1 rfl) rfl)) (hp106 _ _ ?_)
          show GG _ _ _ _ _ _ _ _ [.int (Int32.ofInt 1)] _ _ _
          refine g_if_eq 112 168 (gd rfl) rfl rfl (fun c109 => ?_) (fun c109 => ?_)
          · skip
            exact zn_eq c109 (in_c 1 rfl) rfl
          · skip
            refine g_iload 114 (gd rfl) rfl rfl ?_
            refine g_i2l 115 (gd rfl) rfl (fun z114 e114 => ?_)
            have i114 := l_i e114 (i_rng z14)
            refine g_lconst 0 116 (gd rfl) rfl rfl ?_
            refine g_aload_n 117 (gd rfl) rfl rfl ?_
            refine g_getA (q2 := 110) 120 (gd rfl) rfl rfl rfl rfl ?_
            refine g_iconst 2 121 (gd rfl) rfl rfl ?_
            refine g_iaload 122 (gd rfl) rfl (n := 3) rfl (in_ix (in_c 2 rfl) rfl) (fun z121 e121 => ?_)
            have q121 : z102 = z121 := (e102).trans e121.symm
            subst q121
            refine g_iconst 1 123 (gd rfl) rfl rfl ?_
            refine g_isub 124 (gd rfl) rfl (fun z123 e123 => ?_)
            have i123 := in_sub (-1) 31 e123 i103 (in_c 1 rfl) rfl rfl
            refine g_i2l 125 (gd rfl) rfl (fun z124 e124 => ?_)
            have i124 := l_i e124 i123
            refine g_calls (As := [.long z114, .long (Int64.ofInt 0), .long z124]) (r := []) 128 (gd rfl) rfl rfl rfl rfl rfl (Nat.le_of_ble_eq_true rfl) (mc := 0) (ms := 0) (Nat.zero_le _) (Nat.zero_le _) (P := fun v u => _) ?_ (fun v u h => h)
            intro po125 xx125 hp125 hx125
            refine g_enter2 (k := 269) (N := 300) (by omega) rfl (Nat.le_of_ble_eq_true rfl) ?_
            refine g_lload_n 1 (gd rfl) rfl rfl ?_
            refine g_lload_n 2 (gd rfl) rfl rfl ?_
            refine g_lcmp 3 (gd rfl) rfl (fun z125x2 e125x2 => ?_)
            have i125x2 := lc_in e125x2
            refine g_if_lt 6 17 (gd rfl) rfl rfl (fun c125x3 => ?_) (fun c125x3 => ?_)
            · skip
              have i125x3 := z_lt (-1) (-1) c125x3 i125x2 rfl
              have c125x3a := lc_lt e125x2 c125x3
              have i125x3a := lr_lt1 (-2147483648) (-1) c125x3a i114 (l_c 0 rfl) rfl
              have i125x3b := l_b e114 i125x3a
              refine g_iconst 0 18 (gd rfl) rfl rfl ?_
              refine g_ireturn (gd rfl) rfl (nb01 (in_w 0 1 (in_c 0 rfl) rfl)) (hp125 _ _ ?_)
              show GG _ _ _ _ _ _ _ _ [.int (Int32.ofInt 0)] _ _ _
              refine g_if_eq 131 168 (gd rfl) rfl rfl (fun c128 => ?_) (fun c128 => ?_)
              · skip
                have n168 : s = s := by rfl
                exact gg_w (by omega) (gg_f (gf_cons rfl (gf_cons rfl (gf_cons rfl (gf_cons rfl (gf_cons rfl (gf_cons rfl gf_nil)))))) (ct168 s z5 z14 z81 hI fr_rf (in_w 97 97 i18 rfl) (in_w 0 160 i91 rfl) n168))
              · skip
                exact zn_ne c128 (in_c 0 rfl) rfl
            · skip
              have i125x3 := z_ge 0 1 c125x3 i125x2 rfl
              have c125x3a := lc_ge e125x2 c125x3
              have i125x3a := lr_le2 0 2147483647 c125x3a (l_c 0 rfl) i114 rfl
              have i125x3b := l_b e114 i125x3a
              refine g_lload_n 7 (gd rfl) rfl rfl ?_
              refine g_lload 9 (gd rfl) rfl rfl ?_
              refine g_lcmp 10 (gd rfl) rfl (fun z125x9 e125x9 => ?_)
              have i125x9 := lc_in e125x9
              refine g_if_gt 13 17 (gd rfl) rfl rfl (fun c125x10 => ?_) (fun c125x10 => ?_)
              · skip
                have i125x10 := z_gt 1 1 c125x10 i125x9 rfl
                have c125x10a := lc_gt e125x9 c125x10
                refine g_iconst 0 18 (gd rfl) rfl rfl ?_
                refine g_ireturn (gd rfl) rfl (nb01 (in_w 0 1 (in_c 0 rfl) rfl)) (hp125 _ _ ?_)
                show GG _ _ _ _ _ _ _ _ [.int (Int32.ofInt 0)] _ _ _
                refine g_if_eq 131 168 (gd rfl) rfl rfl (fun c128 => ?_) (fun c128 => ?_)
                · skip
                  have n168 : s = s := by rfl
                  exact gg_w (by omega) (gg_f (gf_cons rfl (gf_cons rfl (gf_cons rfl (gf_cons rfl (gf_cons rfl (gf_cons rfl gf_nil)))))) (ct168 s z5 z14 z81 hI fr_rf (in_w 97 97 i18 rfl) (in_w 0 160 i91 rfl) n168))
                · skip
                  exact zn_ne c128 (in_c 0 rfl) rfl
              · skip
                have i125x10 := z_le (-1) 0 c125x10 i125x9 rfl
                have c125x10a := lc_le e125x9 c125x10
                have i125x10a := lr_le1 0 31 c125x10a i125x3a i124 rfl
                have i125x10b := l_b e114 i125x10a
                have i125x10c := lr_le2 0 31 c125x10a i125x3a i124 rfl
                have i125x10d := l_b e124 i125x10c
                refine g_iconst 1 14 (gd rfl) rfl rfl ?_
                refine g_goto 18 (gd rfl) rfl ?_
                refine g_ireturn (gd rfl) rfl (nb01 (in_w 0 1 (in_c 1 rfl) rfl)) (hp125 _ _ ?_)
                show GG _ _ _ _ _ _ _ _ [.int (Int32.ofInt 1)] _ _ _
                refine g_if_eq 131 168 (gd rfl) rfl rfl (fun c128 => ?_) (fun c128 => ?_)
                · skip
                  exact zn_eq c128 (in_c 1 rfl) rfl
                · skip
                  refine g_aload_n 132 (gd rfl) rfl rfl ?_
                  refine g_getA (q2 := 128) 135 (gd rfl) rfl rfl rfl rfl ?_
                  refine g_iload_n 136 (gd rfl) rfl rfl ?_
                  refine g_iconst 2 137 (gd rfl) rfl rfl ?_
                  refine g_iadd 138 (gd rfl) rfl (fun z137 e137 => ?_)
                  have i137 := in_add 2 2497 e137 h2 (in_c 2 rfl) rfl rfl
                  refine g_iaload 139 (gd rfl) rfl (n := 2500) rfl (in_ix i137 rfl) (fun z138 e138 => ?_)
                  refine g_calls (As := [.int z138]) (r := []) 142 (gd rfl) rfl rfl rfl rfl rfl (Nat.le_of_ble_eq_true rfl) (mc := 0) (ms := 0) (Nat.zero_le _) (Nat.zero_le _) (P := fun v u => _) ?_ (fun v u h => h)
                  intro po139 xx139 hp139 hx139
                  refine g_enter2 (k := 279) (N := 300) (by omega) rfl (Nat.le_of_ble_eq_true rfl) ?_
                  refine g_iload_n 1 (gd rfl) rfl rfl ?_
                  refine g_i2l 2 (gd rfl) rfl (fun z139x1 e139x1 => ?_)
                  have i139x1 := l_i e139x1 (i_rng z138)
                  refine g_ldc2_w (-1000000) 5 (gd rfl) rfl rfl ?_
                  refine g_ldc2_w 1000000 8 (gd rfl) rfl rfl ?_
                  refine g_calls (As := [.long z139x1, .long (Int64.ofInt (-1000000)), .long (Int64.ofInt 1000000)]) (r := []) 11 (gd rfl) rfl rfl rfl rfl rfl (Nat.le_of_ble_eq_true rfl) (mc := 0) (ms := 0) (Nat.zero_le _) (Nat.zero_le _) (P := fun v u => _) ?_ (fun v u h => h)
                  intro po139x8 xx139x8 hp139x8 hx139x8
                  refine g_enter2 (k := 269) (N := 300) (by omega) rfl (Nat.le_of_ble_eq_true rfl) ?_
                  refine g_lload_n 1 (gd rfl) rfl rfl ?_
                  refine g_lload_n 2 (gd rfl) rfl rfl ?_
                  refine g_lcmp 3 (gd rfl) rfl (fun z139x8x2 e139x8x2 => ?_)
                  have i139x8x2 := lc_in e139x8x2
                  refine g_if_lt 6 17 (gd rfl) rfl rfl (fun c139x8x3 => ?_) (fun c139x8x3 => ?_)
                  · skip
                    have i139x8x3 := z_lt (-1) (-1) c139x8x3 i139x8x2 rfl
                    have c139x8x3a := lc_lt e139x8x2 c139x8x3
                    have i139x8x3a := lr_lt1 (-2147483648) (-1000001) c139x8x3a i139x1 (l_c (-1000000) rfl) rfl
                    have i139x8x3b := l_b e139x1 i139x8x3a
                    refine g_iconst 0 18 (gd rfl) rfl rfl ?_
                    refine g_ireturn (gd rfl) rfl (nb01 (in_w 0 1 (in_c 0 rfl) rfl)) (hp139x8 _ _ ?_)
                    show GG _ _ _ _ _ _ _ _ [.int (Int32.ofInt 0)] _ _ _
                    refine g_ireturn (gd rfl) rfl (nb01 (in_w 0 1 (in_c 0 rfl) rfl)) (hp139 _ _ ?_)
                    show GG _ _ _ _ _ _ _ _ [.int (Int32.ofInt 0)] _ _ _
                    refine g_if_eq 145 168 (gd rfl) rfl rfl (fun c142 => ?_) (fun c142 => ?_)
                    · skip
                      have n168 : s = s := by rfl
                      exact gg_w (by omega) (gg_f (gf_cons rfl (gf_cons rfl (gf_cons rfl (gf_cons rfl (gf_cons rfl (gf_cons rfl gf_nil)))))) (ct168 s z5 z14 z81 hI fr_rf (in_w 97 97 i18 rfl) (in_w 0 160 i91 rfl) n168))
                    · skip
                      exact zn_ne c142 (in_c 0 rfl) rfl
                  · skip
                    have i139x8x3 := z_ge 0 1 c139x8x3 i139x8x2 rfl
                    have c139x8x3a := lc_ge e139x8x2 c139x8x3
                    have i139x8x3a := lr_le2 (-1000000) 2147483647 c139x8x3a (l_c (-1000000) rfl) i139x1 rfl
                    have i139x8x3b := l_b e139x1 i139x8x3a
                    refine g_lload_n 7 (gd rfl) rfl rfl ?_
                    refine g_lload 9 (gd rfl) rfl rfl ?_
                    refine g_lcmp 10 (gd rfl) rfl (fun z139x8x9 e139x8x9 => ?_)
                    have i139x8x9 := lc_in e139x8x9
                    refine g_if_gt 13 17 (gd rfl) rfl rfl (fun c139x8x10 => ?_) (fun c139x8x10 => ?_)
                    · skip
                      have i139x8x10 := z_gt 1 1 c139x8x10 i139x8x9 rfl
                      have c139x8x10a := lc_gt e139x8x9 c139x8x10
                      have i139x8x10a := lr_lt2 1000001 2147483647 c139x8x10a (l_c 1000000 rfl) i139x8x3a rfl
                      have i139x8x10b := l_b e139x1 i139x8x10a
                      refine g_iconst 0 18 (gd rfl) rfl rfl ?_
                      refine g_ireturn (gd rfl) rfl (nb01 (in_w 0 1 (in_c 0 rfl) rfl)) (hp139x8 _ _ ?_)
                      show GG _ _ _ _ _ _ _ _ [.int (Int32.ofInt 0)] _ _ _
                      refine g_ireturn (gd rfl) rfl (nb01 (in_w 0 1 (in_c 0 rfl) rfl)) (hp139 _ _ ?_)
                      show GG _ _ _ _ _ _ _ _ [.int (Int32.ofInt 0)] _ _ _
                      refine g_if_eq 145 168 (gd rfl) rfl rfl (fun c142 => ?_) (fun c142 => ?_)
                      · skip
                        have n168 : s = s := by rfl
                        exact gg_w (by omega) (gg_f (gf_cons rfl (gf_cons rfl (gf_cons rfl (gf_cons rfl (gf_cons rfl (gf_cons rfl gf_nil)))))) (ct168 s z5 z14 z81 hI fr_rf (in_w 97 97 i18 rfl) (in_w 0 160 i91 rfl) n168))
                      · skip
                        exact zn_ne c142 (in_c 0 rfl) rfl
                    · skip
                      have i139x8x10 := z_le (-1) 0 c139x8x10 i139x8x9 rfl
                      have c139x8x10a := lc_le e139x8x9 c139x8x10
                      have i139x8x10a := lr_le1 (-1000000) 1000000 c139x8x10a i139x8x3a (l_c 1000000 rfl) rfl
                      have i139x8x10b := l_b e139x1 i139x8x10a
                      refine g_iconst 1 14 (gd rfl) rfl rfl ?_
                      refine g_goto 18 (gd rfl) rfl ?_
                      refine g_ireturn (gd rfl) rfl (nb01 (in_w 0 1 (in_c 1 rfl) rfl)) (hp139x8 _ _ ?_)
                      show GG _ _ _ _ _ _ _ _ [.int (Int32.ofInt 1)] _ _ _
                      refine g_ireturn (gd rfl) rfl (nb01 (in_w 0 1 (in_c 1 rfl) rfl)) (hp139 _ _ ?_)
                      show GG _ _ _ _ _ _ _ _ [.int (Int32.ofInt 1)] _ _ _
                      refine g_if_eq 145 168 (gd rfl) rfl rfl (fun c142 => ?_) (fun c142 => ?_)
                      · skip
                        exact zn_eq c142 (in_c 1 rfl) rfl
                      · skip
                        refine g_aload_n 146 (gd rfl) rfl rfl ?_
                        refine g_getA (q2 := 128) 149 (gd rfl) rfl rfl rfl rfl ?_
                        refine g_iload_n 150 (gd rfl) rfl rfl ?_
                        refine g_iconst 3 151 (gd rfl) rfl rfl ?_
                        refine g_iadd 152 (gd rfl) rfl (fun z151 e151 => ?_)
                        have i151 := in_add 3 2498 e151 h2 (in_c 3 rfl) rfl rfl
                        refine g_iaload 153 (gd rfl) rfl (n := 2500) rfl (in_ix i151 rfl) (fun z152 e152 => ?_)
                        refine g_i2l 154 (gd rfl) rfl (fun z153 e153 => ?_)
                        have i153 := l_i e153 (i_rng z152)
                        refine g_lconst 0 155 (gd rfl) rfl rfl ?_
                        refine g_ldc2_w 1000000 158 (gd rfl) rfl rfl ?_
                        refine g_calls (As := [.long z153, .long (Int64.ofInt 0), .long (Int64.ofInt 1000000)]) (r := []) 161 (gd rfl) rfl rfl rfl rfl rfl (Nat.le_of_ble_eq_true rfl) (mc := 0) (ms := 0) (Nat.zero_le _) (Nat.zero_le _) (P := fun v u => _) ?_ (fun v u h => h)
                        intro po158 xx158 hp158 hx158
                        refine g_enter2 (k := 269) (N := 300) (by omega) rfl (Nat.le_of_ble_eq_true rfl) ?_
                        refine g_lload_n 1 (gd rfl) rfl rfl ?_
                        refine g_lload_n 2 (gd rfl) rfl rfl ?_
                        refine g_lcmp 3 (gd rfl) rfl (fun z158x2 e158x2 => ?_)
                        have i158x2 := lc_in e158x2
                        refine g_if_lt 6 17 (gd rfl) rfl rfl (fun c158x3 => ?_) (fun c158x3 => ?_)
                        · skip
                          have i158x3 := z_lt (-1) (-1) c158x3 i158x2 rfl
                          have c158x3a := lc_lt e158x2 c158x3
                          have i158x3a := lr_lt1 (-2147483648) (-1) c158x3a i153 (l_c 0 rfl) rfl
                          have i158x3b := l_b e153 i158x3a
                          refine g_iconst 0 18 (gd rfl) rfl rfl ?_
                          refine g_ireturn (gd rfl) rfl (nb01 (in_w 0 1 (in_c 0 rfl) rfl)) (hp158 _ _ ?_)
                          show GG _ _ _ _ _ _ _ _ [.int (Int32.ofInt 0)] _ _ _
                          refine g_if_eq 164 168 (gd rfl) rfl rfl (fun c161 => ?_) (fun c161 => ?_)
                          · skip
                            have n168 : s = s := by rfl
                            exact gg_w (by omega) (gg_f (gf_cons rfl (gf_cons rfl (gf_cons rfl (gf_cons rfl (gf_cons rfl (gf_cons rfl gf_nil)))))) (ct168 s z5 z14 z81 hI fr_rf (in_w 97 97 i18 rfl) (in_w 0 160 i91 rfl) n168))
                          · skip
                            exact zn_ne c161 (in_c 0 rfl) rfl
                        · skip
                          have i158x3 := z_ge 0 1 c158x3 i158x2 rfl
                          have c158x3a := lc_ge e158x2 c158x3
                          have i158x3a := lr_le2 0 2147483647 c158x3a (l_c 0 rfl) i153 rfl
                          have i158x3b := l_b e153 i158x3a
                          refine g_lload_n 7 (gd rfl) rfl rfl ?_
                          refine g_lload 9 (gd rfl) rfl rfl ?_
                          refine g_lcmp 10 (gd rfl) rfl (fun z158x9 e158x9 => ?_)
                          have i158x9 := lc_in e158x9
                          refine g_if_gt 13 17 (gd rfl) rfl rfl (fun c158x10 => ?_) (fun c158x10 => ?_)
                          · skip
                            have i158x10 := z_gt 1 1 c158x10 i158x9 rfl
                            have c158x10a := lc_gt e158x9 c158x10
                            have i158x10a := lr_lt2 1000001 2147483647 c158x10a (l_c 1000000 rfl) i158x3a rfl
                            have i158x10b := l_b e153 i158x10a
                            refine g_iconst 0 18 (gd rfl) rfl rfl ?_
                            refine g_ireturn (gd rfl) rfl (nb01 (in_w 0 1 (in_c 0 rfl) rfl)) (hp158 _ _ ?_)
                            show GG _ _ _ _ _ _ _ _ [.int (Int32.ofInt 0)] _ _ _
                            refine g_if_eq 164 168 (gd rfl) rfl rfl (fun c161 => ?_) (fun c161 => ?_)
                            · skip
                              have n168 : s = s := by rfl
                              exact gg_w (by omega) (gg_f (gf_cons rfl (gf_cons rfl (gf_cons rfl (gf_cons rfl (gf_cons rfl (gf_cons rfl gf_nil)))))) (ct168 s z5 z14 z81 hI fr_rf (in_w 97 97 i18 rfl) (in_w 0 160 i91 rfl) n168))
                            · skip
                              exact zn_ne c161 (in_c 0 rfl) rfl
                          · skip
                            have i158x10 := z_le (-1) 0 c158x10 i158x9 rfl
                            have c158x10a := lc_le e158x9 c158x10
                            have i158x10a := lr_le1 0 1000000 c158x10a i158x3a (l_c 1000000 rfl) rfl
                            have i158x10b := l_b e153 i158x10a
                            refine g_iconst 1 14 (gd rfl) rfl rfl ?_
                            refine g_goto 18 (gd rfl) rfl ?_
                            refine g_ireturn (gd rfl) rfl (nb01 (in_w 0 1 (in_c 1 rfl) rfl)) (hp158 _ _ ?_)
                            show GG _ _ _ _ _ _ _ _ [.int (Int32.ofInt 1)] _ _ _
                            refine g_if_eq 164 168 (gd rfl) rfl rfl (fun c161 => ?_) (fun c161 => ?_)
                            · skip
                              exact zn_eq c161 (in_c 1 rfl) rfl
                            · skip
                              refine g_iconst 1 165 (gd rfl) rfl rfl ?_
                              refine g_goto 169 (gd rfl) rfl ?_
                              refine g_istore 171 (gd rfl) rfl (Nat.le_of_ble_eq_true rfl) ?_
                              refine g_iload 173 (gd rfl) rfl rfl ?_
                              refine g_if_eq 176 188 (gd rfl) rfl rfl (fun c173 => ?_) (fun c173 => ?_)
                              · skip
                                exact zn_eq c173 (in_c 1 rfl) rfl
                              · skip
                                refine g_aload_n 177 (gd rfl) rfl rfl ?_
                                refine g_getA (q2 := 112) 180 (gd rfl) rfl rfl rfl rfl ?_
                                refine g_sipush 320 183 (gd rfl) rfl rfl ?_
                                refine g_iload 185 (gd rfl) rfl rfl ?_
                                refine g_iadd 186 (gd rfl) rfl (fun z185 e185 => ?_)
                                have i185 := in_add 320 479 e185 (in_c 320 rfl) i91 rfl rfl
                                refine g_iconst 1 187 (gd rfl) rfl rfl ?_
                                refine g_bastore 188 (gd rfl) rfl (n := 480) rfl (in_ix i185 rfl) ?_
                                have hI187 : Inv (sI s 112 z185.toNatClampNeg (vp_nar .boolean (Int32.ofInt 1))) := by exact inv_t3 hI (by show 320 ≤ (z185).toInt.toNat; have a0 := h2; unfold In at a0; have a1 := i18; unfold In at a1; have a2 := (in_c 1 rfl); unfold In at a2; have a3 := i91; unfold In at a3; have a4 := i125x10b; unfold In at a4; have a5 := i106x10b; unfold In at a5; have a6 := i185; unfold In at a6; have a7 := t_add e185 (in_c 320 rfl) i91 rfl; have a8 := (in_c 320 rfl); unfold In at a8; have a9 := tx_i2l e153; have a10 := i158x10b; unfold In at a10; have a11 := i151; unfold In at a11; have a12 := t_add e151 h2 (in_c 3 rfl) rfl; have a13 := (in_c 3 rfl); unfold In at a13; have a14 := tx_i2l e139x1; have a15 := i139x8x10b; unfold In at a15; have a16 := i137; unfold In at a16; have a17 := t_add e137 h2 (in_c 2 rfl) rfl; have a18 := (in_c 2 rfl); unfold In at a18; have a19 := tx_i2l e124; have a20 := i125x10d; unfold In at a20; have a21 := t_sub e123 i103 (in_c 1 rfl) rfl; have a22 := i103; unfold In at a22; have a23 := tx_i2l e114; have a24 := tx_i2l e105; have a25 := i106x10d; unfold In at a25; have a26 := t_sub e104 i103 (in_c 1 rfl) rfl; have a27 := tx_i2l e95; have a28 := i13; unfold In at a28; have a29 := t_add e13 h2 (in_c 1 rfl) rfl; omega) (in_w 0 1 (nar01 (in_w 0 1 (in_c 1 rfl) rfl)) rfl)
                                have n188 : DNE s (sI s 112 z185.toNatClampNeg (vp_nar .boolean (Int32.ofInt 1))) (x1).toInt (x2).toNatClampNeg ((Int32.ofInt 1)).toInt := by exact dne_a (p := z81.toNatClampNeg) (by have a0 := h2; unfold In at a0; have a1 := i18; unfold In at a1; have a2 := (in_c 1 rfl); unfold In at a2; have a3 := i91; unfold In at a3; have a4 := i125x10b; unfold In at a4; have a5 := i106x10b; unfold In at a5; have a6 := i185; unfold In at a6; have a7 := t_add e185 (in_c 320 rfl) i91 rfl; have a8 := (in_c 320 rfl); unfold In at a8; have a9 := tx_i2l e153; have a10 := i158x10b; unfold In at a10; have a11 := i151; unfold In at a11; have a12 := t_add e151 h2 (in_c 3 rfl) rfl; have a13 := (in_c 3 rfl); unfold In at a13; have a14 := tx_i2l e139x1; have a15 := i139x8x10b; unfold In at a15; have a16 := i137; unfold In at a16; have a17 := t_add e137 h2 (in_c 2 rfl) rfl; have a18 := (in_c 2 rfl); unfold In at a18; have a19 := tx_i2l e124; have a20 := i125x10d; unfold In at a20; have a21 := t_sub e123 i103 (in_c 1 rfl) rfl; have a22 := i103; unfold In at a22; have a23 := tx_i2l e114; have a24 := tx_i2l e105; have a25 := i106x10d; unfold In at a25; have a26 := t_sub e104 i103 (in_c 1 rfl) rfl; have a27 := tx_i2l e95; have a28 := i13; unfold In at a28; have a29 := t_add e13 h2 (in_c 1 rfl) rfl; omega) p81 (by show z81.toInt.toNat < 160; have a0 := h2; unfold In at a0; have a1 := i18; unfold In at a1; have a2 := (in_c 1 rfl); unfold In at a2; have a3 := i91; unfold In at a3; have a4 := i125x10b; unfold In at a4; have a5 := i106x10b; unfold In at a5; have a6 := i185; unfold In at a6; have a7 := t_add e185 (in_c 320 rfl) i91 rfl; have a8 := (in_c 320 rfl); unfold In at a8; have a9 := tx_i2l e153; have a10 := i158x10b; unfold In at a10; have a11 := i151; unfold In at a11; have a12 := t_add e151 h2 (in_c 3 rfl) rfl; have a13 := (in_c 3 rfl); unfold In at a13; have a14 := tx_i2l e139x1; have a15 := i139x8x10b; unfold In at a15; have a16 := i137; unfold In at a16; have a17 := t_add e137 h2 (in_c 2 rfl) rfl; have a18 := (in_c 2 rfl); unfold In at a18; have a19 := tx_i2l e124; have a20 := i125x10d; unfold In at a20; have a21 := t_sub e123 i103 (in_c 1 rfl) rfl; have a22 := i103; unfold In at a22; have a23 := tx_i2l e114; have a24 := tx_i2l e105; have a25 := i106x10d; unfold In at a25; have a26 := t_sub e104 i103 (in_c 1 rfl) rfl; have a27 := tx_i2l e95; have a28 := i13; unfold In at a28; have a29 := t_add e13 h2 (in_c 1 rfl) rfl; omega) (by show z185.toInt.toNat = 320 + z81.toInt.toNat; have a0 := h2; unfold In at a0; have a1 := i18; unfold In at a1; have a2 := (in_c 1 rfl); unfold In at a2; have a3 := i91; unfold In at a3; have a4 := i125x10b; unfold In at a4; have a5 := i106x10b; unfold In at a5; have a6 := i185; unfold In at a6; have a7 := t_add e185 (in_c 320 rfl) i91 rfl; have a8 := (in_c 320 rfl); unfold In at a8; have a9 := tx_i2l e153; have a10 := i158x10b; unfold In at a10; have a11 := i151; unfold In at a11; have a12 := t_add e151 h2 (in_c 3 rfl) rfl; have a13 := (in_c 3 rfl); unfold In at a13; have a14 := tx_i2l e139x1; have a15 := i139x8x10b; unfold In at a15; have a16 := i137; unfold In at a16; have a17 := t_add e137 h2 (in_c 2 rfl) rfl; have a18 := (in_c 2 rfl); unfold In at a18; have a19 := tx_i2l e124; have a20 := i125x10d; unfold In at a20; have a21 := t_sub e123 i103 (in_c 1 rfl) rfl; have a22 := i103; unfold In at a22; have a23 := tx_i2l e114; have a24 := tx_i2l e105; have a25 := i106x10d; unfold In at a25; have a26 := t_sub e104 i103 (in_c 1 rfl) rfl; have a27 := tx_i2l e95; have a28 := i13; unfold In at a28; have a29 := t_add e13 h2 (in_c 1 rfl) rfl; omega) ⟨by rw [← e5]; have h := i106x3b.1; omega, by rw [← e5]; have ha := c106x10a; have hb := tx_i2l e95; have hc := tx_i2l e105; have he : z102 = s.1 110 2 := e102; rw [← he]; have a0 := h2; unfold In at a0; have a1 := i18; unfold In at a1; have a2 := (in_c 1 rfl); unfold In at a2; have a3 := i91; unfold In at a3; have a4 := i125x10b; unfold In at a4; have a5 := i106x10b; unfold In at a5; have a6 := i185; unfold In at a6; have a7 := t_add e185 (in_c 320 rfl) i91 rfl; have a8 := (in_c 320 rfl); unfold In at a8; have a9 := tx_i2l e153; have a10 := i158x10b; unfold In at a10; have a11 := i151; unfold In at a11; have a12 := t_add e151 h2 (in_c 3 rfl) rfl; have a13 := (in_c 3 rfl); unfold In at a13; have a14 := tx_i2l e139x1; have a15 := i139x8x10b; unfold In at a15; have a16 := i137; unfold In at a16; have a17 := t_add e137 h2 (in_c 2 rfl) rfl; have a18 := (in_c 2 rfl); unfold In at a18; have a19 := tx_i2l e124; have a20 := i125x10d; unfold In at a20; have a21 := t_sub e123 i103 (in_c 1 rfl) rfl; have a22 := i103; unfold In at a22; have a23 := tx_i2l e114; have a24 := tx_i2l e105; have a25 := i106x10d; unfold In at a25; have a26 := t_sub e104 i103 (in_c 1 rfl) rfl; have a27 := tx_i2l e95; have a28 := i13; unfold In at a28; have a29 := t_add e13 h2 (in_c 1 rfl) rfl; omega⟩ ⟨by rw [show x2.toNatClampNeg + 1 = z13.toNatClampNeg from (by show x2.toInt.toNat + 1 = z13.toInt.toNat; have a0 := h2; unfold In at a0; have a1 := i18; unfold In at a1; have a2 := (in_c 1 rfl); unfold In at a2; have a3 := i91; unfold In at a3; have a4 := i125x10b; unfold In at a4; have a5 := i106x10b; unfold In at a5; have a6 := i185; unfold In at a6; have a7 := t_add e185 (in_c 320 rfl) i91 rfl; have a8 := (in_c 320 rfl); unfold In at a8; have a9 := tx_i2l e153; have a10 := i158x10b; unfold In at a10; have a11 := i151; unfold In at a11; have a12 := t_add e151 h2 (in_c 3 rfl) rfl; have a13 := (in_c 3 rfl); unfold In at a13; have a14 := tx_i2l e139x1; have a15 := i139x8x10b; unfold In at a15; have a16 := i137; unfold In at a16; have a17 := t_add e137 h2 (in_c 2 rfl) rfl; have a18 := (in_c 2 rfl); unfold In at a18; have a19 := tx_i2l e124; have a20 := i125x10d; unfold In at a20; have a21 := t_sub e123 i103 (in_c 1 rfl) rfl; have a22 := i103; unfold In at a22; have a23 := tx_i2l e114; have a24 := tx_i2l e105; have a25 := i106x10d; unfold In at a25; have a26 := t_sub e104 i103 (in_c 1 rfl) rfl; have a27 := tx_i2l e95; have a28 := i13; unfold In at a28; have a29 := t_add e13 h2 (in_c 1 rfl) rfl; omega), ← e14]; have h := i125x3b.1; omega, by rw [show x2.toNatClampNeg + 1 = z13.toNatClampNeg from (by show x2.toInt.toNat + 1 = z13.toInt.toNat; have a0 := h2; unfold In at a0; have a1 := i18; unfold In at a1; have a2 := (in_c 1 rfl); unfold In at a2; have a3 := i91; unfold In at a3; have a4 := i125x10b; unfold In at a4; have a5 := i106x10b; unfold In at a5; have a6 := i185; unfold In at a6; have a7 := t_add e185 (in_c 320 rfl) i91 rfl; have a8 := (in_c 320 rfl); unfold In at a8; have a9 := tx_i2l e153; have a10 := i158x10b; unfold In at a10; have a11 := i151; unfold In at a11; have a12 := t_add e151 h2 (in_c 3 rfl) rfl; have a13 := (in_c 3 rfl); unfold In at a13; have a14 := tx_i2l e139x1; have a15 := i139x8x10b; unfold In at a15; have a16 := i137; unfold In at a16; have a17 := t_add e137 h2 (in_c 2 rfl) rfl; have a18 := (in_c 2 rfl); unfold In at a18; have a19 := tx_i2l e124; have a20 := i125x10d; unfold In at a20; have a21 := t_sub e123 i103 (in_c 1 rfl) rfl; have a22 := i103; unfold In at a22; have a23 := tx_i2l e114; have a24 := tx_i2l e105; have a25 := i106x10d; unfold In at a25; have a26 := t_sub e104 i103 (in_c 1 rfl) rfl; have a27 := tx_i2l e95; have a28 := i13; unfold In at a28; have a29 := t_add e13 h2 (in_c 1 rfl) rfl; omega), ← e14]; have ha := c125x10a; have hb := tx_i2l e114; have hc := tx_i2l e124; have he : z102 = s.1 110 2 := e102; rw [← he]; have a0 := h2; unfold In at a0; have a1 := i18; unfold In at a1; have a2 := (in_c 1 rfl); unfold In at a2; have a3 := i91; unfold In at a3; have a4 := i125x10b; unfold In at a4; have a5 := i106x10b; unfold In at a5; have a6 := i185; unfold In at a6; have a7 := t_add e185 (in_c 320 rfl) i91 rfl; have a8 := (in_c 320 rfl); unfold In at a8; have a9 := tx_i2l e153; have a10 := i158x10b; unfold In at a10; have a11 := i151; unfold In at a11; have a12 := t_add e151 h2 (in_c 3 rfl) rfl; have a13 := (in_c 3 rfl); unfold In at a13; have a14 := tx_i2l e139x1; have a15 := i139x8x10b; unfold In at a15; have a16 := i137; unfold In at a16; have a17 := t_add e137 h2 (in_c 2 rfl) rfl; have a18 := (in_c 2 rfl); unfold In at a18; have a19 := tx_i2l e124; have a20 := i125x10d; unfold In at a20; have a21 := t_sub e123 i103 (in_c 1 rfl) rfl; have a22 := i103; unfold In at a22; have a23 := tx_i2l e114; have a24 := tx_i2l e105; have a25 := i106x10d; unfold In at a25; have a26 := t_sub e104 i103 (in_c 1 rfl) rfl; have a27 := tx_i2l e95; have a28 := i13; unfold In at a28; have a29 := t_add e13 h2 (in_c 1 rfl) rfl; omega⟩ (by rw [show x2.toNatClampNeg + 2 = z137.toNatClampNeg from (by show x2.toInt.toNat + 2 = z137.toInt.toNat; have a0 := h2; unfold In at a0; have a1 := i18; unfold In at a1; have a2 := (in_c 1 rfl); unfold In at a2; have a3 := i91; unfold In at a3; have a4 := i125x10b; unfold In at a4; have a5 := i106x10b; unfold In at a5; have a6 := i185; unfold In at a6; have a7 := t_add e185 (in_c 320 rfl) i91 rfl; have a8 := (in_c 320 rfl); unfold In at a8; have a9 := tx_i2l e153; have a10 := i158x10b; unfold In at a10; have a11 := i151; unfold In at a11; have a12 := t_add e151 h2 (in_c 3 rfl) rfl; have a13 := (in_c 3 rfl); unfold In at a13; have a14 := tx_i2l e139x1; have a15 := i139x8x10b; unfold In at a15; have a16 := i137; unfold In at a16; have a17 := t_add e137 h2 (in_c 2 rfl) rfl; have a18 := (in_c 2 rfl); unfold In at a18; have a19 := tx_i2l e124; have a20 := i125x10d; unfold In at a20; have a21 := t_sub e123 i103 (in_c 1 rfl) rfl; have a22 := i103; unfold In at a22; have a23 := tx_i2l e114; have a24 := tx_i2l e105; have a25 := i106x10d; unfold In at a25; have a26 := t_sub e104 i103 (in_c 1 rfl) rfl; have a27 := tx_i2l e95; have a28 := i13; unfold In at a28; have a29 := t_add e13 h2 (in_c 1 rfl) rfl; omega), ← e138]; exact i139x8x10b) (by rw [show x2.toNatClampNeg + 3 = z151.toNatClampNeg from (by show x2.toInt.toNat + 3 = z151.toInt.toNat; have a0 := h2; unfold In at a0; have a1 := i18; unfold In at a1; have a2 := (in_c 1 rfl); unfold In at a2; have a3 := i91; unfold In at a3; have a4 := i125x10b; unfold In at a4; have a5 := i106x10b; unfold In at a5; have a6 := i185; unfold In at a6; have a7 := t_add e185 (in_c 320 rfl) i91 rfl; have a8 := (in_c 320 rfl); unfold In at a8; have a9 := tx_i2l e153; have a10 := i158x10b; unfold In at a10; have a11 := i151; unfold In at a11; have a12 := t_add e151 h2 (in_c 3 rfl) rfl; have a13 := (in_c 3 rfl); unfold In at a13; have a14 := tx_i2l e139x1; have a15 := i139x8x10b; unfold In at a15; have a16 := i137; unfold In at a16; have a17 := t_add e137 h2 (in_c 2 rfl) rfl; have a18 := (in_c 2 rfl); unfold In at a18; have a19 := tx_i2l e124; have a20 := i125x10d; unfold In at a20; have a21 := t_sub e123 i103 (in_c 1 rfl) rfl; have a22 := i103; unfold In at a22; have a23 := tx_i2l e114; have a24 := tx_i2l e105; have a25 := i106x10d; unfold In at a25; have a26 := t_sub e104 i103 (in_c 1 rfl) rfl; have a27 := tx_i2l e95; have a28 := i13; unfold In at a28; have a29 := t_add e13 h2 (in_c 1 rfl) rfl; omega), ← e152]; exact i158x10b)
                                exact gg_w (by omega) (gg_f (gf_cons rfl (gf_cons rfl (gf_cons rfl (gf_cons rfl (gf_cons rfl (gf_cons rfl (gf_cons rfl gf_nil))))))) (ct188 (sI s 112 z185.toNatClampNeg (vp_nar .boolean (Int32.ofInt 1))) z5 z14 z81 (Int32.ofInt 1) hI187 (fr_sI rfl fr_rf) (in_w 97 97 i18 rfl) (in_w 0 160 i91 rfl) (in_w 0 1 (in_c 1 rfl) rfl) n188))
  · skip
    have i18 := sw_eq c18
    refine g_aload_n 53 (gd rfl) rfl rfl ?_
    refine g_getA (q2 := 110) 56 (gd rfl) rfl rfl rfl rfl ?_
    refine g_iconst 2 57 (gd rfl) rfl rfl ?_
    refine g_dup2 58 (gd rfl) rfl rfl rfl ?_
    refine g_iaload 59 (gd rfl) rfl (n := 3) rfl (in_ix (in_c 2 rfl) rfl) (fun z58 e58 => ?_)
    have i59 : In z58 0 32 := by rw [e58]; exact q_0
    refine g_iconst 1 60 (gd rfl) rfl rfl ?_
    refine g_iadd 61 (gd rfl) rfl (fun z60 e60 => ?_)
    have i60 := in_add 1 33 e60 i59 (in_c 1 rfl) rfl rfl
    refine g_iastore 62 (gd rfl) rfl (n := 3) rfl (in_ix (in_c 2 rfl) rfl) ?_
    have hI61 : Inv (sI s 110 (Int32.ofInt 2).toNatClampNeg z60) := by exact inv_n2 hI (Nat.le_refl 2)
    refine g_aload_n 63 (gd rfl) rfl rfl ?_
    refine g_getA (q2 := 110) 66 (gd rfl) rfl rfl rfl rfl ?_
    refine g_iconst 2 67 (gd rfl) rfl rfl ?_
    refine g_iaload 68 (gd rfl) rfl (n := 3) rfl (in_ix (in_c 2 rfl) rfl) (fun z67 e67 => ?_)
    have q67 : z60 = z67 := (sI_get).trans e67.symm
    subst q67
    refine g_bipush 32 70 (gd rfl) rfl rfl ?_
    refine g_cmp_gt 73 77 (gd rfl) rfl rfl (fun c70 => ?_) (fun c70 => ?_)
    · skip
      have i70 := r_lt2 33 33 c70 (in_c 32 rfl) i60 rfl
      refine g_iconst 0 78 (gd rfl) rfl rfl ?_
      have n78 : DNE s (sI s 110 (Int32.ofInt 2).toNatClampNeg z60) (x1).toInt (x2).toNatClampNeg ((Int32.ofInt 0)).toInt := by exact dne_n (by have a0 := h2; unfold In at a0; have a1 := i18; unfold In at a1; have a2 := i70; unfold In at a2; have a3 := t_add e60 i59 (in_c 1 rfl) rfl; have a4 := (in_c 1 rfl); unfold In at a4; have a5 := i59; unfold In at a5; have a6 := i13; unfold In at a6; have a7 := t_add e13 h2 (in_c 1 rfl) rfl; omega) e58 (by have a0 := h2; unfold In at a0; have a1 := i18; unfold In at a1; have a2 := i70; unfold In at a2; have a3 := t_add e60 i59 (in_c 1 rfl) rfl; have a4 := (in_c 1 rfl); unfold In at a4; have a5 := i59; unfold In at a5; have a6 := i13; unfold In at a6; have a7 := t_add e13 h2 (in_c 1 rfl) rfl; omega) (fun hz => by first | (exact absurd (by decide) hz) | (have h := i70; unfold In at h; omega))
      exact g_ireturn (gd rfl) rfl (nb01 (in_w 0 1 (in_c 0 rfl) rfl)) (hP _ _ ⟨(sI s 110 (Int32.ofInt 2).toNatClampNeg z60), hI61, (fr_sI rfl fr_rf), (Int32.ofInt 0), rfl, rfl, in_w 0 1 (in_c 0 rfl) rfl, n78⟩)
    · skip
      have i70 := r_le1 1 32 c70 i60 (in_c 32 rfl) rfl
      refine g_iconst 1 74 (gd rfl) rfl rfl ?_
      refine g_goto 78 (gd rfl) rfl ?_
      have n78 : DNE s (sI s 110 (Int32.ofInt 2).toNatClampNeg z60) (x1).toInt (x2).toNatClampNeg ((Int32.ofInt 1)).toInt := by exact dne_n (by have a0 := h2; unfold In at a0; have a1 := i18; unfold In at a1; have a2 := i70; unfold In at a2; have a3 := t_add e60 i59 (in_c 1 rfl) rfl; have a4 := (in_c 1 rfl); unfold In at a4; have a5 := i59; unfold In at a5; have a6 := i13; unfold In at a6; have a7 := t_add e13 h2 (in_c 1 rfl) rfl; omega) e58 (by have a0 := h2; unfold In at a0; have a1 := i18; unfold In at a1; have a2 := i70; unfold In at a2; have a3 := t_add e60 i59 (in_c 1 rfl) rfl; have a4 := (in_c 1 rfl); unfold In at a4; have a5 := i59; unfold In at a5; have a6 := i13; unfold In at a6; have a7 := t_add e13 h2 (in_c 1 rfl) rfl; omega) (fun hz => by first | (exact absurd (by decide) hz) | (have h := i70; unfold In at h; omega))
      exact g_ireturn (gd rfl) rfl (nb01 (in_w 0 1 (in_c 1 rfl) rfl)) (hP _ _ ⟨(sI s 110 (Int32.ofInt 2).toNatClampNeg z60), hI61, (fr_sI rfl fr_rf), (Int32.ofInt 1), rfl, rfl, in_w 0 1 (in_c 1 rfl) rfl, n78⟩)
  · skip
    have i18 := sw_eq c18
    refine g_iload_n 192 (gd rfl) rfl rfl ?_
    refine g_i2l 193 (gd rfl) rfl (fun z192 e192 => ?_)
    have i192 := l_i e192 (i_rng z5)
    refine g_lconst 0 194 (gd rfl) rfl rfl ?_
    refine g_ldc2_w 159 197 (gd rfl) rfl rfl ?_
    refine g_calls (As := [.long z192, .long (Int64.ofInt 0), .long (Int64.ofInt 159)]) (r := []) 200 (gd rfl) rfl rfl rfl rfl rfl (Nat.le_of_ble_eq_true rfl) (mc := 0) (ms := 0) (Nat.zero_le _) (Nat.zero_le _) (P := fun v u => _) ?_ (fun v u h => h)
    intro po197 xx197 hp197 hx197
    refine g_enter2 (k := 269) (N := 300) (by omega) rfl (Nat.le_of_ble_eq_true rfl) ?_
    refine g_lload_n 1 (gd rfl) rfl rfl ?_
    refine g_lload_n 2 (gd rfl) rfl rfl ?_
    refine g_lcmp 3 (gd rfl) rfl (fun z197x2 e197x2 => ?_)
    have i197x2 := lc_in e197x2
    refine g_if_lt 6 17 (gd rfl) rfl rfl (fun c197x3 => ?_) (fun c197x3 => ?_)
    · skip
      have i197x3 := z_lt (-1) (-1) c197x3 i197x2 rfl
      have c197x3a := lc_lt e197x2 c197x3
      have i197x3a := lr_lt1 (-2147483648) (-1) c197x3a i192 (l_c 0 rfl) rfl
      have i197x3b := l_b e192 i197x3a
      refine g_iconst 0 18 (gd rfl) rfl rfl ?_
      refine g_ireturn (gd rfl) rfl (nb01 (in_w 0 1 (in_c 0 rfl) rfl)) (hp197 _ _ ?_)
      show GG _ _ _ _ _ _ _ _ [.int (Int32.ofInt 0)] _ _ _
      refine g_if_eq 203 236 (gd rfl) rfl rfl (fun c200 => ?_) (fun c200 => ?_)
      · skip
        have n236 : s = s := by rfl
        exact gg_w (by omega) (gg_f (gf_cons rfl (gf_cons rfl (gf_cons rfl (gf_cons rfl (gf_cons rfl gf_nil))))) (ct236 s z5 z14 hI fr_rf (in_w 116 116 i18 rfl) n236))
      · skip
        exact zn_ne c200 (in_c 0 rfl) rfl
    · skip
      have i197x3 := z_ge 0 1 c197x3 i197x2 rfl
      have c197x3a := lc_ge e197x2 c197x3
      have i197x3a := lr_le2 0 2147483647 c197x3a (l_c 0 rfl) i192 rfl
      have i197x3b := l_b e192 i197x3a
      refine g_lload_n 7 (gd rfl) rfl rfl ?_
      refine g_lload 9 (gd rfl) rfl rfl ?_
      refine g_lcmp 10 (gd rfl) rfl (fun z197x9 e197x9 => ?_)
      have i197x9 := lc_in e197x9
      refine g_if_gt 13 17 (gd rfl) rfl rfl (fun c197x10 => ?_) (fun c197x10 => ?_)
      · skip
        have i197x10 := z_gt 1 1 c197x10 i197x9 rfl
        have c197x10a := lc_gt e197x9 c197x10
        have i197x10a := lr_lt2 160 2147483647 c197x10a (l_c 159 rfl) i197x3a rfl
        have i197x10b := l_b e192 i197x10a
        refine g_iconst 0 18 (gd rfl) rfl rfl ?_
        refine g_ireturn (gd rfl) rfl (nb01 (in_w 0 1 (in_c 0 rfl) rfl)) (hp197 _ _ ?_)
        show GG _ _ _ _ _ _ _ _ [.int (Int32.ofInt 0)] _ _ _
        refine g_if_eq 203 236 (gd rfl) rfl rfl (fun c200 => ?_) (fun c200 => ?_)
        · skip
          have n236 : s = s := by rfl
          exact gg_w (by omega) (gg_f (gf_cons rfl (gf_cons rfl (gf_cons rfl (gf_cons rfl (gf_cons rfl gf_nil))))) (ct236 s z5 z14 hI fr_rf (in_w 116 116 i18 rfl) n236))
        · skip
          exact zn_ne c200 (in_c 0 rfl) rfl
      · skip
        have i197x10 := z_le (-1) 0 c197x10 i197x9 rfl
        have c197x10a := lc_le e197x9 c197x10
        have i197x10a := lr_le1 0 159 c197x10a i197x3a (l_c 159 rfl) rfl
        have i197x10b := l_b e192 i197x10a
        refine g_iconst 1 14 (gd rfl) rfl rfl ?_
        refine g_goto 18 (gd rfl) rfl ?_
        refine g_ireturn (gd rfl) rfl (nb01 (in_w 0 1 (in_c 1 rfl) rfl)) (hp197 _ _ ?_)
        show GG _ _ _ _ _ _ _ _ [.int (Int32.ofInt 1)] _ _ _
        refine g_if_eq 203 236 (gd rfl) rfl rfl (fun c200 => ?_) (fun c200 => ?_)
        · skip
          exact zn_eq c200 (in_c 1 rfl) rfl
        · skip
          refine g_aload_n 204 (gd rfl) rfl rfl ?_
          refine g_getA (q2 := 112) 207 (gd rfl) rfl rfl rfl rfl ?_
          refine g_sipush 320 210 (gd rfl) rfl rfl ?_
          refine g_iload_n 211 (gd rfl) rfl rfl ?_
          refine g_i2l 212 (gd rfl) rfl (fun z211 e211 => ?_)
          have i211 := l_i e211 i197x10b
          refine g_lconst 0 213 (gd rfl) rfl rfl ?_
          refine g_ldc2_w 159 216 (gd rfl) rfl rfl ?_
          refine g_calls (As := [.long z211, .long (Int64.ofInt 0), .long (Int64.ofInt 159)]) (r := [.int (Int32.ofInt 320), .ref (A 112)]) 219 (gd rfl) rfl rfl rfl rfl rfl (Nat.le_of_ble_eq_true rfl) (mc := 0) (ms := 0) (Nat.zero_le _) (Nat.zero_le _) (P := fun v u => _) ?_ (fun v u h => h)
          intro po216 xx216 hp216 hx216
          refine g_enter2 (k := 269) (N := 300) (by omega) rfl (Nat.le_of_ble_eq_true rfl) ?_
          refine g_lload_n 1 (gd rfl) rfl rfl ?_
          refine g_lload_n 2 (gd rfl) rfl rfl ?_
          refine g_lcmp 3 (gd rfl) rfl (fun z216x2 e216x2 => ?_)
          have i216x2 := lc_in e216x2
          refine g_if_lt 6 17 (gd rfl) rfl rfl (fun c216x3 => ?_) (fun c216x3 => ?_)
          · skip
            have i216x3 := z_lt (-1) (-1) c216x3 i216x2 rfl
            have c216x3a := lc_lt e216x2 c216x3
            exact ln_lt c216x3a i211 (l_c 0 rfl) rfl
          · skip
            have i216x3 := z_ge 0 1 c216x3 i216x2 rfl
            have c216x3a := lc_ge e216x2 c216x3
            refine g_lload_n 7 (gd rfl) rfl rfl ?_
            refine g_lload 9 (gd rfl) rfl rfl ?_
            refine g_lcmp 10 (gd rfl) rfl (fun z216x9 e216x9 => ?_)
            have i216x9 := lc_in e216x9
            refine g_if_gt 13 17 (gd rfl) rfl rfl (fun c216x10 => ?_) (fun c216x10 => ?_)
            · skip
              have i216x10 := z_gt 1 1 c216x10 i216x9 rfl
              have c216x10a := lc_gt e216x9 c216x10
              exact ln_lt c216x10a (l_c 159 rfl) i211 rfl
            · skip
              have i216x10 := z_le (-1) 0 c216x10 i216x9 rfl
              have c216x10a := lc_le e216x9 c216x10
              refine g_iconst 1 14 (gd rfl) rfl rfl ?_
              refine g_goto 18 (gd rfl) rfl ?_
              refine g_ireturn (gd rfl) rfl (nb01 (in_w 0 1 (in_c 1 rfl) rfl)) (hp216 _ _ ?_)
              show GG _ _ _ _ _ _ _ _ [.int (Int32.ofInt 1), .int (Int32.ofInt 320), .ref (A 112)] _ _ _
              refine g_if_eq 222 226 (gd rfl) rfl rfl (fun c219 => ?_) (fun c219 => ?_)
              · skip
                exact zn_eq c219 (in_c 1 rfl) rfl
              · skip
                refine g_iload_n 223 (gd rfl) rfl rfl ?_
                refine g_goto 227 (gd rfl) rfl ?_
                refine g_iadd 228 (gd rfl) rfl (fun z227 e227 => ?_)
                have i227 := in_add 320 479 e227 (in_c 320 rfl) i197x10b rfl rfl
                refine g_baload 229 (gd rfl) rfl (n := 480) rfl (in_ix i227 rfl) (fun z228 e228 => ?_)
                have i228 := inv_I hI (n := 480) (t := 3) 0 1 rfl (in_ix i227 rfl) rfl e228
                refine g_if_eq 232 236 (gd rfl) rfl rfl (fun c229 => ?_) (fun c229 => ?_)
                · skip
                  have i229 := z_eq 0 0 c229 i228 rfl
                  have n236 : s = s := by rfl
                  exact gg_w (by omega) (gg_f (gf_cons rfl (gf_cons rfl (gf_cons rfl (gf_cons rfl (gf_cons rfl gf_nil))))) (ct236 s z5 z14 hI fr_rf (in_w 116 116 i18 rfl) n236))
                · skip
                  have i229 := z_ne 1 1 c229 i228 rfl
                  refine g_iconst 1 233 (gd rfl) rfl rfl ?_
                  refine g_goto 237 (gd rfl) rfl ?_
                  refine g_istore 239 (gd rfl) rfl (Nat.le_of_ble_eq_true rfl) ?_
                  refine g_iload 241 (gd rfl) rfl rfl ?_
                  refine g_if_eq 244 255 (gd rfl) rfl rfl (fun c241 => ?_) (fun c241 => ?_)
                  · skip
                    exact zn_eq c241 (in_c 1 rfl) rfl
                  · skip
                    refine g_aload_n 245 (gd rfl) rfl rfl ?_
                    refine g_getA (q2 := 112) 248 (gd rfl) rfl rfl rfl rfl ?_
                    refine g_sipush 320 251 (gd rfl) rfl rfl ?_
                    refine g_iload_n 252 (gd rfl) rfl rfl ?_
                    refine g_iadd 253 (gd rfl) rfl (fun z252 e252 => ?_)
                    have i252 := in_add 320 479 e252 (in_c 320 rfl) i197x10b rfl rfl
                    refine g_iconst 0 254 (gd rfl) rfl rfl ?_
                    refine g_bastore 255 (gd rfl) rfl (n := 480) rfl (in_ix i252 rfl) ?_
                    have hI254 : Inv (sI s 112 z252.toNatClampNeg (vp_nar .boolean (Int32.ofInt 0))) := by exact inv_t3 hI (by show 320 ≤ (z252).toInt.toNat; have a0 := h2; unfold In at a0; have a1 := i18; unfold In at a1; have a2 := (in_c 1 rfl); unfold In at a2; have a3 := i197x10b; unfold In at a3; have a4 := i252; unfold In at a4; have a5 := t_add e252 (in_c 320 rfl) i197x10b rfl; have a6 := (in_c 320 rfl); unfold In at a6; have a7 := i227; unfold In at a7; have a8 := t_add e227 (in_c 320 rfl) i197x10b rfl; have a9 := tx_i2l e211; have a10 := tx_i2l e192; have a11 := i13; unfold In at a11; have a12 := t_add e13 h2 (in_c 1 rfl) rfl; omega) (in_w 0 1 (nar01 (in_w 0 1 (in_c 0 rfl) rfl)) rfl)
                    have n255 : DNE s (sI s 112 z252.toNatClampNeg (vp_nar .boolean (Int32.ofInt 0))) (x1).toInt (x2).toNatClampNeg ((Int32.ofInt 1)).toInt := by exact dne_t (by have a0 := h2; unfold In at a0; have a1 := i18; unfold In at a1; have a2 := (in_c 1 rfl); unfold In at a2; have a3 := i197x10b; unfold In at a3; have a4 := i252; unfold In at a4; have a5 := t_add e252 (in_c 320 rfl) i197x10b rfl; have a6 := (in_c 320 rfl); unfold In at a6; have a7 := i227; unfold In at a7; have a8 := t_add e227 (in_c 320 rfl) i197x10b rfl; have a9 := tx_i2l e211; have a10 := tx_i2l e192; have a11 := i13; unfold In at a11; have a12 := t_add e13 h2 (in_c 1 rfl) rfl; omega) (by rw [← e5]; exact i197x10b) (by rw [← e5]; show z252.toInt.toNat = 320 + z5.toInt.toNat; have a0 := h2; unfold In at a0; have a1 := i18; unfold In at a1; have a2 := (in_c 1 rfl); unfold In at a2; have a3 := i197x10b; unfold In at a3; have a4 := i252; unfold In at a4; have a5 := t_add e252 (in_c 320 rfl) i197x10b rfl; have a6 := (in_c 320 rfl); unfold In at a6; have a7 := i227; unfold In at a7; have a8 := t_add e227 (in_c 320 rfl) i197x10b rfl; have a9 := tx_i2l e211; have a10 := tx_i2l e192; have a11 := i13; unfold In at a11; have a12 := t_add e13 h2 (in_c 1 rfl) rfl; omega)
                    exact gg_w (by omega) (gg_f (gf_cons rfl (gf_cons rfl (gf_cons rfl (gf_cons rfl (gf_cons rfl (gf_cons rfl gf_nil)))))) (ct255 (sI s 112 z252.toNatClampNeg (vp_nar .boolean (Int32.ofInt 0))) z5 z14 (Int32.ofInt 1) hI254 (fr_sI rfl fr_rf) (in_w 116 116 i18 rfl) (in_w 0 1 (in_c 1 rfl) rfl) n255))
  · skip
    refine g_iload_n 259 (gd rfl) rfl rfl ?_
    refine g_i2l 260 (gd rfl) rfl (fun z259 e259 => ?_)
    have i259 := l_i e259 (i_rng z5)
    refine g_lconst 0 261 (gd rfl) rfl rfl ?_
    refine g_ldc2_w 159 264 (gd rfl) rfl rfl ?_
    refine g_calls (As := [.long z259, .long (Int64.ofInt 0), .long (Int64.ofInt 159)]) (r := []) 267 (gd rfl) rfl rfl rfl rfl rfl (Nat.le_of_ble_eq_true rfl) (mc := 0) (ms := 0) (Nat.zero_le _) (Nat.zero_le _) (P := fun v u => _) ?_ (fun v u h => h)
    intro po264 xx264 hp264 hx264
    refine g_enter2 (k := 269) (N := 300) (by omega) rfl (Nat.le_of_ble_eq_true rfl) ?_
    refine g_lload_n 1 (gd rfl) rfl rfl ?_
    refine g_lload_n 2 (gd rfl) rfl rfl ?_
    refine g_lcmp 3 (gd rfl) rfl (fun z264x2 e264x2 => ?_)
    have i264x2 := lc_in e264x2
    refine g_if_lt 6 17 (gd rfl) rfl rfl (fun c264x3 => ?_) (fun c264x3 => ?_)
    · skip
      have i264x3 := z_lt (-1) (-1) c264x3 i264x2 rfl
      have c264x3a := lc_lt e264x2 c264x3
      have i264x3a := lr_lt1 (-2147483648) (-1) c264x3a i259 (l_c 0 rfl) rfl
      have i264x3b := l_b e259 i264x3a
      refine g_iconst 0 18 (gd rfl) rfl rfl ?_
      refine g_ireturn (gd rfl) rfl (nb01 (in_w 0 1 (in_c 0 rfl) rfl)) (hp264 _ _ ?_)
      show GG _ _ _ _ _ _ _ _ [.int (Int32.ofInt 0)] _ _ _
      refine g_if_eq 270 311 (gd rfl) rfl rfl (fun c267 => ?_) (fun c267 => ?_)
      · skip
        have n311 : s = s := by rfl
        exact gg_w (by omega) (gg_f (gf_cons rfl (gf_cons rfl (gf_cons rfl (gf_cons rfl (gf_cons rfl gf_nil))))) (ct311 s z5 z14 hI fr_rf n311))
      · skip
        exact zn_ne c267 (in_c 0 rfl) rfl
    · skip
      have i264x3 := z_ge 0 1 c264x3 i264x2 rfl
      have c264x3a := lc_ge e264x2 c264x3
      have i264x3a := lr_le2 0 2147483647 c264x3a (l_c 0 rfl) i259 rfl
      have i264x3b := l_b e259 i264x3a
      refine g_lload_n 7 (gd rfl) rfl rfl ?_
      refine g_lload 9 (gd rfl) rfl rfl ?_
      refine g_lcmp 10 (gd rfl) rfl (fun z264x9 e264x9 => ?_)
      have i264x9 := lc_in e264x9
      refine g_if_gt 13 17 (gd rfl) rfl rfl (fun c264x10 => ?_) (fun c264x10 => ?_)
      · skip
        have i264x10 := z_gt 1 1 c264x10 i264x9 rfl
        have c264x10a := lc_gt e264x9 c264x10
        have i264x10a := lr_lt2 160 2147483647 c264x10a (l_c 159 rfl) i264x3a rfl
        have i264x10b := l_b e259 i264x10a
        refine g_iconst 0 18 (gd rfl) rfl rfl ?_
        refine g_ireturn (gd rfl) rfl (nb01 (in_w 0 1 (in_c 0 rfl) rfl)) (hp264 _ _ ?_)
        show GG _ _ _ _ _ _ _ _ [.int (Int32.ofInt 0)] _ _ _
        refine g_if_eq 270 311 (gd rfl) rfl rfl (fun c267 => ?_) (fun c267 => ?_)
        · skip
          have n311 : s = s := by rfl
          exact gg_w (by omega) (gg_f (gf_cons rfl (gf_cons rfl (gf_cons rfl (gf_cons rfl (gf_cons rfl gf_nil))))) (ct311 s z5 z14 hI fr_rf n311))
        · skip
          exact zn_ne c267 (in_c 0 rfl) rfl
      · skip
        have i264x10 := z_le (-1) 0 c264x10 i264x9 rfl
        have c264x10a := lc_le e264x9 c264x10
        have i264x10a := lr_le1 0 159 c264x10a i264x3a (l_c 159 rfl) rfl
        have i264x10b := l_b e259 i264x10a
        refine g_iconst 1 14 (gd rfl) rfl rfl ?_
        refine g_goto 18 (gd rfl) rfl ?_
        refine g_ireturn (gd rfl) rfl (nb01 (in_w 0 1 (in_c 1 rfl) rfl)) (hp264 _ _ ?_)
        show GG _ _ _ _ _ _ _ _ [.int (Int32.ofInt 1)] _ _ _
        refine g_if_eq 270 311 (gd rfl) rfl rfl (fun c267 => ?_) (fun c267 => ?_)
        · skip
          exact zn_eq c267 (in_c 1 rfl) rfl
        · skip
          refine g_aload_n 271 (gd rfl) rfl rfl ?_
          refine g_getA (q2 := 112) 274 (gd rfl) rfl rfl rfl rfl ?_
          refine g_sipush 320 277 (gd rfl) rfl rfl ?_
          refine g_iload_n 278 (gd rfl) rfl rfl ?_
          refine g_i2l 279 (gd rfl) rfl (fun z278 e278 => ?_)
          have i278 := l_i e278 i264x10b
          refine g_lconst 0 280 (gd rfl) rfl rfl ?_
          refine g_ldc2_w 159 283 (gd rfl) rfl rfl ?_
          refine g_calls (As := [.long z278, .long (Int64.ofInt 0), .long (Int64.ofInt 159)]) (r := [.int (Int32.ofInt 320), .ref (A 112)]) 286 (gd rfl) rfl rfl rfl rfl rfl (Nat.le_of_ble_eq_true rfl) (mc := 0) (ms := 0) (Nat.zero_le _) (Nat.zero_le _) (P := fun v u => _) ?_ (fun v u h => h)
          intro po283 xx283 hp283 hx283
          refine g_enter2 (k := 269) (N := 300) (by omega) rfl (Nat.le_of_ble_eq_true rfl) ?_
          refine g_lload_n 1 (gd rfl) rfl rfl ?_
          refine g_lload_n 2 (gd rfl) rfl rfl ?_
          refine g_lcmp 3 (gd rfl) rfl (fun z283x2 e283x2 => ?_)
          have i283x2 := lc_in e283x2
          refine g_if_lt 6 17 (gd rfl) rfl rfl (fun c283x3 => ?_) (fun c283x3 => ?_)
          · skip
            have i283x3 := z_lt (-1) (-1) c283x3 i283x2 rfl
            have c283x3a := lc_lt e283x2 c283x3
            exact ln_lt c283x3a i278 (l_c 0 rfl) rfl
          · skip
            have i283x3 := z_ge 0 1 c283x3 i283x2 rfl
            have c283x3a := lc_ge e283x2 c283x3
            refine g_lload_n 7 (gd rfl) rfl rfl ?_
            refine g_lload 9 (gd rfl) rfl rfl ?_
            refine g_lcmp 10 (gd rfl) rfl (fun z283x9 e283x9 => ?_)
            have i283x9 := lc_in e283x9
            refine g_if_gt 13 17 (gd rfl) rfl rfl (fun c283x10 => ?_) (fun c283x10 => ?_)
            · skip
              have i283x10 := z_gt 1 1 c283x10 i283x9 rfl
              have c283x10a := lc_gt e283x9 c283x10
              exact ln_lt c283x10a (l_c 159 rfl) i278 rfl
            · skip
              have i283x10 := z_le (-1) 0 c283x10 i283x9 rfl
              have c283x10a := lc_le e283x9 c283x10
              refine g_iconst 1 14 (gd rfl) rfl rfl ?_
              refine g_goto 18 (gd rfl) rfl ?_
              refine g_ireturn (gd rfl) rfl (nb01 (in_w 0 1 (in_c 1 rfl) rfl)) (hp283 _ _ ?_)
              show GG _ _ _ _ _ _ _ _ [.int (Int32.ofInt 1), .int (Int32.ofInt 320), .ref (A 112)] _ _ _
              refine g_if_eq 289 293 (gd rfl) rfl rfl (fun c286 => ?_) (fun c286 => ?_)
              · skip
                exact zn_eq c286 (in_c 1 rfl) rfl
              · skip
                refine g_iload_n 290 (gd rfl) rfl rfl ?_
                refine g_goto 294 (gd rfl) rfl ?_
                refine g_iadd 295 (gd rfl) rfl (fun z294 e294 => ?_)
                have i294 := in_add 320 479 e294 (in_c 320 rfl) i264x10b rfl rfl
                refine g_baload 296 (gd rfl) rfl (n := 480) rfl (in_ix i294 rfl) (fun z295 e295 => ?_)
                have i295 := inv_I hI (n := 480) (t := 3) 0 1 rfl (in_ix i294 rfl) rfl e295
                refine g_if_eq 299 311 (gd rfl) rfl rfl (fun c296 => ?_) (fun c296 => ?_)
                · skip
                  have i296 := z_eq 0 0 c296 i295 rfl
                  have n311 : s = s := by rfl
                  exact gg_w (by omega) (gg_f (gf_cons rfl (gf_cons rfl (gf_cons rfl (gf_cons rfl (gf_cons rfl gf_nil))))) (ct311 s z5 z14 hI fr_rf n311))
                · skip
                  have i296 := z_ne 1 1 c296 i295 rfl
                  refine g_iload 301 (gd rfl) rfl rfl ?_
                  refine g_calls (As := [.int z14]) (r := []) 304 (gd rfl) rfl rfl rfl rfl rfl (Nat.le_of_ble_eq_true rfl) (mc := 0) (ms := 0) (Nat.zero_le _) (Nat.zero_le _) (P := fun v u => _) ?_ (fun v u h => h)
                  intro po301 xx301 hp301 hx301
                  refine g_enter2 (k := 279) (N := 300) (by omega) rfl (Nat.le_of_ble_eq_true rfl) ?_
                  refine g_iload_n 1 (gd rfl) rfl rfl ?_
                  refine g_i2l 2 (gd rfl) rfl (fun z301x1 e301x1 => ?_)
                  have i301x1 := l_i e301x1 (i_rng z14)
                  refine g_ldc2_w (-1000000) 5 (gd rfl) rfl rfl ?_
                  refine g_ldc2_w 1000000 8 (gd rfl) rfl rfl ?_
                  refine g_calls (As := [.long z301x1, .long (Int64.ofInt (-1000000)), .long (Int64.ofInt 1000000)]) (r := []) 11 (gd rfl) rfl rfl rfl rfl rfl (Nat.le_of_ble_eq_true rfl) (mc := 0) (ms := 0) (Nat.zero_le _) (Nat.zero_le _) (P := fun v u => _) ?_ (fun v u h => h)
                  intro po301x8 xx301x8 hp301x8 hx301x8
                  refine g_enter2 (k := 269) (N := 300) (by omega) rfl (Nat.le_of_ble_eq_true rfl) ?_
                  refine g_lload_n 1 (gd rfl) rfl rfl ?_
                  refine g_lload_n 2 (gd rfl) rfl rfl ?_
                  refine g_lcmp 3 (gd rfl) rfl (fun z301x8x2 e301x8x2 => ?_)
                  have i301x8x2 := lc_in e301x8x2
                  refine g_if_lt 6 17 (gd rfl) rfl rfl (fun c301x8x3 => ?_) (fun c301x8x3 => ?_)
                  · skip
                    have i301x8x3 := z_lt (-1) (-1) c301x8x3 i301x8x2 rfl
                    have c301x8x3a := lc_lt e301x8x2 c301x8x3
                    have i301x8x3a := lr_lt1 (-2147483648) (-1000001) c301x8x3a i301x1 (l_c (-1000000) rfl) rfl
                    have i301x8x3b := l_b e301x1 i301x8x3a
                    refine g_iconst 0 18 (gd rfl) rfl rfl ?_
                    refine g_ireturn (gd rfl) rfl (nb01 (in_w 0 1 (in_c 0 rfl) rfl)) (hp301x8 _ _ ?_)
                    show GG _ _ _ _ _ _ _ _ [.int (Int32.ofInt 0)] _ _ _
                    refine g_ireturn (gd rfl) rfl (nb01 (in_w 0 1 (in_c 0 rfl) rfl)) (hp301 _ _ ?_)
                    show GG _ _ _ _ _ _ _ _ [.int (Int32.ofInt 0)] _ _ _
                    refine g_if_eq 307 311 (gd rfl) rfl rfl (fun c304 => ?_) (fun c304 => ?_)
                    · skip
                      have n311 : s = s := by rfl
                      exact gg_w (by omega) (gg_f (gf_cons rfl (gf_cons rfl (gf_cons rfl (gf_cons rfl (gf_cons rfl gf_nil))))) (ct311 s z5 z14 hI fr_rf n311))
                    · skip
                      exact zn_ne c304 (in_c 0 rfl) rfl
                  · skip
                    have i301x8x3 := z_ge 0 1 c301x8x3 i301x8x2 rfl
                    have c301x8x3a := lc_ge e301x8x2 c301x8x3
                    have i301x8x3a := lr_le2 (-1000000) 2147483647 c301x8x3a (l_c (-1000000) rfl) i301x1 rfl
                    have i301x8x3b := l_b e301x1 i301x8x3a
                    refine g_lload_n 7 (gd rfl) rfl rfl ?_
                    refine g_lload 9 (gd rfl) rfl rfl ?_
                    refine g_lcmp 10 (gd rfl) rfl (fun z301x8x9 e301x8x9 => ?_)
                    have i301x8x9 := lc_in e301x8x9
                    refine g_if_gt 13 17 (gd rfl) rfl rfl (fun c301x8x10 => ?_) (fun c301x8x10 => ?_)
                    · skip
                      have i301x8x10 := z_gt 1 1 c301x8x10 i301x8x9 rfl
                      have c301x8x10a := lc_gt e301x8x9 c301x8x10
                      have i301x8x10a := lr_lt2 1000001 2147483647 c301x8x10a (l_c 1000000 rfl) i301x8x3a rfl
                      have i301x8x10b := l_b e301x1 i301x8x10a
                      refine g_iconst 0 18 (gd rfl) rfl rfl ?_
                      refine g_ireturn (gd rfl) rfl (nb01 (in_w 0 1 (in_c 0 rfl) rfl)) (hp301x8 _ _ ?_)
                      show GG _ _ _ _ _ _ _ _ [.int (Int32.ofInt 0)] _ _ _
                      refine g_ireturn (gd rfl) rfl (nb01 (in_w 0 1 (in_c 0 rfl) rfl)) (hp301 _ _ ?_)
                      show GG _ _ _ _ _ _ _ _ [.int (Int32.ofInt 0)] _ _ _
                      refine g_if_eq 307 311 (gd rfl) rfl rfl (fun c304 => ?_) (fun c304 => ?_)
                      · skip
                        have n311 : s = s := by rfl
                        exact gg_w (by omega) (gg_f (gf_cons rfl (gf_cons rfl (gf_cons rfl (gf_cons rfl (gf_cons rfl gf_nil))))) (ct311 s z5 z14 hI fr_rf n311))
                      · skip
                        exact zn_ne c304 (in_c 0 rfl) rfl
                    · skip
                      have i301x8x10 := z_le (-1) 0 c301x8x10 i301x8x9 rfl
                      have c301x8x10a := lc_le e301x8x9 c301x8x10
                      have i301x8x10a := lr_le1 (-1000000) 1000000 c301x8x10a i301x8x3a (l_c 1000000 rfl) rfl
                      have i301x8x10b := l_b e301x1 i301x8x10a
                      refine g_iconst 1 14 (gd rfl) rfl rfl ?_
                      refine g_goto 18 (gd rfl) rfl ?_
                      refine g_ireturn (gd rfl) rfl (nb01 (in_w 0 1 (in_c 1 rfl) rfl)) (hp301x8 _ _ ?_)
                      show GG _ _ _ _ _ _ _ _ [.int (Int32.ofInt 1)] _ _ _
                      refine g_ireturn (gd rfl) rfl (nb01 (in_w 0 1 (in_c 1 rfl) rfl)) (hp301 _ _ ?_)
                      show GG _ _ _ _ _ _ _ _ [.int (Int32.ofInt 1)] _ _ _
                      refine g_if_eq 307 311 (gd rfl) rfl rfl (fun c304 => ?_) (fun c304 => ?_)
                      · skip
                        exact zn_eq c304 (in_c 1 rfl) rfl
                      · skip
                        refine g_iconst 1 308 (gd rfl) rfl rfl ?_
                        refine g_goto 312 (gd rfl) rfl ?_
                        have n312 : DNE s s (x1).toInt (x2).toNatClampNeg ((Int32.ofInt 1)).toInt := by exact dne_d (by have a0 := h2; unfold In at a0; have a1 := h1; unfold In at a1; have a2 := i301x8x10b; unfold In at a2; have a3 := i264x10b; unfold In at a3; have a4 := tx_i2l e301x1; have a5 := i294; unfold In at a5; have a6 := t_add e294 (in_c 320 rfl) i264x10b rfl; have a7 := (in_c 320 rfl); unfold In at a7; have a8 := tx_i2l e278; have a9 := tx_i2l e259; have a10 := i13; unfold In at a10; have a11 := t_add e13 h2 (in_c 1 rfl) rfl; have a12 := (in_c 1 rfl); unfold In at a12; omega) (by have a0 := h2; unfold In at a0; have a1 := h1; unfold In at a1; have a2 := i301x8x10b; unfold In at a2; have a3 := i264x10b; unfold In at a3; have a4 := tx_i2l e301x1; have a5 := i294; unfold In at a5; have a6 := t_add e294 (in_c 320 rfl) i264x10b rfl; have a7 := (in_c 320 rfl); unfold In at a7; have a8 := tx_i2l e278; have a9 := tx_i2l e259; have a10 := i13; unfold In at a10; have a11 := t_add e13 h2 (in_c 1 rfl) rfl; have a12 := (in_c 1 rfl); unfold In at a12; omega) (by have a0 := h2; unfold In at a0; have a1 := h1; unfold In at a1; have a2 := i301x8x10b; unfold In at a2; have a3 := i264x10b; unfold In at a3; have a4 := tx_i2l e301x1; have a5 := i294; unfold In at a5; have a6 := t_add e294 (in_c 320 rfl) i264x10b rfl; have a7 := (in_c 320 rfl); unfold In at a7; have a8 := tx_i2l e278; have a9 := tx_i2l e259; have a10 := i13; unfold In at a10; have a11 := t_add e13 h2 (in_c 1 rfl) rfl; have a12 := (in_c 1 rfl); unfold In at a12; omega) (by rw [← e5]; exact i264x10b) (by rw [show x2.toNatClampNeg + 1 = z13.toNatClampNeg from (by show x2.toInt.toNat + 1 = z13.toInt.toNat; have a0 := h2; unfold In at a0; have a1 := h1; unfold In at a1; have a2 := i301x8x10b; unfold In at a2; have a3 := i264x10b; unfold In at a3; have a4 := tx_i2l e301x1; have a5 := i294; unfold In at a5; have a6 := t_add e294 (in_c 320 rfl) i264x10b rfl; have a7 := (in_c 320 rfl); unfold In at a7; have a8 := tx_i2l e278; have a9 := tx_i2l e259; have a10 := i13; unfold In at a10; have a11 := t_add e13 h2 (in_c 1 rfl) rfl; have a12 := (in_c 1 rfl); unfold In at a12; omega), ← e14]; exact i301x8x10b)
                        exact g_ireturn (gd rfl) rfl (nb01 (in_w 0 1 (in_c 1 rfl) rfl)) (hP _ _ ⟨s, hI, fr_rf, (Int32.ofInt 1), rfl, rfl, in_w 0 1 (in_c 1 rfl) rfl, n312⟩)

/-- GraphHouseModel.shape -/
theorem k_301 {Z : AmZ} {A : Nat → Nat} {s : GS} {ex : va_W} {d : Nat} {X : AmX} {x1 : Int32} {x2 : Int32} (hd : 1 ≤ d) (hI : Inv s) (h1 : In x1 97 119) (h2 : In x2 0 5) : GC Z d 301 [.ref (A 109), .int x1, .int x2] (WW Z A s ++ ex) 0 0 (fun v u => ∃ z : Int32, v = some (.int z) ∧ u = WW Z A s ++ ex ∧ In z 1 3 ∧ (SHP (x1).toInt (x2).toInt (z).toInt)) X := by
  intro post xp hP hX
  refine g_enter2 (k := 301) (N := 900) (by omega) rfl (Nat.le_of_ble_eq_true rfl) ?_
  refine g_iload_n 1 (gd rfl) rfl rfl ?_
  refine g_lsw [(97, 46), (110, 36), (116, 66)] 77 (gd rfl) rfl rfl rfl ⟨fun c1 => ?_, fun c1_0 => ⟨fun c1 => ?_, fun c1_1 => ⟨fun c1 => ?_, fun c1_2 => ?_⟩⟩⟩
  · skip
    have i1 := sw_eq c1
    refine g_iload_n 47 (gd rfl) rfl rfl ?_
    refine g_iconst 4 48 (gd rfl) rfl rfl ?_
    refine g_cmp_ge 51 55 (gd rfl) rfl rfl (fun c48 => ?_) (fun c48 => ?_)
    · skip
      have i48 := r_le2 4 5 c48 (in_c 4 rfl) h2 rfl
      refine g_iload_n 56 (gd rfl) rfl rfl ?_
      refine g_iconst 4 57 (gd rfl) rfl rfl ?_
      refine g_cmp_ne 60 64 (gd rfl) rfl rfl (fun c57 => ?_) (fun c57 => ?_)
      · skip
        have i57 := r_ne1 5 5 c57 i48 (in_c 4 rfl) rfl
        refine g_iconst 3 65 (gd rfl) rfl rfl ?_
        have n65 : SHP (x1).toInt (x2).toInt ((Int32.ofInt 3)).toInt := by unfold SHP; refine ⟨fun h => ⟨fun h2 => ?_, fun h2 => ?_⟩, fun h => ⟨fun h2 => ?_, fun h2 => ?_, fun h2 => ?_⟩, fun h h2 => ⟨?_, fun h3 => ?_, fun h3 => ?_⟩⟩ <;> first | decide | (exfalso; have a0 := i57; unfold In at a0; have a1 := i1; unfold In at a1; omega) | (have a0 := i57; unfold In at a0; have a1 := i1; unfold In at a1; omega)
        exact g_ireturn (gd rfl) rfl rfl (hP _ _ ⟨(Int32.ofInt 3), rfl, rfl, in_w 1 3 (in_c 3 rfl) rfl, n65⟩)
      · skip
        have i57 := r_eq1 4 4 c57 i48 (in_c 4 rfl) rfl
        refine g_iconst 1 61 (gd rfl) rfl rfl ?_
        refine g_goto 65 (gd rfl) rfl ?_
        have n65 : SHP (x1).toInt (x2).toInt ((Int32.ofInt 1)).toInt := by unfold SHP; refine ⟨fun h => ⟨fun h2 => ?_, fun h2 => ?_⟩, fun h => ⟨fun h2 => ?_, fun h2 => ?_, fun h2 => ?_⟩, fun h h2 => ⟨?_, fun h3 => ?_, fun h3 => ?_⟩⟩ <;> first | decide | (exfalso; have a0 := i57; unfold In at a0; have a1 := i1; unfold In at a1; omega) | (have a0 := i57; unfold In at a0; have a1 := i1; unfold In at a1; omega)
        exact g_ireturn (gd rfl) rfl rfl (hP _ _ ⟨(Int32.ofInt 1), rfl, rfl, in_w 1 3 (in_c 1 rfl) rfl, n65⟩)
    · skip
      have i48 := r_lt1 0 3 c48 h2 (in_c 4 rfl) rfl
      refine g_iconst 2 52 (gd rfl) rfl rfl ?_
      refine g_goto 65 (gd rfl) rfl ?_
      have n65 : SHP (x1).toInt (x2).toInt ((Int32.ofInt 2)).toInt := by unfold SHP; refine ⟨fun h => ⟨fun h2 => ?_, fun h2 => ?_⟩, fun h => ⟨fun h2 => ?_, fun h2 => ?_, fun h2 => ?_⟩, fun h h2 => ⟨?_, fun h3 => ?_, fun h3 => ?_⟩⟩ <;> first | decide | (exfalso; have a0 := i48; unfold In at a0; have a1 := i1; unfold In at a1; omega) | (have a0 := i48; unfold In at a0; have a1 := i1; unfold In at a1; omega)
      exact g_ireturn (gd rfl) rfl rfl (hP _ _ ⟨(Int32.ofInt 2), rfl, rfl, in_w 1 3 (in_c 2 rfl) rfl, n65⟩)
  · skip
    have i1 := sw_eq c1
    refine g_iload_n 37 (gd rfl) rfl rfl ?_
    refine g_if_ne 40 44 (gd rfl) rfl rfl (fun c37 => ?_) (fun c37 => ?_)
    · skip
      have i37 := z_ne 1 5 c37 h2 rfl
      refine g_iconst 3 45 (gd rfl) rfl rfl ?_
      have n45 : SHP (x1).toInt (x2).toInt ((Int32.ofInt 3)).toInt := by unfold SHP; refine ⟨fun h => ⟨fun h2 => ?_, fun h2 => ?_⟩, fun h => ⟨fun h2 => ?_, fun h2 => ?_, fun h2 => ?_⟩, fun h h2 => ⟨?_, fun h3 => ?_, fun h3 => ?_⟩⟩ <;> first | decide | (exfalso; have a0 := i37; unfold In at a0; have a1 := i1; unfold In at a1; omega) | (have a0 := i37; unfold In at a0; have a1 := i1; unfold In at a1; omega)
      exact g_ireturn (gd rfl) rfl rfl (hP _ _ ⟨(Int32.ofInt 3), rfl, rfl, in_w 1 3 (in_c 3 rfl) rfl, n45⟩)
    · skip
      have i37 := z_eq 0 0 c37 h2 rfl
      refine g_iconst 1 41 (gd rfl) rfl rfl ?_
      refine g_goto 45 (gd rfl) rfl ?_
      have n45 : SHP (x1).toInt (x2).toInt ((Int32.ofInt 1)).toInt := by unfold SHP; refine ⟨fun h => ⟨fun h2 => ?_, fun h2 => ?_⟩, fun h => ⟨fun h2 => ?_, fun h2 => ?_, fun h2 => ?_⟩, fun h h2 => ⟨?_, fun h3 => ?_, fun h3 => ?_⟩⟩ <;> first | decide | (exfalso; have a0 := i37; unfold In at a0; have a1 := i1; unfold In at a1; omega) | (have a0 := i37; unfold In at a0; have a1 := i1; unfold In at a1; omega)
      exact g_ireturn (gd rfl) rfl rfl (hP _ _ ⟨(Int32.ofInt 1), rfl, rfl, in_w 1 3 (in_c 1 rfl) rfl, n45⟩)
  · skip
    have i1 := sw_eq c1
    refine g_iload_n 67 (gd rfl) rfl rfl ?_
    refine g_iconst 1 68 (gd rfl) rfl rfl ?_
    refine g_cmp_ge 71 75 (gd rfl) rfl rfl (fun c68 => ?_) (fun c68 => ?_)
    · skip
      have i68 := r_le2 1 5 c68 (in_c 1 rfl) h2 rfl
      refine g_iconst 3 76 (gd rfl) rfl rfl ?_
      have n76 : SHP (x1).toInt (x2).toInt ((Int32.ofInt 3)).toInt := by unfold SHP; refine ⟨fun h => ⟨fun h2 => ?_, fun h2 => ?_⟩, fun h => ⟨fun h2 => ?_, fun h2 => ?_, fun h2 => ?_⟩, fun h h2 => ⟨?_, fun h3 => ?_, fun h3 => ?_⟩⟩ <;> first | decide | (exfalso; have a0 := i68; unfold In at a0; have a1 := i1; unfold In at a1; omega) | (have a0 := i68; unfold In at a0; have a1 := i1; unfold In at a1; omega)
      exact g_ireturn (gd rfl) rfl rfl (hP _ _ ⟨(Int32.ofInt 3), rfl, rfl, in_w 1 3 (in_c 3 rfl) rfl, n76⟩)
    · skip
      have i68 := r_lt1 0 0 c68 h2 (in_c 1 rfl) rfl
      refine g_iconst 2 72 (gd rfl) rfl rfl ?_
      refine g_goto 76 (gd rfl) rfl ?_
      have n76 : SHP (x1).toInt (x2).toInt ((Int32.ofInt 2)).toInt := by unfold SHP; refine ⟨fun h => ⟨fun h2 => ?_, fun h2 => ?_⟩, fun h => ⟨fun h2 => ?_, fun h2 => ?_, fun h2 => ?_⟩, fun h h2 => ⟨?_, fun h3 => ?_, fun h3 => ?_⟩⟩ <;> first | decide | (exfalso; have a0 := i68; unfold In at a0; have a1 := i1; unfold In at a1; omega) | (have a0 := i68; unfold In at a0; have a1 := i1; unfold In at a1; omega)
      exact g_ireturn (gd rfl) rfl rfl (hP _ _ ⟨(Int32.ofInt 2), rfl, rfl, in_w 1 3 (in_c 2 rfl) rfl, n76⟩)
  · skip
    refine g_iload_n 78 (gd rfl) rfl rfl ?_
    refine g_iconst 2 79 (gd rfl) rfl rfl ?_
    refine g_cmp_ge 82 86 (gd rfl) rfl rfl (fun c79 => ?_) (fun c79 => ?_)
    · skip
      have i79 := r_le2 2 5 c79 (in_c 2 rfl) h2 rfl
      refine g_iconst 3 87 (gd rfl) rfl rfl ?_
      have n87 : SHP (x1).toInt (x2).toInt ((Int32.ofInt 3)).toInt := by unfold SHP; refine ⟨fun h => ⟨fun h2 => ?_, fun h2 => ?_⟩, fun h => ⟨fun h2 => ?_, fun h2 => ?_, fun h2 => ?_⟩, fun h h2 => ⟨?_, fun h3 => ?_, fun h3 => ?_⟩⟩ <;> first | decide | (exfalso; have a0 := i79; unfold In at a0; have a1 := h1; unfold In at a1; omega) | (have a0 := i79; unfold In at a0; have a1 := h1; unfold In at a1; omega)
      exact g_ireturn (gd rfl) rfl rfl (hP _ _ ⟨(Int32.ofInt 3), rfl, rfl, in_w 1 3 (in_c 3 rfl) rfl, n87⟩)
    · skip
      have i79 := r_lt1 0 1 c79 h2 (in_c 2 rfl) rfl
      refine g_iconst 2 83 (gd rfl) rfl rfl ?_
      refine g_goto 87 (gd rfl) rfl ?_
      have n87 : SHP (x1).toInt (x2).toInt ((Int32.ofInt 2)).toInt := by unfold SHP; refine ⟨fun h => ⟨fun h2 => ?_, fun h2 => ?_⟩, fun h => ⟨fun h2 => ?_, fun h2 => ?_, fun h2 => ?_⟩, fun h h2 => ⟨?_, fun h3 => ?_, fun h3 => ?_⟩⟩ <;> first | decide | (exfalso; have a0 := i79; unfold In at a0; have a1 := h1; unfold In at a1; omega) | (have a0 := i79; unfold In at a0; have a1 := h1; unfold In at a1; omega)
      exact g_ireturn (gd rfl) rfl rfl (hP _ _ ⟨(Int32.ofInt 2), rfl, rfl, in_w 1 3 (in_c 2 rfl) rfl, n87⟩)

def fm_300 : FM := ([], [], [(109, 23), (109, 24), (109, 27)], [(109, 31)])
/-- GraphHouseModel.readNumber -/
theorem k_300 {Z : AmZ} {A : Nat → Nat} {s : GS} {ex : va_W} {d : Nat} {X : AmX} {x1 : Int32} {u_109_27 : Int32} {u_109_22 : Int32} (hd : 3 ≤ d) (hI : Inv s) (h1 : In x1 6 7) (e_109_27 : u_109_27 = s.2.2.1 109 27) (e_109_22 : u_109_22 = s.2.2.1 109 22) (p_0 : (u_109_27).toInt < (u_109_22).toInt) (q_0 : 48 ≤ (s.1 125 (s.2.2.1 109 27).toNatClampNeg).toInt ∧ (s.1 125 (s.2.2.1 109 27).toNatClampNeg).toInt ≤ 57) : GC Z d 300 [.ref (A 109), .int x1] (WW Z A s ++ ex) 0 0 (fun v u => ∃ t : GS, Inv t ∧ Fr fm_300 s t ∧ ((t.2.2.1 109 27).toInt ≤ (t.2.2.1 109 22).toInt) ∧ ((s.2.2.1 109 27).toInt + 1 ≤ (t.2.2.1 109 27).toInt) ∧ v = none ∧ u = WW Z A t ++ ex) X := by
  intro post xp hP hX
  have ro_109_22 := inv_F hI 0 1000 rfl e_109_22
  obtain ⟨u_109_29, e_109_29⟩ : ∃ w, w = s.2.2.1 109 29 := ⟨_, rfl⟩
  have ro_109_29 := inv_F hI 0 1000 rfl e_109_29
  have ct10 : ∀ (k10 : Nat) (sc10 : GS) (y10_2 : Int32) (w10_109_27 : Int32), Inv sc10 → Fr fm_300 s sc10 → (In y10_2 0 1000) → (w10_109_27 = sc10.2.2.1 109 27) → ((w10_109_27).toInt ≤ (u_109_22).toInt) → ((u_109_27).toInt ≤ (w10_109_27).toInt) → (u_109_22).toInt - (w10_109_27).toInt < (k10 : Int) → GG Z (d - 1) 300 post (gx xp) (1 + k10 * 900) 10 (fun j => xlook j [(0, .ref (A 109)), (1, .int x1), (2, .int y10_2)]) [] (WW Z A sc10 ++ ex) 0 0 := by
    intro k10
    induction k10 with
    | zero => intro sc10 y10_2 w10_109_27 hIc10 hFc10 j10_2 v10_109_27 n10_0 n10_1 mm10; exfalso; have a0 := h1; unfold In at a0; have a1 := ro_109_29; unfold In at a1; have a2 := ro_109_22; unfold In at a2; have a3 := (inv_F hIc10 0 1000 rfl v10_109_27); unfold In at a3; have a4 := j10_2; unfold In at a4; omega
    | succ k10 ih10 =>
      intro sc10 y10_2 w10_109_27 hIc10 hFc10 j10_2 v10_109_27 n10_0 n10_1 mm10
      refine gg_w (M := 1 + k10 * 900 + 900) (by omega) ?_
      refine g_aload_n 11 (gd rfl) rfl rfl ?_
      refine g_getI 14 (gd rfl) rfl rfl rfl (fun z11 e11 => ?_)
      have q11 : w10_109_27 = z11 := (v10_109_27).trans e11.symm
      subst q11
      refine g_aload_n 15 (gd rfl) rfl rfl ?_
      refine g_getI 18 (gd rfl) rfl rfl rfl (fun z15 e15 => ?_)
      have q15 : u_109_22 = z15 := (fr_F e_109_22 hFc10 rfl).trans e15.symm
      subst q15
      refine g_cmp_ge 21 93 (gd rfl) rfl rfl (fun c18 => ?_) (fun c18 => ?_)
      · skip
        have hq93 : (u_109_27).toInt + 1 ≤ (w10_109_27).toInt := (by first | (have a0 := h1; unfold In at a0; have a1 := ro_109_29; unfold In at a1; have a2 := ro_109_22; unfold In at a2; have a3 := (inv_F hIc10 0 1000 rfl v10_109_27); unfold In at a3; have a4 := j10_2; unfold In at a4; omega) | (have hi := i30x3; unfold In at hi; have a0 := h1; unfold In at a0; have a1 := ro_109_29; unfold In at a1; have a2 := ro_109_22; unfold In at a2; have a3 := (inv_F hIc10 0 1000 rfl v10_109_27); unfold In at a3; have a4 := j10_2; unfold In at a4; omega) | (have hi := i30x9; unfold In at hi; have a0 := h1; unfold In at a0; have a1 := ro_109_29; unfold In at a1; have a2 := ro_109_22; unfold In at a2; have a3 := (inv_F hIc10 0 1000 rfl v10_109_27); unfold In at a3; have a4 := j10_2; unfold In at a4; omega))
        refine g_aload_n 94 (gd rfl) rfl rfl ?_
        refine g_getI 97 (gd rfl) rfl rfl rfl (fun z94 e94 => ?_)
        have q94 : w10_109_27 = z94 := (v10_109_27).trans e94.symm
        subst q94
        refine g_iload_n 98 (gd rfl) rfl rfl ?_
        refine g_isub 99 (gd rfl) rfl (fun z98 e98 => ?_)
        have i98 := in_sub (-1000) 1000 e98 (inv_F hIc10 0 1000 rfl v10_109_27) j10_2 rfl rfl
        refine g_iload_n 100 (gd rfl) rfl rfl ?_
        refine g_cmp_le 103 122 (gd rfl) rfl rfl (fun c100 => ?_) (fun c100 => ?_)
        · skip
          have i100 := r_le1 (-1000) 7 c100 i98 h1 rfl
          have n122 : (w10_109_27).toInt ≤ (u_109_22).toInt := by have a0 := h1; unfold In at a0; have a1 := ro_109_29; unfold In at a1; have a2 := ro_109_22; unfold In at a2; have a3 := (inv_F hIc10 0 1000 rfl v10_109_27); unfold In at a3; have a4 := j10_2; unfold In at a4; have a5 := i100; unfold In at a5; have a6 := t_sub e98 (inv_F hIc10 0 1000 rfl v10_109_27) j10_2 rfl; omega
          have n122a : (sc10.2.2.1 109 27).toInt ≤ (sc10.2.2.1 109 22).toInt := by have b0 : w10_109_27 = sc10.2.2.1 109 27 := v10_109_27; have b1 : u_109_22 = sc10.2.2.1 109 22 := fr_F e_109_22 hFc10 rfl; rw [← b0, ← b1]; exact n122
          have n122b : (u_109_27).toInt + 1 ≤ (w10_109_27).toInt := by have a0 := h1; unfold In at a0; have a1 := ro_109_29; unfold In at a1; have a2 := ro_109_22; unfold In at a2; have a3 := (inv_F hIc10 0 1000 rfl v10_109_27); unfold In at a3; have a4 := j10_2; unfold In at a4; have a5 := i100; unfold In at a5; have a6 := t_sub e98 (inv_F hIc10 0 1000 rfl v10_109_27) j10_2 rfl; omega
          have n122c : (s.2.2.1 109 27).toInt + 1 ≤ (sc10.2.2.1 109 27).toInt := by have b0 : w10_109_27 = sc10.2.2.1 109 27 := v10_109_27; rw [← b0, ← e_109_27]; exact n122b
          exact g_return (gd rfl) rfl (hP _ _ ⟨sc10, hIc10, hFc10, n122a, n122c, rfl, rfl⟩)
        · skip
          have i100 := r_lt2 7 1000 c100 h1 i98 rfl
          refine g_aload_n 104 (gd rfl) rfl rfl ?_
          refine g_iload_n 105 (gd rfl) rfl rfl ?_
          refine g_bipush 7 107 (gd rfl) rfl rfl ?_
          refine g_cmp_ne 110 114 (gd rfl) rfl rfl (fun c107 => ?_) (fun c107 => ?_)
          · skip
            have i107 := r_ne1 6 6 c107 h1 (in_c 7 rfl) rfl
            refine g_iconst 4 115 (gd rfl) rfl rfl ?_
            refine g_aload_n 116 (gd rfl) rfl rfl ?_
            refine g_getI 119 (gd rfl) rfl rfl rfl (fun z116 e116 => ?_)
            have q116 : u_109_29 = z116 := (fr_F e_109_29 hFc10 rfl).trans e116.symm
            subst q116
            refine g_callv (X := _) (As := [.int (Int32.ofInt 4), .int u_109_29]) (r := []) (b := A 109) (q := 109) 122 (gd rfl) rfl rfl rfl rfl rfl (ww_o rfl) (Nat.le_of_ble_eq_true rfl) (Nat.zero_le _) (Nat.zero_le _) (k_298 (by omega) hIc10 (in_w 1 5 (in_c 4 rfl) rfl)) (fun e u h => h) (fun v u h => ?_)
            obtain ⟨s119, hI119, hF119, n119, rfl, rfl⟩ := h
            obtain ⟨z119a, e119⟩ : ∃ w, w = s119.2.2.1 109 23 := ⟨_, rfl⟩
            have i119a := inv_F hI119 0 9 rfl e119
            rw [← (show z119a = s119.2.2.1 109 23 from e119)] at n119
            show GG _ _ _ _ _ _ _ _ [] _ _ _
            have n122 : (w10_109_27).toInt ≤ (u_109_22).toInt := by have a0 := i107; unfold In at a0; have a1 := ro_109_29; unfold In at a1; have a2 := ro_109_22; unfold In at a2; have a3 := (inv_F hIc10 0 1000 rfl v10_109_27); unfold In at a3; have a4 := j10_2; unfold In at a4; have a5 := i119a; unfold In at a5; have a6 := i100; unfold In at a6; have a7 := t_sub e98 (inv_F hIc10 0 1000 rfl v10_109_27) j10_2 rfl; omega
            have n122a : (s119.2.2.1 109 27).toInt ≤ (s119.2.2.1 109 22).toInt := by have b0 : w10_109_27 = s119.2.2.1 109 27 := fr_F (v10_109_27) hF119 rfl; have b1 : u_109_22 = s119.2.2.1 109 22 := fr_F (fr_F e_109_22 hFc10 rfl) hF119 rfl; rw [← b0, ← b1]; exact n122
            have n122b : (u_109_27).toInt + 1 ≤ (w10_109_27).toInt := by have a0 := i107; unfold In at a0; have a1 := ro_109_29; unfold In at a1; have a2 := ro_109_22; unfold In at a2; have a3 := (inv_F hIc10 0 1000 rfl v10_109_27); unfold In at a3; have a4 := j10_2; unfold In at a4; have a5 := i119a; unfold In at a5; have a6 := i100; unfold In at a6; have a7 := t_sub e98 (inv_F hIc10 0 1000 rfl v10_109_27) j10_2 rfl; omega
            have n122c : (s.2.2.1 109 27).toInt + 1 ≤ (s119.2.2.1 109 27).toInt := by have b0 : w10_109_27 = s119.2.2.1 109 27 := fr_F (v10_109_27) hF119 rfl; rw [← b0, ← e_109_27]; exact n122b
            exact g_return (gd rfl) rfl (hP _ _ ⟨s119, hI119, (fr_tr rfl hFc10 hF119), n122a, n122c, rfl, rfl⟩)
          · skip
            have i107 := r_eq1 7 7 c107 h1 (in_c 7 rfl) rfl
            refine g_iconst 3 111 (gd rfl) rfl rfl ?_
            refine g_goto 115 (gd rfl) rfl ?_
            refine g_aload_n 116 (gd rfl) rfl rfl ?_
            refine g_getI 119 (gd rfl) rfl rfl rfl (fun z116 e116 => ?_)
            have q116 : u_109_29 = z116 := (fr_F e_109_29 hFc10 rfl).trans e116.symm
            subst q116
            refine g_callv (X := _) (As := [.int (Int32.ofInt 3), .int u_109_29]) (r := []) (b := A 109) (q := 109) 122 (gd rfl) rfl rfl rfl rfl rfl (ww_o rfl) (Nat.le_of_ble_eq_true rfl) (Nat.zero_le _) (Nat.zero_le _) (k_298 (by omega) hIc10 (in_w 1 5 (in_c 3 rfl) rfl)) (fun e u h => h) (fun v u h => ?_)
            obtain ⟨s119, hI119, hF119, n119, rfl, rfl⟩ := h
            obtain ⟨z119a, e119⟩ : ∃ w, w = s119.2.2.1 109 23 := ⟨_, rfl⟩
            have i119a := inv_F hI119 0 9 rfl e119
            rw [← (show z119a = s119.2.2.1 109 23 from e119)] at n119
            show GG _ _ _ _ _ _ _ _ [] _ _ _
            have n122 : (w10_109_27).toInt ≤ (u_109_22).toInt := by have a0 := i107; unfold In at a0; have a1 := ro_109_29; unfold In at a1; have a2 := ro_109_22; unfold In at a2; have a3 := (inv_F hIc10 0 1000 rfl v10_109_27); unfold In at a3; have a4 := j10_2; unfold In at a4; have a5 := i119a; unfold In at a5; have a6 := i100; unfold In at a6; have a7 := t_sub e98 (inv_F hIc10 0 1000 rfl v10_109_27) j10_2 rfl; omega
            have n122a : (s119.2.2.1 109 27).toInt ≤ (s119.2.2.1 109 22).toInt := by have b0 : w10_109_27 = s119.2.2.1 109 27 := fr_F (v10_109_27) hF119 rfl; have b1 : u_109_22 = s119.2.2.1 109 22 := fr_F (fr_F e_109_22 hFc10 rfl) hF119 rfl; rw [← b0, ← b1]; exact n122
            have n122b : (u_109_27).toInt + 1 ≤ (w10_109_27).toInt := by have a0 := i107; unfold In at a0; have a1 := ro_109_29; unfold In at a1; have a2 := ro_109_22; unfold In at a2; have a3 := (inv_F hIc10 0 1000 rfl v10_109_27); unfold In at a3; have a4 := j10_2; unfold In at a4; have a5 := i119a; unfold In at a5; have a6 := i100; unfold In at a6; have a7 := t_sub e98 (inv_F hIc10 0 1000 rfl v10_109_27) j10_2 rfl; omega
            have n122c : (s.2.2.1 109 27).toInt + 1 ≤ (s119.2.2.1 109 27).toInt := by have b0 : w10_109_27 = s119.2.2.1 109 27 := fr_F (v10_109_27) hF119 rfl; rw [← b0, ← e_109_27]; exact n122b
            exact g_return (gd rfl) rfl (hP _ _ ⟨s119, hI119, (fr_tr rfl hFc10 hF119), n122a, n122c, rfl, rfl⟩)
      · skip
        have i18 := r_lt1 0 999 c18 (inv_F hIc10 0 1000 rfl v10_109_27) ro_109_22 rfl
        have i18a := r_lt2 1 1000 c18 (inv_F hIc10 0 1000 rfl v10_109_27) ro_109_22 rfl
        refine g_aload_n 22 (gd rfl) rfl rfl ?_
        refine g_getA (q2 := 125) 25 (gd rfl) rfl rfl rfl rfl ?_
        refine g_aload_n 26 (gd rfl) rfl rfl ?_
        refine g_getI 29 (gd rfl) rfl rfl rfl (fun z26 e26 => ?_)
        have q26 : w10_109_27 = z26 := (v10_109_27).trans e26.symm
        subst q26
        refine g_iaload 30 (gd rfl) rfl (n := 1000) rfl (in_ix i18 rfl) (fun z29 e29 => ?_)
        have i29 := inv_I hIc10 (n := 1000) (t := 0) 0 126 rfl (in_ix i18 rfl) rfl e29
        have hd : w10_109_27.toInt = u_109_27.toInt → 48 ≤ (z29).toInt ∧ (z29).toInt ≤ 57 := (fun h => by rw [e29, Int32.toInt_inj.mp h, hFc10.1 125 rfl, e_109_27]; exact q_0)
        refine g_calls (As := [.int z29]) (r := []) 33 (gd rfl) rfl rfl rfl rfl rfl (Nat.le_of_ble_eq_true rfl) (mc := 0) (ms := 0) (Nat.zero_le _) (Nat.zero_le _) (P := fun v u => _) ?_ (fun v u h => h)
        intro po30 xx30 hp30 hx30
        refine g_enter2 (k := 297) (N := 300) (by omega) rfl (Nat.le_of_ble_eq_true rfl) ?_
        refine g_iload_n 1 (gd rfl) rfl rfl ?_
        refine g_bipush 48 3 (gd rfl) rfl rfl ?_
        refine g_cmp_lt 6 16 (gd rfl) rfl rfl (fun c30x3 => ?_) (fun c30x3 => ?_)
        · skip
          have i30x3 := r_lt1 0 47 c30x3 i29 (in_c 48 rfl) rfl
          refine g_iconst 0 17 (gd rfl) rfl rfl ?_
          refine g_ireturn (gd rfl) rfl (nb01 (in_w 0 1 (in_c 0 rfl) rfl)) (hp30 _ _ ?_)
          show GG _ _ _ _ _ _ _ _ [.int (Int32.ofInt 0)] _ _ _
          refine g_if_eq 36 93 (gd rfl) rfl rfl (fun c33 => ?_) (fun c33 => ?_)
          · skip
            have hq93 : (u_109_27).toInt + 1 ≤ (w10_109_27).toInt := (by first | (have a0 := h1; unfold In at a0; have a1 := ro_109_29; unfold In at a1; have a2 := i18a; unfold In at a2; have a3 := i18; unfold In at a3; have a4 := j10_2; unfold In at a4; omega) | (have hi := i30x3; unfold In at hi; have a0 := h1; unfold In at a0; have a1 := ro_109_29; unfold In at a1; have a2 := i18a; unfold In at a2; have a3 := i18; unfold In at a3; have a4 := j10_2; unfold In at a4; omega) | (have hi := i30x9; unfold In at hi; have a0 := h1; unfold In at a0; have a1 := ro_109_29; unfold In at a1; have a2 := i18a; unfold In at a2; have a3 := i18; unfold In at a3; have a4 := j10_2; unfold In at a4; omega))
            refine g_aload_n 94 (gd rfl) rfl rfl ?_
            refine g_getI 97 (gd rfl) rfl rfl rfl (fun z94 e94 => ?_)
            have q94 : w10_109_27 = z94 := (v10_109_27).trans e94.symm
            subst q94
            refine g_iload_n 98 (gd rfl) rfl rfl ?_
            refine g_isub 99 (gd rfl) rfl (fun z98 e98 => ?_)
            have i98 := in_sub (-1000) 999 e98 i18 j10_2 rfl rfl
            refine g_iload_n 100 (gd rfl) rfl rfl ?_
            refine g_cmp_le 103 122 (gd rfl) rfl rfl (fun c100 => ?_) (fun c100 => ?_)
            · skip
              have i100 := r_le1 (-1000) 7 c100 i98 h1 rfl
              have n122 : (w10_109_27).toInt ≤ (u_109_22).toInt := by have a0 := h1; unfold In at a0; have a1 := ro_109_29; unfold In at a1; have a2 := i18a; unfold In at a2; have a3 := i18; unfold In at a3; have a4 := j10_2; unfold In at a4; have a5 := i100; unfold In at a5; have a6 := t_sub e98 i18 j10_2 rfl; omega
              have n122a : (sc10.2.2.1 109 27).toInt ≤ (sc10.2.2.1 109 22).toInt := by have b0 : w10_109_27 = sc10.2.2.1 109 27 := v10_109_27; have b1 : u_109_22 = sc10.2.2.1 109 22 := fr_F e_109_22 hFc10 rfl; rw [← b0, ← b1]; exact n122
              have n122b : (u_109_27).toInt + 1 ≤ (w10_109_27).toInt := by have a0 := h1; unfold In at a0; have a1 := ro_109_29; unfold In at a1; have a2 := i18a; unfold In at a2; have a3 := i18; unfold In at a3; have a4 := j10_2; unfold In at a4; have a5 := i100; unfold In at a5; have a6 := t_sub e98 i18 j10_2 rfl; omega
              have n122c : (s.2.2.1 109 27).toInt + 1 ≤ (sc10.2.2.1 109 27).toInt := by have b0 : w10_109_27 = sc10.2.2.1 109 27 := v10_109_27; rw [← b0, ← e_109_27]; exact n122b
              exact g_return (gd rfl) rfl (hP _ _ ⟨sc10, hIc10, hFc10, n122a, n122c, rfl, rfl⟩)
            · skip
              have i100 := r_lt2 7 999 c100 h1 i98 rfl
              refine g_aload_n 104 (gd rfl) rfl rfl ?_
              refine g_iload_n 105 (gd rfl) rfl rfl ?_
              refine g_bipush 7 107 (gd rfl) rfl rfl ?_
              refine g_cmp_ne 110 114 (gd rfl) rfl rfl (fun c107 => ?_) (fun c107 => ?_)
              · skip
                have i107 := r_ne1 6 6 c107 h1 (in_c 7 rfl) rfl
                refine g_iconst 4 115 (gd rfl) rfl rfl ?_
                refine g_aload_n 116 (gd rfl) rfl rfl ?_
                refine g_getI 119 (gd rfl) rfl rfl rfl (fun z116 e116 => ?_)
                have q116 : u_109_29 = z116 := (fr_F e_109_29 hFc10 rfl).trans e116.symm
                subst q116
                refine g_callv (X := _) (As := [.int (Int32.ofInt 4), .int u_109_29]) (r := []) (b := A 109) (q := 109) 122 (gd rfl) rfl rfl rfl rfl rfl (ww_o rfl) (Nat.le_of_ble_eq_true rfl) (Nat.zero_le _) (Nat.zero_le _) (k_298 (by omega) hIc10 (in_w 1 5 (in_c 4 rfl) rfl)) (fun e u h => h) (fun v u h => ?_)
                obtain ⟨s119, hI119, hF119, n119, rfl, rfl⟩ := h
                obtain ⟨z119a, e119⟩ : ∃ w, w = s119.2.2.1 109 23 := ⟨_, rfl⟩
                have i119a := inv_F hI119 0 9 rfl e119
                rw [← (show z119a = s119.2.2.1 109 23 from e119)] at n119
                show GG _ _ _ _ _ _ _ _ [] _ _ _
                have n122 : (w10_109_27).toInt ≤ (u_109_22).toInt := by have a0 := i107; unfold In at a0; have a1 := ro_109_29; unfold In at a1; have a2 := i18a; unfold In at a2; have a3 := i18; unfold In at a3; have a4 := j10_2; unfold In at a4; have a5 := i119a; unfold In at a5; have a6 := i100; unfold In at a6; have a7 := t_sub e98 i18 j10_2 rfl; omega
                have n122a : (s119.2.2.1 109 27).toInt ≤ (s119.2.2.1 109 22).toInt := by have b0 : w10_109_27 = s119.2.2.1 109 27 := fr_F (v10_109_27) hF119 rfl; have b1 : u_109_22 = s119.2.2.1 109 22 := fr_F (fr_F e_109_22 hFc10 rfl) hF119 rfl; rw [← b0, ← b1]; exact n122
                have n122b : (u_109_27).toInt + 1 ≤ (w10_109_27).toInt := by have a0 := i107; unfold In at a0; have a1 := ro_109_29; unfold In at a1; have a2 := i18a; unfold In at a2; have a3 := i18; unfold In at a3; have a4 := j10_2; unfold In at a4; have a5 := i119a; unfold In at a5; have a6 := i100; unfold In at a6; have a7 := t_sub e98 i18 j10_2 rfl; omega
                have n122c : (s.2.2.1 109 27).toInt + 1 ≤ (s119.2.2.1 109 27).toInt := by have b0 : w10_109_27 = s119.2.2.1 109 27 := fr_F (v10_109_27) hF119 rfl; rw [← b0, ← e_109_27]; exact n122b
                exact g_return (gd rfl) rfl (hP _ _ ⟨s119, hI119, (fr_tr rfl hFc10 hF119), n122a, n122c, rfl, rfl⟩)
              · skip
                have i107 := r_eq1 7 7 c107 h1 (in_c 7 rfl) rfl
                refine g_iconst 3 111 (gd rfl) rfl rfl ?_
                refine g_goto 115 (gd rfl) rfl ?_
                refine g_aload_n 116 (gd rfl) rfl rfl ?_
                refine g_getI 119 (gd rfl) rfl rfl rfl (fun z116 e116 => ?_)
                have q116 : u_109_29 = z116 := (fr_F e_109_29 hFc10 rfl).trans e116.symm
                subst q116
                refine g_callv (X := _) (As := [.int (Int32.ofInt 3), .int u_109_29]) (r := []) (b := A 109) (q := 109) 122 (gd rfl) rfl rfl rfl rfl rfl (ww_o rfl) (Nat.le_of_ble_eq_true rfl) (Nat.zero_le _) (Nat.zero_le _) (k_298 (by omega) hIc10 (in_w 1 5 (in_c 3 rfl) rfl)) (fun e u h => h) (fun v u h => ?_)
                obtain ⟨s119, hI119, hF119, n119, rfl, rfl⟩ := h
                obtain ⟨z119a, e119⟩ : ∃ w, w = s119.2.2.1 109 23 := ⟨_, rfl⟩
                have i119a := inv_F hI119 0 9 rfl e119
                rw [← (show z119a = s119.2.2.1 109 23 from e119)] at n119
                show GG _ _ _ _ _ _ _ _ [] _ _ _
                have n122 : (w10_109_27).toInt ≤ (u_109_22).toInt := by have a0 := i107; unfold In at a0; have a1 := ro_109_29; unfold In at a1; have a2 := i18a; unfold In at a2; have a3 := i18; unfold In at a3; have a4 := j10_2; unfold In at a4; have a5 := i119a; unfold In at a5; have a6 := i100; unfold In at a6; have a7 := t_sub e98 i18 j10_2 rfl; omega
                have n122a : (s119.2.2.1 109 27).toInt ≤ (s119.2.2.1 109 22).toInt := by have b0 : w10_109_27 = s119.2.2.1 109 27 := fr_F (v10_109_27) hF119 rfl; have b1 : u_109_22 = s119.2.2.1 109 22 := fr_F (fr_F e_109_22 hFc10 rfl) hF119 rfl; rw [← b0, ← b1]; exact n122
                have n122b : (u_109_27).toInt + 1 ≤ (w10_109_27).toInt := by have a0 := i107; unfold In at a0; have a1 := ro_109_29; unfold In at a1; have a2 := i18a; unfold In at a2; have a3 := i18; unfold In at a3; have a4 := j10_2; unfold In at a4; have a5 := i119a; unfold In at a5; have a6 := i100; unfold In at a6; have a7 := t_sub e98 i18 j10_2 rfl; omega
                have n122c : (s.2.2.1 109 27).toInt + 1 ≤ (s119.2.2.1 109 27).toInt := by have b0 : w10_109_27 = s119.2.2.1 109 27 := fr_F (v10_109_27) hF119 rfl; rw [← b0, ← e_109_27]; exact n122b
                exact g_return (gd rfl) rfl (hP _ _ ⟨s119, hI119, (fr_tr rfl hFc10 hF119), n122a, n122c, rfl, rfl⟩)
          · skip
            exact zn_ne c33 (in_c 0 rfl) rfl
        · skip
          have i30x3 := r_le2 48 126 c30x3 (in_c 48 rfl) i29 rfl
          refine g_iload_n 7 (gd rfl) rfl rfl ?_
          refine g_bipush 57 9 (gd rfl) rfl rfl ?_
          refine g_cmp_gt 12 16 (gd rfl) rfl rfl (fun c30x9 => ?_) (fun c30x9 => ?_)
          · skip
            have i30x9 := r_lt2 58 126 c30x9 (in_c 57 rfl) i30x3 rfl
            refine g_iconst 0 17 (gd rfl) rfl rfl ?_
            refine g_ireturn (gd rfl) rfl (nb01 (in_w 0 1 (in_c 0 rfl) rfl)) (hp30 _ _ ?_)
            show GG _ _ _ _ _ _ _ _ [.int (Int32.ofInt 0)] _ _ _
            refine g_if_eq 36 93 (gd rfl) rfl rfl (fun c33 => ?_) (fun c33 => ?_)
            · skip
              have hq93 : (u_109_27).toInt + 1 ≤ (w10_109_27).toInt := (by first | (have a0 := h1; unfold In at a0; have a1 := ro_109_29; unfold In at a1; have a2 := i18a; unfold In at a2; have a3 := i18; unfold In at a3; have a4 := j10_2; unfold In at a4; omega) | (have hi := i30x3; unfold In at hi; have a0 := h1; unfold In at a0; have a1 := ro_109_29; unfold In at a1; have a2 := i18a; unfold In at a2; have a3 := i18; unfold In at a3; have a4 := j10_2; unfold In at a4; omega) | (have hi := i30x9; unfold In at hi; have a0 := h1; unfold In at a0; have a1 := ro_109_29; unfold In at a1; have a2 := i18a; unfold In at a2; have a3 := i18; unfold In at a3; have a4 := j10_2; unfold In at a4; omega))
              refine g_aload_n 94 (gd rfl) rfl rfl ?_
              refine g_getI 97 (gd rfl) rfl rfl rfl (fun z94 e94 => ?_)
              have q94 : w10_109_27 = z94 := (v10_109_27).trans e94.symm
              subst q94
              refine g_iload_n 98 (gd rfl) rfl rfl ?_
              refine g_isub 99 (gd rfl) rfl (fun z98 e98 => ?_)
              have i98 := in_sub (-1000) 999 e98 i18 j10_2 rfl rfl
              refine g_iload_n 100 (gd rfl) rfl rfl ?_
              refine g_cmp_le 103 122 (gd rfl) rfl rfl (fun c100 => ?_) (fun c100 => ?_)
              · skip
                have i100 := r_le1 (-1000) 7 c100 i98 h1 rfl
                have n122 : (w10_109_27).toInt ≤ (u_109_22).toInt := by have a0 := h1; unfold In at a0; have a1 := ro_109_29; unfold In at a1; have a2 := i18a; unfold In at a2; have a3 := i18; unfold In at a3; have a4 := j10_2; unfold In at a4; have a5 := i100; unfold In at a5; have a6 := t_sub e98 i18 j10_2 rfl; omega
                have n122a : (sc10.2.2.1 109 27).toInt ≤ (sc10.2.2.1 109 22).toInt := by have b0 : w10_109_27 = sc10.2.2.1 109 27 := v10_109_27; have b1 : u_109_22 = sc10.2.2.1 109 22 := fr_F e_109_22 hFc10 rfl; rw [← b0, ← b1]; exact n122
                have n122b : (u_109_27).toInt + 1 ≤ (w10_109_27).toInt := by have a0 := h1; unfold In at a0; have a1 := ro_109_29; unfold In at a1; have a2 := i18a; unfold In at a2; have a3 := i18; unfold In at a3; have a4 := j10_2; unfold In at a4; have a5 := i100; unfold In at a5; have a6 := t_sub e98 i18 j10_2 rfl; omega
                have n122c : (s.2.2.1 109 27).toInt + 1 ≤ (sc10.2.2.1 109 27).toInt := by have b0 : w10_109_27 = sc10.2.2.1 109 27 := v10_109_27; rw [← b0, ← e_109_27]; exact n122b
                exact g_return (gd rfl) rfl (hP _ _ ⟨sc10, hIc10, hFc10, n122a, n122c, rfl, rfl⟩)
              · skip
                have i100 := r_lt2 7 999 c100 h1 i98 rfl
                refine g_aload_n 104 (gd rfl) rfl rfl ?_
                refine g_iload_n 105 (gd rfl) rfl rfl ?_
                refine g_bipush 7 107 (gd rfl) rfl rfl ?_
                refine g_cmp_ne 110 114 (gd rfl) rfl rfl (fun c107 => ?_) (fun c107 => ?_)
                · skip
                  have i107 := r_ne1 6 6 c107 h1 (in_c 7 rfl) rfl
                  refine g_iconst 4 115 (gd rfl) rfl rfl ?_
                  refine g_aload_n 116 (gd rfl) rfl rfl ?_
                  refine g_getI 119 (gd rfl) rfl rfl rfl (fun z116 e116 => ?_)
                  have q116 : u_109_29 = z116 := (fr_F e_109_29 hFc10 rfl).trans e116.symm
                  subst q116
                  refine g_callv (X := _) (As := [.int (Int32.ofInt 4), .int u_109_29]) (r := []) (b := A 109) (q := 109) 122 (gd rfl) rfl rfl rfl rfl rfl (ww_o rfl) (Nat.le_of_ble_eq_true rfl) (Nat.zero_le _) (Nat.zero_le _) (k_298 (by omega) hIc10 (in_w 1 5 (in_c 4 rfl) rfl)) (fun e u h => h) (fun v u h => ?_)
                  obtain ⟨s119, hI119, hF119, n119, rfl, rfl⟩ := h
                  obtain ⟨z119a, e119⟩ : ∃ w, w = s119.2.2.1 109 23 := ⟨_, rfl⟩
                  have i119a := inv_F hI119 0 9 rfl e119
                  rw [← (show z119a = s119.2.2.1 109 23 from e119)] at n119
                  show GG _ _ _ _ _ _ _ _ [] _ _ _
                  have n122 : (w10_109_27).toInt ≤ (u_109_22).toInt := by have a0 := i107; unfold In at a0; have a1 := ro_109_29; unfold In at a1; have a2 := i18a; unfold In at a2; have a3 := i18; unfold In at a3; have a4 := j10_2; unfold In at a4; have a5 := i119a; unfold In at a5; have a6 := i100; unfold In at a6; have a7 := t_sub e98 i18 j10_2 rfl; omega
                  have n122a : (s119.2.2.1 109 27).toInt ≤ (s119.2.2.1 109 22).toInt := by have b0 : w10_109_27 = s119.2.2.1 109 27 := fr_F (v10_109_27) hF119 rfl; have b1 : u_109_22 = s119.2.2.1 109 22 := fr_F (fr_F e_109_22 hFc10 rfl) hF119 rfl; rw [← b0, ← b1]; exact n122
                  have n122b : (u_109_27).toInt + 1 ≤ (w10_109_27).toInt := by have a0 := i107; unfold In at a0; have a1 := ro_109_29; unfold In at a1; have a2 := i18a; unfold In at a2; have a3 := i18; unfold In at a3; have a4 := j10_2; unfold In at a4; have a5 := i119a; unfold In at a5; have a6 := i100; unfold In at a6; have a7 := t_sub e98 i18 j10_2 rfl; omega
                  have n122c : (s.2.2.1 109 27).toInt + 1 ≤ (s119.2.2.1 109 27).toInt := by have b0 : w10_109_27 = s119.2.2.1 109 27 := fr_F (v10_109_27) hF119 rfl; rw [← b0, ← e_109_27]; exact n122b
                  exact g_return (gd rfl) rfl (hP _ _ ⟨s119, hI119, (fr_tr rfl hFc10 hF119), n122a, n122c, rfl, rfl⟩)
                · skip
                  have i107 := r_eq1 7 7 c107 h1 (in_c 7 rfl) rfl
                  refine g_iconst 3 111 (gd rfl) rfl rfl ?_
                  refine g_goto 115 (gd rfl) rfl ?_
                  refine g_aload_n 116 (gd rfl) rfl rfl ?_
                  refine g_getI 119 (gd rfl) rfl rfl rfl (fun z116 e116 => ?_)
                  have q116 : u_109_29 = z116 := (fr_F e_109_29 hFc10 rfl).trans e116.symm
                  subst q116
                  refine g_callv (X := _) (As := [.int (Int32.ofInt 3), .int u_109_29]) (r := []) (b := A 109) (q := 109) 122 (gd rfl) rfl rfl rfl rfl rfl (ww_o rfl) (Nat.le_of_ble_eq_true rfl) (Nat.zero_le _) (Nat.zero_le _) (k_298 (by omega) hIc10 (in_w 1 5 (in_c 3 rfl) rfl)) (fun e u h => h) (fun v u h => ?_)
                  obtain ⟨s119, hI119, hF119, n119, rfl, rfl⟩ := h
                  obtain ⟨z119a, e119⟩ : ∃ w, w = s119.2.2.1 109 23 := ⟨_, rfl⟩
                  have i119a := inv_F hI119 0 9 rfl e119
                  rw [← (show z119a = s119.2.2.1 109 23 from e119)] at n119
                  show GG _ _ _ _ _ _ _ _ [] _ _ _
                  have n122 : (w10_109_27).toInt ≤ (u_109_22).toInt := by have a0 := i107; unfold In at a0; have a1 := ro_109_29; unfold In at a1; have a2 := i18a; unfold In at a2; have a3 := i18; unfold In at a3; have a4 := j10_2; unfold In at a4; have a5 := i119a; unfold In at a5; have a6 := i100; unfold In at a6; have a7 := t_sub e98 i18 j10_2 rfl; omega
                  have n122a : (s119.2.2.1 109 27).toInt ≤ (s119.2.2.1 109 22).toInt := by have b0 : w10_109_27 = s119.2.2.1 109 27 := fr_F (v10_109_27) hF119 rfl; have b1 : u_109_22 = s119.2.2.1 109 22 := fr_F (fr_F e_109_22 hFc10 rfl) hF119 rfl; rw [← b0, ← b1]; exact n122
                  have n122b : (u_109_27).toInt + 1 ≤ (w10_109_27).toInt := by have a0 := i107; unfold In at a0; have a1 := ro_109_29; unfold In at a1; have a2 := i18a; unfold In at a2; have a3 := i18; unfold In at a3; have a4 := j10_2; unfold In at a4; have a5 := i119a; unfold In at a5; have a6 := i100; unfold In at a6; have a7 := t_sub e98 i18 j10_2 rfl; omega
                  have n122c : (s.2.2.1 109 27).toInt + 1 ≤ (s119.2.2.1 109 27).toInt := by have b0 : w10_109_27 = s119.2.2.1 109 27 := fr_F (v10_109_27) hF119 rfl; rw [← b0, ← e_109_27]; exact n122b
                  exact g_return (gd rfl) rfl (hP _ _ ⟨s119, hI119, (fr_tr rfl hFc10 hF119), n122a, n122c, rfl, rfl⟩)
            · skip
              exact zn_ne c33 (in_c 0 rfl) rfl
          · skip
            have i30x9 := r_le1 48 57 c30x9 i30x3 (in_c 57 rfl) rfl
            refine g_iconst 1 13 (gd rfl) rfl rfl ?_
            refine g_goto 17 (gd rfl) rfl ?_
            refine g_ireturn (gd rfl) rfl (nb01 (in_w 0 1 (in_c 1 rfl) rfl)) (hp30 _ _ ?_)
            show GG _ _ _ _ _ _ _ _ [.int (Int32.ofInt 1)] _ _ _
            refine g_if_eq 36 93 (gd rfl) rfl rfl (fun c33 => ?_) (fun c33 => ?_)
            · skip
              exact zn_eq c33 (in_c 1 rfl) rfl
            · skip
              refine g_aload_n 37 (gd rfl) rfl rfl ?_
              refine g_aload_n 38 (gd rfl) rfl rfl ?_
              refine g_getI 41 (gd rfl) rfl rfl rfl (fun z38 e38 => ?_)
              have q38 : w10_109_27 = z38 := (v10_109_27).trans e38.symm
              subst q38
              refine g_iload_n 42 (gd rfl) rfl rfl ?_
              refine g_isub 43 (gd rfl) rfl (fun z42 e42 => ?_)
              have i42 := in_sub (-1000) 999 e42 i18 j10_2 rfl rfl
              refine g_iload_n 44 (gd rfl) rfl rfl ?_
              refine g_cmp_ge 47 73 (gd rfl) rfl rfl (fun c44 => ?_) (fun c44 => ?_)
              · skip
                have i44 := r_le2 6 999 c44 h1 i42 rfl
                refine g_aload_n 74 (gd rfl) rfl rfl ?_
                refine g_getL 77 (gd rfl) rfl rfl rfl (fun z74 e74 => ?_)
                refine g_putL 80 (gd rfl) rfl rfl rfl rfl ?_
                have hI77 := inv_sG (q := 109) (j := 31) (x := z74) hIc10 rfl (l_rng z74)
                refine g_aload_n 81 (gd rfl) rfl rfl ?_
                refine g_dup 82 (gd rfl) rfl rfl ?_
                refine g_getI 85 (gd rfl) rfl rfl rfl (fun z82 e82 => ?_)
                have q82 : w10_109_27 = z82 := (sG_F (v10_109_27)).trans e82.symm
                subst q82
                refine g_iconst 1 86 (gd rfl) rfl rfl ?_
                refine g_iadd 87 (gd rfl) rfl (fun z86 e86 => ?_)
                have i86 := in_add 1 1000 e86 i18 (in_c 1 rfl) rfl rfl
                refine g_putI 90 (gd rfl) rfl rfl rfl rfl ?_
                have hI87 := inv_sF (q := 109) (j := 27) hI77 rfl (in_w 0 1000 i86 rfl)
                refine g_goto 10 (gd rfl) rfl ?_
                have v10 : z86 = (sF (sG sc10 109 31 z74) 109 27 z86).2.2.1 109 27 := sF_get
                have n10 : (z86).toInt ≤ (u_109_22).toInt := by have a0 := h1; unfold In at a0; have a1 := ro_109_29; unfold In at a1; have a2 := i18a; unfold In at a2; have a3 := i18; unfold In at a3; have a4 := j10_2; unfold In at a4; have a5 := i86; unfold In at a5; have a6 := t_add e86 i18 (in_c 1 rfl) rfl; have a7 := (in_c 1 rfl); unfold In at a7; have a8 := i44; unfold In at a8; have a9 := t_sub e42 i18 j10_2 rfl; omega
                have n10a : (u_109_27).toInt ≤ (z86).toInt := by have a0 := h1; unfold In at a0; have a1 := ro_109_29; unfold In at a1; have a2 := i18a; unfold In at a2; have a3 := i18; unfold In at a3; have a4 := j10_2; unfold In at a4; have a5 := i86; unfold In at a5; have a6 := t_add e86 i18 (in_c 1 rfl) rfl; have a7 := (in_c 1 rfl); unfold In at a7; have a8 := i44; unfold In at a8; have a9 := t_sub e42 i18 j10_2 rfl; omega
                have m10 : (u_109_22).toInt - (z86).toInt < ((k10 : Nat) : Int) := by have a0 := h1; unfold In at a0; have a1 := ro_109_29; unfold In at a1; have a2 := i18a; unfold In at a2; have a3 := i18; unfold In at a3; have a4 := j10_2; unfold In at a4; have a5 := i86; unfold In at a5; have a6 := t_add e86 i18 (in_c 1 rfl) rfl; have a7 := (in_c 1 rfl); unfold In at a7; have a8 := i44; unfold In at a8; have a9 := t_sub e42 i18 j10_2 rfl; omega
                exact gg_w (by omega) (gg_f (gf_cons rfl (gf_cons rfl (gf_cons rfl gf_nil))) (ih10  (sF (sG sc10 109 31 z74) 109 27 z86) y10_2 z86 hI87 (fr_sF rfl (fr_sG rfl hFc10)) (in_w 0 1000 j10_2 rfl) v10 n10 n10a m10))
              · skip
                have i44 := r_lt1 (-1000) 6 c44 i42 h1 rfl
                refine g_ldc2_w 10 50 (gd rfl) rfl rfl ?_
                refine g_aload_n 51 (gd rfl) rfl rfl ?_
                refine g_getL 54 (gd rfl) rfl rfl rfl (fun z51 e51 => ?_)
                refine g_lmul 55 (gd rfl) rfl (fun z54 e54 => ?_)
                refine g_aload_n 56 (gd rfl) rfl rfl ?_
                refine g_getA (q2 := 125) 59 (gd rfl) rfl rfl rfl rfl ?_
                refine g_aload_n 60 (gd rfl) rfl rfl ?_
                refine g_getI 63 (gd rfl) rfl rfl rfl (fun z60 e60 => ?_)
                have q60 : w10_109_27 = z60 := (v10_109_27).trans e60.symm
                subst q60
                refine g_iaload 64 (gd rfl) rfl (n := 1000) rfl (in_ix i18 rfl) (fun z63 e63 => ?_)
                have q63 : z29 = z63 := (e29).trans e63.symm
                subst q63
                refine g_i2l 65 (gd rfl) rfl (fun z64 e64 => ?_)
                have i64 := l_i e64 i30x9
                refine g_ladd 66 (gd rfl) rfl (fun z65 e65 => ?_)
                refine g_ldc2_w 48 69 (gd rfl) rfl rfl ?_
                refine g_lsub 70 (gd rfl) rfl (fun z69 e69 => ?_)
                refine g_goto 77 (gd rfl) rfl ?_
                refine g_putL 80 (gd rfl) rfl rfl rfl rfl ?_
                have hI77 := inv_sG (q := 109) (j := 31) (x := z69) hIc10 rfl (l_rng z69)
                refine g_aload_n 81 (gd rfl) rfl rfl ?_
                refine g_dup 82 (gd rfl) rfl rfl ?_
                refine g_getI 85 (gd rfl) rfl rfl rfl (fun z82 e82 => ?_)
                have q82 : w10_109_27 = z82 := (sG_F (v10_109_27)).trans e82.symm
                subst q82
                refine g_iconst 1 86 (gd rfl) rfl rfl ?_
                refine g_iadd 87 (gd rfl) rfl (fun z86 e86 => ?_)
                have i86 := in_add 1 1000 e86 i18 (in_c 1 rfl) rfl rfl
                refine g_putI 90 (gd rfl) rfl rfl rfl rfl ?_
                have hI87 := inv_sF (q := 109) (j := 27) hI77 rfl (in_w 0 1000 i86 rfl)
                refine g_goto 10 (gd rfl) rfl ?_
                have v10 : z86 = (sF (sG sc10 109 31 z69) 109 27 z86).2.2.1 109 27 := sF_get
                have n10 : (z86).toInt ≤ (u_109_22).toInt := by have a0 := h1; unfold In at a0; have a1 := ro_109_29; unfold In at a1; have a2 := i18a; unfold In at a2; have a3 := i18; unfold In at a3; have a4 := j10_2; unfold In at a4; have a5 := i86; unfold In at a5; have a6 := t_add e86 i18 (in_c 1 rfl) rfl; have a7 := (in_c 1 rfl); unfold In at a7; have a8 := tx_i2l e64; have a9 := i30x9; unfold In at a9; have a10 := i44; unfold In at a10; have a11 := t_sub e42 i18 j10_2 rfl; omega
                have n10a : (u_109_27).toInt ≤ (z86).toInt := by have a0 := h1; unfold In at a0; have a1 := ro_109_29; unfold In at a1; have a2 := i18a; unfold In at a2; have a3 := i18; unfold In at a3; have a4 := j10_2; unfold In at a4; have a5 := i86; unfold In at a5; have a6 := t_add e86 i18 (in_c 1 rfl) rfl; have a7 := (in_c 1 rfl); unfold In at a7; have a8 := tx_i2l e64; have a9 := i30x9; unfold In at a9; have a10 := i44; unfold In at a10; have a11 := t_sub e42 i18 j10_2 rfl; omega
                have m10 : (u_109_22).toInt - (z86).toInt < ((k10 : Nat) : Int) := by have a0 := h1; unfold In at a0; have a1 := ro_109_29; unfold In at a1; have a2 := i18a; unfold In at a2; have a3 := i18; unfold In at a3; have a4 := j10_2; unfold In at a4; have a5 := i86; unfold In at a5; have a6 := t_add e86 i18 (in_c 1 rfl) rfl; have a7 := (in_c 1 rfl); unfold In at a7; have a8 := tx_i2l e64; have a9 := i30x9; unfold In at a9; have a10 := i44; unfold In at a10; have a11 := t_sub e42 i18 j10_2 rfl; omega
                exact gg_w (by omega) (gg_f (gf_cons rfl (gf_cons rfl (gf_cons rfl gf_nil))) (ih10  (sF (sG sc10 109 31 z69) 109 27 z86) y10_2 z86 hI87 (fr_sF rfl (fr_sG rfl hFc10)) (in_w 0 1000 j10_2 rfl) v10 n10 n10a m10))
  refine g_enter2 (k := 300) (N := 901801) (by omega) rfl (Nat.le_of_ble_eq_true rfl) ?_
  refine g_aload_n 1 (gd rfl) rfl rfl ?_
  refine g_getI 4 (gd rfl) rfl rfl rfl (fun z1 e1 => ?_)
  have q1 : u_109_27 = z1 := (e_109_27).trans e1.symm
  subst q1
  refine g_istore_n 5 (gd rfl) rfl (Nat.le_of_ble_eq_true rfl) ?_
  refine g_aload_n 6 (gd rfl) rfl rfl ?_
  refine g_lconst 0 7 (gd rfl) rfl rfl ?_
  refine g_putL 10 (gd rfl) rfl rfl rfl rfl ?_
  have hI7 := inv_sG (q := 109) (j := 31) (x := (Int64.ofInt 0)) hI rfl (l_rng (Int64.ofInt 0))
  have v10 : u_109_27 = (sG s 109 31 (Int64.ofInt 0)).2.2.1 109 27 := sG_F (e_109_27)
  have n10 : (u_109_27).toInt ≤ (u_109_22).toInt := by have a0 := ro_109_29; unfold In at a0; have a1 := (inv_F hI 0 1000 rfl e_109_22); unfold In at a1; have a2 := (inv_F hI 0 1000 rfl e_109_27); unfold In at a2; have a3 := h1; unfold In at a3; omega
  have n10a : (u_109_27).toInt ≤ (u_109_27).toInt := by have a0 := ro_109_29; unfold In at a0; have a1 := (inv_F hI 0 1000 rfl e_109_22); unfold In at a1; have a2 := (inv_F hI 0 1000 rfl e_109_27); unfold In at a2; have a3 := h1; unfold In at a3; omega
  have m10 : (u_109_22).toInt - (u_109_27).toInt < ((1001 : Nat) : Int) := by have a0 := ro_109_29; unfold In at a0; have a1 := (inv_F hI 0 1000 rfl e_109_22); unfold In at a1; have a2 := (inv_F hI 0 1000 rfl e_109_27); unfold In at a2; have a3 := h1; unfold In at a3; omega
  exact gg_w (by omega) (gg_f (gf_cons rfl (gf_cons rfl (gf_cons rfl gf_nil))) (ct10 1001 (sG s 109 31 (Int64.ofInt 0)) u_109_27 u_109_27 hI7 (fr_sG rfl fr_rf) (in_w 0 1000 (inv_F hI 0 1000 rfl e_109_27) rfl) v10 n10 n10a m10))
