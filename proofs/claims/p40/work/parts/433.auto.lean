/-! methods, by vc.py -/
def fm_402 : FM := ([187, 188, 190], [], [(109, 23), (109, 24), (109, 109), (109, 111), (109, 112)], [])
/-- GraphHouseModel.behindFactor -/
theorem k_402 {Z : AmZ} {A : Nat → Nat} {s : GS} {ex : va_W} {d : Nat} {X : AmX} {x1 : Int32} {u_109_109 : Int32} {u_109_111 : Int32} {u_109_28 : Int32} (hd : 4 ≤ d) (hI : Inv s) (h1 : In x1 0 1) (e_109_109 : u_109_109 = s.2.2.1 109 109) (e_109_111 : u_109_111 = s.2.2.1 109 111) (e_109_28 : u_109_28 = s.2.2.1 109 28) (p_0 : (u_109_109).toInt + (u_109_111).toInt ≤ 120) (p_1 : (u_109_28).toInt ≠ 0 → (u_109_109).toInt + (u_109_111).toInt ≤ 119) : GC Z d 402 [.ref (A 109), .int x1] (WW Z A s ++ ex) 0 0 (fun v u => ∃ t : GS, Inv t ∧ Fr fm_402 s t ∧ ((t.2.2.1 109 109).toInt + (t.2.2.1 109 111).toInt ≤ (s.2.2.1 109 109).toInt + (s.2.2.1 109 111).toInt + 1) ∧ ((s.2.2.1 109 28).toInt = 0 → (t.2.2.1 109 109).toInt + (t.2.2.1 109 111).toInt = (s.2.2.1 109 109).toInt + (s.2.2.1 109 111).toInt) ∧ ∃ z : Int32, v = some (.int z) ∧ u = WW Z A t ++ ex ∧ In z 0 2 ∧ ((z).toInt = 0 → PR s t 1 0) ∧ ((z).toInt ≠ 0 → PR s t 1 1) ∧ ((s.2.2.1 109 28).toInt = 0 → (z).toInt = 2)) X := by
  intro post xp hP hX
  obtain ⟨u_109_29, e_109_29⟩ : ∃ w, w = s.2.2.1 109 29 := ⟨_, rfl⟩
  have ro_109_29 := inv_F hI 0 1000 rfl e_109_29
  obtain ⟨u_109_30, e_109_30⟩ : ∃ w, w = s.2.2.1 109 30 := ⟨_, rfl⟩
  refine g_enter2 (k := 402) (N := 900) (by first | exact dq1 hd rfl | exact dq0 hd rfl | exact dq2 hd rfl | exact dq3 hd rfl | omega) rfl (Nat.le_of_ble_eq_true rfl) ?_
  refine g_aload_n 1 (gd rfl) rfl rfl ?_
  refine g_getI 4 (gd rfl) rfl rfl rfl (fun z1 e1 => ?_)
  have q1 : u_109_28 = z1 := (e_109_28).trans e1.symm
  subst q1
  refine g_if_eq 7 24 (gd rfl) rfl rfl (fun c4 => ?_) (fun c4 => ?_)
  · skip
    have i4 := z_eq 0 0 c4 (inv_F hI (-2147483648) 2147483647 rfl e_109_28) rfl
    refine g_aload_n 25 (gd rfl) rfl rfl ?_
    refine g_iconst 1 26 (gd rfl) rfl rfl ?_
    have n26 : (u_109_109).toInt + (u_109_111).toInt ≤ 120 := by have a0 := in_u ro_109_29; have a1 := in_u i4; have a2 := in_u ((inv_F hI 0 200 rfl e_109_111)); have a3 := in_u ((inv_F hI 0 400 rfl e_109_109)); have a4 := in_u h1; omega
    refine g_callv (X := _) (As := [.int (Int32.ofInt 1)]) (r := []) (b := A 109) (q := 109) 29 (gd rfl) rfl rfl rfl rfl rfl (ww_o rfl) (Nat.le_of_ble_eq_true rfl) (Nat.zero_le _) (Nat.zero_le _) (k_399 (by first | exact dq1 hd rfl | exact dq0 hd rfl | exact dq2 hd rfl | exact dq3 hd rfl | omega) hI (in_w 1 3 (in_c 1 rfl) rfl) e_109_109 e_109_111 n26) (fun e u h => h) (fun v u h => ?_)
    obtain ⟨s26, hI26, hF26, n26a, rfl, rfl, p26⟩ := h
    obtain ⟨z26a, e26⟩ : ∃ w, w = s26.2.2.1 109 109 := ⟨_, rfl⟩
    have i26a := inv_F hI26 0 400 rfl e26
    obtain ⟨z26b, e26a⟩ : ∃ w, w = s26.2.2.1 109 111 := ⟨_, rfl⟩
    have i26b := inv_F hI26 0 200 rfl e26a
    rw [← (show u_109_109 = s.2.2.1 109 109 from e_109_109)] at n26a
    rw [← (show u_109_111 = s.2.2.1 109 111 from e_109_111)] at n26a
    rw [← (show z26a = s26.2.2.1 109 109 from e26)] at n26a
    rw [← (show z26b = s26.2.2.1 109 111 from e26a)] at n26a
    show GG _ _ _ _ _ _ _ _ [] _ _ _
    refine g_aload_n 30 (gd rfl) rfl rfl ?_
    refine g_getI 33 (gd rfl) rfl rfl rfl (fun z30 e30 => ?_)
    have q30 : z26b = z30 := (e26a).trans e30.symm
    subst q30
    refine g_if_gt 36 53 (gd rfl) rfl rfl (fun c33 => ?_) (fun c33 => ?_)
    · skip
      have i33 := z_gt 1 200 c33 i26b rfl
      refine g_aload_n 54 (gd rfl) rfl rfl ?_
      refine g_iconst 2 55 (gd rfl) rfl rfl ?_
      refine g_aload_n 56 (gd rfl) rfl rfl ?_
      refine g_getI 59 (gd rfl) rfl rfl rfl (fun z56 e56 => ?_)
      have q56 : u_109_29 = z56 := (fr_F (e_109_29) hF26 rfl).trans e56.symm
      subst q56
      refine g_callv (X := _) (As := [.int (Int32.ofInt 2), .int u_109_29]) (r := []) (b := A 109) (q := 109) 62 (gd rfl) rfl rfl rfl rfl rfl (ww_o rfl) (Nat.le_of_ble_eq_true rfl) (Nat.zero_le _) (Nat.zero_le _) (k_298 (by first | exact dq1 hd rfl | exact dq0 hd rfl | exact dq2 hd rfl | exact dq3 hd rfl | omega) hI26 (in_w 1 5 (in_c 2 rfl) rfl)) (fun e u h => h) (fun v u h => ?_)
      obtain ⟨s59, hI59, hF59, n59, rfl, rfl⟩ := h
      obtain ⟨z59a, e59⟩ : ∃ w, w = s59.2.2.1 109 23 := ⟨_, rfl⟩
      have i59a := inv_F hI59 0 9 rfl e59
      rw [← (show z59a = s59.2.2.1 109 23 from e59)] at n59
      show GG _ _ _ _ _ _ _ _ [] _ _ _
      refine g_iconst 2 63 (gd rfl) rfl rfl ?_
      have n63 : ((Int32.ofInt 2)).toInt = 0 → PR s s59 1 0 := by intro hR; first | (exfalso; revert hR; decide) | exact pr_tr p91 (pr_hold (hF99.1 187 rfl) (hF99.1 188 rfl) (hF99.2.2.1 109 109 rfl) (hF99.2.2.1 109 23 rfl) p99 (by rw [← e99, ← e91a]; exact n99a) (inv_F hI91 0 200 rfl rfl).1 (Or.inr ⟨by first | (have hi := i76x3; unfold In at hi; omega) | (have hi := i76x13; unfold In at hi; omega) | (have hi := i76x19; unfold In at hi; omega) | (have hi := i76x29; unfold In at hi; omega) | (have hi := i76x35; unfold In at hi; omega), rfl⟩)) | exact pr_tr p111 (pr_hold (hF139.1 187 rfl) (hF139.1 188 rfl) (hF139.2.2.1 109 109 rfl) (hF139.2.2.1 109 23 rfl) p139 (by rw [← e139, ← e111a]; exact n139a) (inv_F hI111 0 200 rfl rfl).1 (Or.inr ⟨by first | (have hi := i76x3; unfold In at hi; omega) | (have hi := i76x13; unfold In at hi; omega) | (have hi := i76x19; unfold In at hi; omega) | (have hi := i76x29; unfold In at hi; omega) | (have hi := i76x35; unfold In at hi; omega), rfl⟩)) | exact pr_tr p111 (pr_tr (b := 1) (pr_flt (hF131.1 187 rfl) (hF131.1 188 rfl) (hF131.2.2.1 109 109 rfl) (by rw [← e131]; omega)) (pr_hold (hF139.1 187 rfl) (hF139.1 188 rfl) (hF139.2.2.1 109 109 rfl) (hF139.2.2.1 109 23 rfl) p139 (by rw [← e139, ← (show z111b = s131.2.2.1 109 111 from fr_F e111a hF131 rfl)]; exact n139a) (inv_F hI131 0 200 rfl rfl).1 (Or.inr ⟨by first | (have hi := i76x3; unfold In at hi; omega) | (have hi := i76x13; unfold In at hi; omega) | (have hi := i76x19; unfold In at hi; omega) | (have hi := i76x29; unfold In at hi; omega) | (have hi := i76x35; unfold In at hi; omega), rfl⟩)))
      have n63a : ((Int32.ofInt 2)).toInt ≠ 0 → PR s s59 1 1 := by intro hR; first | (exact absurd rfl hR) | exact p26 | exact pr_tr p26 (pr_flt (hF59.1 187 rfl) (hF59.1 188 rfl) (hF59.2.2.1 109 109 rfl) (by rw [← e59]; omega)) | exact pr_tr p163 (pr_flt (hF181.1 187 rfl) (hF181.1 188 rfl) (hF181.2.2.1 109 109 rfl) (by rw [← e181]; omega)) | exact pr_flt (hF202.1 187 rfl) (hF202.1 188 rfl) (hF202.2.2.1 109 109 rfl) (by rw [← e202]; omega) | exact pr_tr p163 (pr_tr (pr_drop (x := z167x21) (b := z167x20) (hF187.1 187 rfl) (hF187.1 188 rfl) (hF187.2.2.1 109 109 rfl) (hF187.2.2.1 109 23 rfl) (hF187.1 190 rfl) (by rw [← e187]; have a0 := in_u ro_109_29; have a1 := in_u i4; have a2 := in_u ((inv_F hI 0 200 rfl e_109_111)); have a3 := in_u ((inv_F hI 0 400 rfl e_109_109)); have a4 := in_u h1; have a5 := in_u i59a; have a6 := in_u i33; have a7 := in_u i26a; omega) (by rw [← e163a]; have a0 := in_u ro_109_29; have a1 := in_u i4; have a2 := in_u ((inv_F hI 0 200 rfl e_109_111)); have a3 := in_u ((inv_F hI 0 400 rfl e_109_109)); have a4 := in_u h1; have a5 := in_u i59a; have a6 := in_u i33; have a7 := in_u i26a; omega) i167x20.1 e167x21 (Or.inr (c172.trans rfl))) p191)
      have n63b : (s.2.2.1 109 28).toInt = 0 → ((Int32.ofInt 2)).toInt = 2 := by rw [← e_109_28]; intro h0; first | rfl | (exfalso; have a0 := in_u ro_109_29; have a1 := in_u i4; have a2 := in_u ((inv_F hI 0 200 rfl e_109_111)); have a3 := in_u ((inv_F hI 0 400 rfl e_109_109)); have a4 := in_u h1; have a5 := in_u i59a; have a6 := in_u i33; have a7 := in_u i26a; omega)
      have n63c : (z26a).toInt + (z26b).toInt ≤ (u_109_109).toInt + (u_109_111).toInt + 1 := by have a0 := in_u ro_109_29; have a1 := in_u i4; have a2 := in_u ((inv_F hI 0 200 rfl e_109_111)); have a3 := in_u ((inv_F hI 0 400 rfl e_109_109)); have a4 := in_u h1; have a5 := in_u i59a; have a6 := in_u i33; have a7 := in_u i26a; omega
      have n63d : (s59.2.2.1 109 109).toInt + (s59.2.2.1 109 111).toInt ≤ (s.2.2.1 109 109).toInt + (s.2.2.1 109 111).toInt + 1 := by have b0 : z26a = s59.2.2.1 109 109 := fr_F (e26) hF59 rfl; have b1 : z26b = s59.2.2.1 109 111 := fr_F (e26a) hF59 rfl; first | (rw [← b0, ← b1, ← e_109_109, ← e_109_111]; exact n63c) | (rw [← b0, ← b1]; exact n63c)
      have n63e : (u_109_28).toInt = 0 → (z26a).toInt + (z26b).toInt = (u_109_109).toInt + (u_109_111).toInt := by have a0 := in_u ro_109_29; have a1 := in_u i4; have a2 := in_u ((inv_F hI 0 200 rfl e_109_111)); have a3 := in_u ((inv_F hI 0 400 rfl e_109_109)); have a4 := in_u h1; have a5 := in_u i59a; have a6 := in_u i33; have a7 := in_u i26a; omega
      have n63f : (s.2.2.1 109 28).toInt = 0 → (s59.2.2.1 109 109).toInt + (s59.2.2.1 109 111).toInt = (s.2.2.1 109 109).toInt + (s.2.2.1 109 111).toInt := by have b0 : z26a = s59.2.2.1 109 109 := fr_F (e26) hF59 rfl; have b1 : z26b = s59.2.2.1 109 111 := fr_F (e26a) hF59 rfl; first | (rw [← b0, ← b1, ← e_109_28, ← e_109_109, ← e_109_111]; exact n63e) | (rw [← b0, ← b1]; exact n63e)
      exact g_ireturn (gd rfl) rfl rfl (hP _ _ ⟨s59, hI59, (fr_tr rfl (fr_tr rfl fr_rf hF26) hF59), n63d, n63f, (Int32.ofInt 2), rfl, rfl, in_w 0 2 (in_c 2 rfl) rfl, n63, n63a, n63b⟩)
    · skip
      have i33 := z_le 0 0 c33 i26b rfl
      refine g_iload_n 37 (gd rfl) rfl rfl ?_
      refine g_aload_n 38 (gd rfl) rfl rfl ?_
      refine g_getI 41 (gd rfl) rfl rfl rfl (fun z38 e38 => ?_)
      have q38 : u_109_28 = z38 := (fr_F (e_109_28) hF26 rfl).trans e38.symm
      subst q38
      refine g_iconst 3 42 (gd rfl) rfl rfl ?_
      refine g_cmp_ne 45 49 (gd rfl) rfl rfl (fun c42 => ?_) (fun c42 => ?_)
      · skip
        refine g_iconst 0 50 (gd rfl) rfl rfl ?_
        refine g_cmp_eq 53 62 (gd rfl) rfl rfl (fun c50 => ?_) (fun c50 => ?_)
        · skip
          have i50 := r_eq1 0 0 c50 h1 (in_c 0 rfl) rfl
          refine g_iconst 2 63 (gd rfl) rfl rfl ?_
          have n63 : ((Int32.ofInt 2)).toInt = 0 → PR s s26 1 0 := by intro hR; first | (exfalso; revert hR; decide) | exact pr_tr p91 (pr_hold (hF99.1 187 rfl) (hF99.1 188 rfl) (hF99.2.2.1 109 109 rfl) (hF99.2.2.1 109 23 rfl) p99 (by rw [← e99, ← e91a]; exact n99a) (inv_F hI91 0 200 rfl rfl).1 (Or.inr ⟨by first | (have hi := i76x3; unfold In at hi; omega) | (have hi := i76x13; unfold In at hi; omega) | (have hi := i76x19; unfold In at hi; omega) | (have hi := i76x29; unfold In at hi; omega) | (have hi := i76x35; unfold In at hi; omega), rfl⟩)) | exact pr_tr p111 (pr_hold (hF139.1 187 rfl) (hF139.1 188 rfl) (hF139.2.2.1 109 109 rfl) (hF139.2.2.1 109 23 rfl) p139 (by rw [← e139, ← e111a]; exact n139a) (inv_F hI111 0 200 rfl rfl).1 (Or.inr ⟨by first | (have hi := i76x3; unfold In at hi; omega) | (have hi := i76x13; unfold In at hi; omega) | (have hi := i76x19; unfold In at hi; omega) | (have hi := i76x29; unfold In at hi; omega) | (have hi := i76x35; unfold In at hi; omega), rfl⟩)) | exact pr_tr p111 (pr_tr (b := 1) (pr_flt (hF131.1 187 rfl) (hF131.1 188 rfl) (hF131.2.2.1 109 109 rfl) (by rw [← e131]; omega)) (pr_hold (hF139.1 187 rfl) (hF139.1 188 rfl) (hF139.2.2.1 109 109 rfl) (hF139.2.2.1 109 23 rfl) p139 (by rw [← e139, ← (show z111b = s131.2.2.1 109 111 from fr_F e111a hF131 rfl)]; exact n139a) (inv_F hI131 0 200 rfl rfl).1 (Or.inr ⟨by first | (have hi := i76x3; unfold In at hi; omega) | (have hi := i76x13; unfold In at hi; omega) | (have hi := i76x19; unfold In at hi; omega) | (have hi := i76x29; unfold In at hi; omega) | (have hi := i76x35; unfold In at hi; omega), rfl⟩)))
          have n63a : ((Int32.ofInt 2)).toInt ≠ 0 → PR s s26 1 1 := by intro hR; first | (exact absurd rfl hR) | exact p26 | exact pr_tr p26 (pr_flt (hF59.1 187 rfl) (hF59.1 188 rfl) (hF59.2.2.1 109 109 rfl) (by rw [← e59]; omega)) | exact pr_tr p163 (pr_flt (hF181.1 187 rfl) (hF181.1 188 rfl) (hF181.2.2.1 109 109 rfl) (by rw [← e181]; omega)) | exact pr_flt (hF202.1 187 rfl) (hF202.1 188 rfl) (hF202.2.2.1 109 109 rfl) (by rw [← e202]; omega) | exact pr_tr p163 (pr_tr (pr_drop (x := z167x21) (b := z167x20) (hF187.1 187 rfl) (hF187.1 188 rfl) (hF187.2.2.1 109 109 rfl) (hF187.2.2.1 109 23 rfl) (hF187.1 190 rfl) (by rw [← e187]; have a0 := in_u ro_109_29; have a1 := in_u i4; have a2 := in_u ((inv_F hI 0 200 rfl e_109_111)); have a3 := in_u ((inv_F hI 0 400 rfl e_109_109)); have a4 := in_u i50; have a5 := in_u i33; have a6 := in_u i26a; omega) (by rw [← e163a]; have a0 := in_u ro_109_29; have a1 := in_u i4; have a2 := in_u ((inv_F hI 0 200 rfl e_109_111)); have a3 := in_u ((inv_F hI 0 400 rfl e_109_109)); have a4 := in_u i50; have a5 := in_u i33; have a6 := in_u i26a; omega) i167x20.1 e167x21 (Or.inr (c172.trans rfl))) p191)
          have n63b : (s.2.2.1 109 28).toInt = 0 → ((Int32.ofInt 2)).toInt = 2 := by rw [← e_109_28]; intro h0; first | rfl | (exfalso; have a0 := in_u ro_109_29; have a1 := in_u i4; have a2 := in_u ((inv_F hI 0 200 rfl e_109_111)); have a3 := in_u ((inv_F hI 0 400 rfl e_109_109)); have a4 := in_u i50; have a5 := in_u i33; have a6 := in_u i26a; omega)
          have n63c : (z26a).toInt + (z26b).toInt ≤ (u_109_109).toInt + (u_109_111).toInt + 1 := by have a0 := in_u ro_109_29; have a1 := in_u i4; have a2 := in_u ((inv_F hI 0 200 rfl e_109_111)); have a3 := in_u ((inv_F hI 0 400 rfl e_109_109)); have a4 := in_u i50; have a5 := in_u i33; have a6 := in_u i26a; omega
          have n63d : (s26.2.2.1 109 109).toInt + (s26.2.2.1 109 111).toInt ≤ (s.2.2.1 109 109).toInt + (s.2.2.1 109 111).toInt + 1 := by have b0 : z26a = s26.2.2.1 109 109 := e26; have b1 : z26b = s26.2.2.1 109 111 := e26a; first | (rw [← b0, ← b1, ← e_109_109, ← e_109_111]; exact n63c) | (rw [← b0, ← b1]; exact n63c)
          have n63e : (u_109_28).toInt = 0 → (z26a).toInt + (z26b).toInt = (u_109_109).toInt + (u_109_111).toInt := by have a0 := in_u ro_109_29; have a1 := in_u i4; have a2 := in_u ((inv_F hI 0 200 rfl e_109_111)); have a3 := in_u ((inv_F hI 0 400 rfl e_109_109)); have a4 := in_u i50; have a5 := in_u i33; have a6 := in_u i26a; omega
          have n63f : (s.2.2.1 109 28).toInt = 0 → (s26.2.2.1 109 109).toInt + (s26.2.2.1 109 111).toInt = (s.2.2.1 109 109).toInt + (s.2.2.1 109 111).toInt := by have b0 : z26a = s26.2.2.1 109 109 := e26; have b1 : z26b = s26.2.2.1 109 111 := e26a; first | (rw [← b0, ← b1, ← e_109_28, ← e_109_109, ← e_109_111]; exact n63e) | (rw [← b0, ← b1]; exact n63e)
          exact g_ireturn (gd rfl) rfl rfl (hP _ _ ⟨s26, hI26, (fr_tr rfl fr_rf hF26), n63d, n63f, (Int32.ofInt 2), rfl, rfl, in_w 0 2 (in_c 2 rfl) rfl, n63, n63a, n63b⟩)
        · skip
          have i50 := r_ne1 1 1 c50 h1 (in_c 0 rfl) rfl
          refine g_aload_n 54 (gd rfl) rfl rfl ?_
          refine g_iconst 2 55 (gd rfl) rfl rfl ?_
          refine g_aload_n 56 (gd rfl) rfl rfl ?_
          refine g_getI 59 (gd rfl) rfl rfl rfl (fun z56 e56 => ?_)
          have q56 : u_109_29 = z56 := (fr_F (e_109_29) hF26 rfl).trans e56.symm
          subst q56
          refine g_callv (X := _) (As := [.int (Int32.ofInt 2), .int u_109_29]) (r := []) (b := A 109) (q := 109) 62 (gd rfl) rfl rfl rfl rfl rfl (ww_o rfl) (Nat.le_of_ble_eq_true rfl) (Nat.zero_le _) (Nat.zero_le _) (k_298 (by first | exact dq1 hd rfl | exact dq0 hd rfl | exact dq2 hd rfl | exact dq3 hd rfl | omega) hI26 (in_w 1 5 (in_c 2 rfl) rfl)) (fun e u h => h) (fun v u h => ?_)
          obtain ⟨s59, hI59, hF59, n59, rfl, rfl⟩ := h
          obtain ⟨z59a, e59⟩ : ∃ w, w = s59.2.2.1 109 23 := ⟨_, rfl⟩
          have i59a := inv_F hI59 0 9 rfl e59
          rw [← (show z59a = s59.2.2.1 109 23 from e59)] at n59
          show GG _ _ _ _ _ _ _ _ [] _ _ _
          refine g_iconst 2 63 (gd rfl) rfl rfl ?_
          have n63 : ((Int32.ofInt 2)).toInt = 0 → PR s s59 1 0 := by intro hR; first | (exfalso; revert hR; decide) | exact pr_tr p91 (pr_hold (hF99.1 187 rfl) (hF99.1 188 rfl) (hF99.2.2.1 109 109 rfl) (hF99.2.2.1 109 23 rfl) p99 (by rw [← e99, ← e91a]; exact n99a) (inv_F hI91 0 200 rfl rfl).1 (Or.inr ⟨by first | (have hi := i76x3; unfold In at hi; omega) | (have hi := i76x13; unfold In at hi; omega) | (have hi := i76x19; unfold In at hi; omega) | (have hi := i76x29; unfold In at hi; omega) | (have hi := i76x35; unfold In at hi; omega), rfl⟩)) | exact pr_tr p111 (pr_hold (hF139.1 187 rfl) (hF139.1 188 rfl) (hF139.2.2.1 109 109 rfl) (hF139.2.2.1 109 23 rfl) p139 (by rw [← e139, ← e111a]; exact n139a) (inv_F hI111 0 200 rfl rfl).1 (Or.inr ⟨by first | (have hi := i76x3; unfold In at hi; omega) | (have hi := i76x13; unfold In at hi; omega) | (have hi := i76x19; unfold In at hi; omega) | (have hi := i76x29; unfold In at hi; omega) | (have hi := i76x35; unfold In at hi; omega), rfl⟩)) | exact pr_tr p111 (pr_tr (b := 1) (pr_flt (hF131.1 187 rfl) (hF131.1 188 rfl) (hF131.2.2.1 109 109 rfl) (by rw [← e131]; omega)) (pr_hold (hF139.1 187 rfl) (hF139.1 188 rfl) (hF139.2.2.1 109 109 rfl) (hF139.2.2.1 109 23 rfl) p139 (by rw [← e139, ← (show z111b = s131.2.2.1 109 111 from fr_F e111a hF131 rfl)]; exact n139a) (inv_F hI131 0 200 rfl rfl).1 (Or.inr ⟨by first | (have hi := i76x3; unfold In at hi; omega) | (have hi := i76x13; unfold In at hi; omega) | (have hi := i76x19; unfold In at hi; omega) | (have hi := i76x29; unfold In at hi; omega) | (have hi := i76x35; unfold In at hi; omega), rfl⟩)))
          have n63a : ((Int32.ofInt 2)).toInt ≠ 0 → PR s s59 1 1 := by intro hR; first | (exact absurd rfl hR) | exact p26 | exact pr_tr p26 (pr_flt (hF59.1 187 rfl) (hF59.1 188 rfl) (hF59.2.2.1 109 109 rfl) (by rw [← e59]; omega)) | exact pr_tr p163 (pr_flt (hF181.1 187 rfl) (hF181.1 188 rfl) (hF181.2.2.1 109 109 rfl) (by rw [← e181]; omega)) | exact pr_flt (hF202.1 187 rfl) (hF202.1 188 rfl) (hF202.2.2.1 109 109 rfl) (by rw [← e202]; omega) | exact pr_tr p163 (pr_tr (pr_drop (x := z167x21) (b := z167x20) (hF187.1 187 rfl) (hF187.1 188 rfl) (hF187.2.2.1 109 109 rfl) (hF187.2.2.1 109 23 rfl) (hF187.1 190 rfl) (by rw [← e187]; have a0 := in_u ro_109_29; have a1 := in_u i4; have a2 := in_u ((inv_F hI 0 200 rfl e_109_111)); have a3 := in_u ((inv_F hI 0 400 rfl e_109_109)); have a4 := in_u i50; have a5 := in_u i59a; have a6 := in_u i33; have a7 := in_u i26a; omega) (by rw [← e163a]; have a0 := in_u ro_109_29; have a1 := in_u i4; have a2 := in_u ((inv_F hI 0 200 rfl e_109_111)); have a3 := in_u ((inv_F hI 0 400 rfl e_109_109)); have a4 := in_u i50; have a5 := in_u i59a; have a6 := in_u i33; have a7 := in_u i26a; omega) i167x20.1 e167x21 (Or.inr (c172.trans rfl))) p191)
          have n63b : (s.2.2.1 109 28).toInt = 0 → ((Int32.ofInt 2)).toInt = 2 := by rw [← e_109_28]; intro h0; first | rfl | (exfalso; have a0 := in_u ro_109_29; have a1 := in_u i4; have a2 := in_u ((inv_F hI 0 200 rfl e_109_111)); have a3 := in_u ((inv_F hI 0 400 rfl e_109_109)); have a4 := in_u i50; have a5 := in_u i59a; have a6 := in_u i33; have a7 := in_u i26a; omega)
          have n63c : (z26a).toInt + (z26b).toInt ≤ (u_109_109).toInt + (u_109_111).toInt + 1 := by have a0 := in_u ro_109_29; have a1 := in_u i4; have a2 := in_u ((inv_F hI 0 200 rfl e_109_111)); have a3 := in_u ((inv_F hI 0 400 rfl e_109_109)); have a4 := in_u i50; have a5 := in_u i59a; have a6 := in_u i33; have a7 := in_u i26a; omega
          have n63d : (s59.2.2.1 109 109).toInt + (s59.2.2.1 109 111).toInt ≤ (s.2.2.1 109 109).toInt + (s.2.2.1 109 111).toInt + 1 := by have b0 : z26a = s59.2.2.1 109 109 := fr_F (e26) hF59 rfl; have b1 : z26b = s59.2.2.1 109 111 := fr_F (e26a) hF59 rfl; first | (rw [← b0, ← b1, ← e_109_109, ← e_109_111]; exact n63c) | (rw [← b0, ← b1]; exact n63c)
          have n63e : (u_109_28).toInt = 0 → (z26a).toInt + (z26b).toInt = (u_109_109).toInt + (u_109_111).toInt := by have a0 := in_u ro_109_29; have a1 := in_u i4; have a2 := in_u ((inv_F hI 0 200 rfl e_109_111)); have a3 := in_u ((inv_F hI 0 400 rfl e_109_109)); have a4 := in_u i50; have a5 := in_u i59a; have a6 := in_u i33; have a7 := in_u i26a; omega
          have n63f : (s.2.2.1 109 28).toInt = 0 → (s59.2.2.1 109 109).toInt + (s59.2.2.1 109 111).toInt = (s.2.2.1 109 109).toInt + (s.2.2.1 109 111).toInt := by have b0 : z26a = s59.2.2.1 109 109 := fr_F (e26) hF59 rfl; have b1 : z26b = s59.2.2.1 109 111 := fr_F (e26a) hF59 rfl; first | (rw [← b0, ← b1, ← e_109_28, ← e_109_109, ← e_109_111]; exact n63e) | (rw [← b0, ← b1]; exact n63e)
          exact g_ireturn (gd rfl) rfl rfl (hP _ _ ⟨s59, hI59, (fr_tr rfl (fr_tr rfl fr_rf hF26) hF59), n63d, n63f, (Int32.ofInt 2), rfl, rfl, in_w 0 2 (in_c 2 rfl) rfl, n63, n63a, n63b⟩)
      · skip
        exact n_eq c42 i4 (in_c 3 rfl) rfl
  · skip
    refine g_aload_n 8 (gd rfl) rfl rfl ?_
    refine g_getI 11 (gd rfl) rfl rfl rfl (fun z8 e8 => ?_)
    have q8 : u_109_28 = z8 := (e_109_28).trans e8.symm
    subst q8
    refine g_iconst 3 12 (gd rfl) rfl rfl ?_
    refine g_cmp_ne 15 64 (gd rfl) rfl rfl (fun c12 => ?_) (fun c12 => ?_)
    · skip
      refine g_aload_n 65 (gd rfl) rfl rfl ?_
      refine g_getI 68 (gd rfl) rfl rfl rfl (fun z65 e65 => ?_)
      have q65 : u_109_28 = z65 := (e_109_28).trans e65.symm
      subst q65
      refine g_iconst 3 69 (gd rfl) rfl rfl ?_
      refine g_cmp_ne 72 82 (gd rfl) rfl rfl (fun c69 => ?_) (fun c69 => ?_)
      · skip
        refine g_iconst 0 83 (gd rfl) rfl rfl ?_
        refine g_istore_n 84 (gd rfl) rfl (Nat.le_of_ble_eq_true rfl) ?_
        refine g_iload_n 85 (gd rfl) rfl rfl ?_
        refine g_iconst 1 86 (gd rfl) rfl rfl ?_
        refine g_cmp_le 89 104 (gd rfl) rfl rfl (fun c86 => ?_) (fun c86 => ?_)
        · skip
          refine g_iload_n 105 (gd rfl) rfl rfl ?_
          refine g_iconst 1 106 (gd rfl) rfl rfl ?_
          refine g_cmp_ne 109 144 (gd rfl) rfl rfl (fun c106 => ?_) (fun c106 => ?_)
          · skip
            refine g_aload_n 145 (gd rfl) rfl rfl ?_
            refine g_getI 148 (gd rfl) rfl rfl rfl (fun z145 e145 => ?_)
            have q145 : u_109_28 = z145 := (e_109_28).trans e145.symm
            subst q145
            refine g_iconst 3 149 (gd rfl) rfl rfl ?_
            refine g_cmp_ne 152 196 (gd rfl) rfl rfl (fun c149 => ?_) (fun c149 => ?_)
            · skip
              refine g_aload_n 197 (gd rfl) rfl rfl ?_
              refine g_iconst 2 198 (gd rfl) rfl rfl ?_
              refine g_aload_n 199 (gd rfl) rfl rfl ?_
              refine g_getI 202 (gd rfl) rfl rfl rfl (fun z199 e199 => ?_)
              have q199 : u_109_29 = z199 := (e_109_29).trans e199.symm
              subst q199
              refine g_callv (X := _) (As := [.int (Int32.ofInt 2), .int u_109_29]) (r := []) (b := A 109) (q := 109) 205 (gd rfl) rfl rfl rfl rfl rfl (ww_o rfl) (Nat.le_of_ble_eq_true rfl) (Nat.zero_le _) (Nat.zero_le _) (k_298 (by first | exact dq1 hd rfl | exact dq0 hd rfl | exact dq2 hd rfl | exact dq3 hd rfl | omega) hI (in_w 1 5 (in_c 2 rfl) rfl)) (fun e u h => h) (fun v u h => ?_)
              obtain ⟨s202, hI202, hF202, n202, rfl, rfl⟩ := h
              obtain ⟨z202a, e202⟩ : ∃ w, w = s202.2.2.1 109 23 := ⟨_, rfl⟩
              have i202a := inv_F hI202 0 9 rfl e202
              rw [← (show z202a = s202.2.2.1 109 23 from e202)] at n202
              show GG _ _ _ _ _ _ _ _ [] _ _ _
              refine g_iconst 1 206 (gd rfl) rfl rfl ?_
              have n206 : ((Int32.ofInt 1)).toInt = 0 → PR s s202 1 0 := by intro hR; first | (exfalso; revert hR; decide) | exact pr_tr p91 (pr_hold (hF99.1 187 rfl) (hF99.1 188 rfl) (hF99.2.2.1 109 109 rfl) (hF99.2.2.1 109 23 rfl) p99 (by rw [← e99, ← e91a]; exact n99a) (inv_F hI91 0 200 rfl rfl).1 (Or.inr ⟨by first | (have hi := i76x3; unfold In at hi; omega) | (have hi := i76x13; unfold In at hi; omega) | (have hi := i76x19; unfold In at hi; omega) | (have hi := i76x29; unfold In at hi; omega) | (have hi := i76x35; unfold In at hi; omega), rfl⟩)) | exact pr_tr p111 (pr_hold (hF139.1 187 rfl) (hF139.1 188 rfl) (hF139.2.2.1 109 109 rfl) (hF139.2.2.1 109 23 rfl) p139 (by rw [← e139, ← e111a]; exact n139a) (inv_F hI111 0 200 rfl rfl).1 (Or.inr ⟨by first | (have hi := i76x3; unfold In at hi; omega) | (have hi := i76x13; unfold In at hi; omega) | (have hi := i76x19; unfold In at hi; omega) | (have hi := i76x29; unfold In at hi; omega) | (have hi := i76x35; unfold In at hi; omega), rfl⟩)) | exact pr_tr p111 (pr_tr (b := 1) (pr_flt (hF131.1 187 rfl) (hF131.1 188 rfl) (hF131.2.2.1 109 109 rfl) (by rw [← e131]; omega)) (pr_hold (hF139.1 187 rfl) (hF139.1 188 rfl) (hF139.2.2.1 109 109 rfl) (hF139.2.2.1 109 23 rfl) p139 (by rw [← e139, ← (show z111b = s131.2.2.1 109 111 from fr_F e111a hF131 rfl)]; exact n139a) (inv_F hI131 0 200 rfl rfl).1 (Or.inr ⟨by first | (have hi := i76x3; unfold In at hi; omega) | (have hi := i76x13; unfold In at hi; omega) | (have hi := i76x19; unfold In at hi; omega) | (have hi := i76x29; unfold In at hi; omega) | (have hi := i76x35; unfold In at hi; omega), rfl⟩)))
              have n206a : ((Int32.ofInt 1)).toInt ≠ 0 → PR s s202 1 1 := by intro hR; first | (exact absurd rfl hR) | exact p26 | exact pr_tr p26 (pr_flt (hF59.1 187 rfl) (hF59.1 188 rfl) (hF59.2.2.1 109 109 rfl) (by rw [← e59]; omega)) | exact pr_tr p163 (pr_flt (hF181.1 187 rfl) (hF181.1 188 rfl) (hF181.2.2.1 109 109 rfl) (by rw [← e181]; omega)) | exact pr_flt (hF202.1 187 rfl) (hF202.1 188 rfl) (hF202.2.2.1 109 109 rfl) (by rw [← e202]; omega) | exact pr_tr p163 (pr_tr (pr_drop (x := z167x21) (b := z167x20) (hF187.1 187 rfl) (hF187.1 188 rfl) (hF187.2.2.1 109 109 rfl) (hF187.2.2.1 109 23 rfl) (hF187.1 190 rfl) (by rw [← e187]; have a0 := in_u ro_109_29; have a1 := in_u ((inv_F hI 0 200 rfl e_109_111)); have a2 := in_u ((inv_F hI 0 400 rfl e_109_109)); have a3 := in_u h1; have a4 := in_u ((in_c 0 rfl)); have a5 := in_u i202a; omega) (by rw [← e163a]; have a0 := in_u ro_109_29; have a1 := in_u ((inv_F hI 0 200 rfl e_109_111)); have a2 := in_u ((inv_F hI 0 400 rfl e_109_109)); have a3 := in_u h1; have a4 := in_u ((in_c 0 rfl)); have a5 := in_u i202a; omega) i167x20.1 e167x21 (Or.inr (c172.trans rfl))) p191)
              have n206b : (s.2.2.1 109 28).toInt = 0 → ((Int32.ofInt 1)).toInt = 2 := by rw [← e_109_28]; intro h0; first | rfl | (exfalso; have a0 := in_u ro_109_29; have a1 := in_u ((inv_F hI 0 200 rfl e_109_111)); have a2 := in_u ((inv_F hI 0 400 rfl e_109_109)); have a3 := in_u h1; have a4 := in_u ((in_c 0 rfl)); have a5 := in_u i202a; omega)
              have n206c : (u_109_109).toInt + (u_109_111).toInt ≤ (u_109_109).toInt + (u_109_111).toInt + 1 := by have a0 := in_u ro_109_29; have a1 := in_u ((inv_F hI 0 200 rfl e_109_111)); have a2 := in_u ((inv_F hI 0 400 rfl e_109_109)); have a3 := in_u h1; have a4 := in_u ((in_c 0 rfl)); have a5 := in_u i202a; omega
              have n206d : (s202.2.2.1 109 109).toInt + (s202.2.2.1 109 111).toInt ≤ (s.2.2.1 109 109).toInt + (s.2.2.1 109 111).toInt + 1 := by have b0 : u_109_109 = s202.2.2.1 109 109 := fr_F (e_109_109) hF202 rfl; have b1 : u_109_111 = s202.2.2.1 109 111 := fr_F (e_109_111) hF202 rfl; first | (rw [← b0, ← b1, ← e_109_109, ← e_109_111]; exact n206c) | (rw [← b0, ← b1]; exact n206c)
              have n206e : (u_109_28).toInt = 0 → (u_109_109).toInt + (u_109_111).toInt = (u_109_109).toInt + (u_109_111).toInt := by have a0 := in_u ro_109_29; have a1 := in_u ((inv_F hI 0 200 rfl e_109_111)); have a2 := in_u ((inv_F hI 0 400 rfl e_109_109)); have a3 := in_u h1; have a4 := in_u ((in_c 0 rfl)); have a5 := in_u i202a; omega
              have n206f : (s.2.2.1 109 28).toInt = 0 → (s202.2.2.1 109 109).toInt + (s202.2.2.1 109 111).toInt = (s.2.2.1 109 109).toInt + (s.2.2.1 109 111).toInt := by have b0 : u_109_109 = s202.2.2.1 109 109 := fr_F (e_109_109) hF202 rfl; have b1 : u_109_111 = s202.2.2.1 109 111 := fr_F (e_109_111) hF202 rfl; first | (rw [← b0, ← b1, ← e_109_28, ← e_109_109, ← e_109_111]; exact n206e) | (rw [← b0, ← b1]; exact n206e)
              exact g_ireturn (gd rfl) rfl rfl (hP _ _ ⟨s202, hI202, (fr_tr rfl fr_rf hF202), n206d, n206f, (Int32.ofInt 1), rfl, rfl, in_w 0 2 (in_c 1 rfl) rfl, n206, n206a, n206b⟩)
            · skip
              exact absurd c149 c69
          · skip
            exact n_eq c106 (in_c 0 rfl) (in_c 1 rfl) rfl
        · skip
          exact n_lt c86 (in_c 1 rfl) (in_c 0 rfl) rfl
      · skip
        exact absurd c69 c12
    · skip
      have i12 := r_eq1 3 3 c12 (inv_F hI (-2147483648) 2147483647 rfl e_109_28) (in_c 3 rfl) rfl
      refine g_aload_n 16 (gd rfl) rfl rfl ?_
      refine g_getI 19 (gd rfl) rfl rfl rfl (fun z16 e16 => ?_)
      have q16 : u_109_30 = z16 := (e_109_30).trans e16.symm
      subst q16
      refine g_bipush 59 21 (gd rfl) rfl rfl ?_
      refine g_cmp_ne 24 64 (gd rfl) rfl rfl (fun c21 => ?_) (fun c21 => ?_)
      · skip
        refine g_aload_n 65 (gd rfl) rfl rfl ?_
        refine g_getI 68 (gd rfl) rfl rfl rfl (fun z65 e65 => ?_)
        have q65 : u_109_28 = z65 := (e_109_28).trans e65.symm
        subst q65
        refine g_iconst 3 69 (gd rfl) rfl rfl ?_
        refine g_cmp_ne 72 82 (gd rfl) rfl rfl (fun c69 => ?_) (fun c69 => ?_)
        · skip
          exact n_ne c69 i12 (in_c 3 rfl) rfl
        · skip
          refine g_aload_n 73 (gd rfl) rfl rfl ?_
          refine g_getI 76 (gd rfl) rfl rfl rfl (fun z73 e73 => ?_)
          have q73 : u_109_30 = z73 := (e_109_30).trans e73.symm
          subst q73
          refine g_calls (As := [.int u_109_30]) (r := []) 79 (gd rfl) rfl rfl rfl rfl rfl (Nat.le_of_ble_eq_true rfl) (mc := 0) (ms := 0) (Nat.zero_le _) (Nat.zero_le _) (P := fun v u => _) ?_ (fun v u h => h)
          intro po76 xx76 hp76 hx76
          refine g_enter2 (k := 398) (N := 300) (by first | exact dq1 hd rfl | exact dq0 hd rfl | exact dq2 hd rfl | exact dq3 hd rfl | omega) rfl (Nat.le_of_ble_eq_true rfl) ?_
          refine g_iload_n 1 (gd rfl) rfl rfl ?_
          refine g_bipush 42 3 (gd rfl) rfl rfl ?_
          refine g_cmp_ne 6 10 (gd rfl) rfl rfl (fun c76x3 => ?_) (fun c76x3 => ?_)
          · skip
            refine g_iload_n 11 (gd rfl) rfl rfl ?_
            refine g_bipush 43 13 (gd rfl) rfl rfl ?_
            refine g_cmp_eq 16 22 (gd rfl) rfl rfl (fun c76x13 => ?_) (fun c76x13 => ?_)
            · skip
              have i76x13 := r_eq1 43 43 c76x13 (i_rng u_109_30) (in_c 43 rfl) rfl
              refine g_iconst 2 23 (gd rfl) rfl rfl ?_
              refine g_goto 43 (gd rfl) rfl ?_
              refine g_ireturn (gd rfl) rfl rfl (hp76 _ _ ?_)
              show GG _ _ _ _ _ _ _ _ [.int (Int32.ofInt 2)] _ _ _
              refine g_goto 83 (gd rfl) rfl ?_
              refine g_istore_n 84 (gd rfl) rfl (Nat.le_of_ble_eq_true rfl) ?_
              refine g_iload_n 85 (gd rfl) rfl rfl ?_
              refine g_iconst 1 86 (gd rfl) rfl rfl ?_
              refine g_cmp_le 89 104 (gd rfl) rfl rfl (fun c86 => ?_) (fun c86 => ?_)
              · skip
                exact n_le c86 (in_c 2 rfl) (in_c 1 rfl) rfl
              · skip
                refine g_aload_n 90 (gd rfl) rfl rfl ?_
                refine g_iload_n 91 (gd rfl) rfl rfl ?_
                have n91 : (u_109_109).toInt + (u_109_111).toInt ≤ 120 := by have a0 := in_u i76x13; have a1 := in_u ro_109_29; have a2 := in_u i12; have a3 := in_u ((inv_F hI 0 200 rfl e_109_111)); have a4 := in_u ((inv_F hI 0 400 rfl e_109_109)); have a5 := in_u h1; have a6 := in_u ((in_c 2 rfl)); omega
                refine g_callv (X := _) (As := [.int (Int32.ofInt 2)]) (r := []) (b := A 109) (q := 109) 94 (gd rfl) rfl rfl rfl rfl rfl (ww_o rfl) (Nat.le_of_ble_eq_true rfl) (Nat.zero_le _) (Nat.zero_le _) (k_399 (by first | exact dq1 hd rfl | exact dq0 hd rfl | exact dq2 hd rfl | exact dq3 hd rfl | omega) hI (in_w 1 3 (in_c 2 rfl) rfl) e_109_109 e_109_111 n91) (fun e u h => h) (fun v u h => ?_)
                obtain ⟨s91, hI91, hF91, n91a, rfl, rfl, p91⟩ := h
                obtain ⟨z91a, e91⟩ : ∃ w, w = s91.2.2.1 109 109 := ⟨_, rfl⟩
                have i91a := inv_F hI91 0 400 rfl e91
                obtain ⟨z91b, e91a⟩ : ∃ w, w = s91.2.2.1 109 111 := ⟨_, rfl⟩
                have i91b := inv_F hI91 0 200 rfl e91a
                rw [← (show u_109_109 = s.2.2.1 109 109 from e_109_109)] at n91a
                rw [← (show u_109_111 = s.2.2.1 109 111 from e_109_111)] at n91a
                rw [← (show z91a = s91.2.2.1 109 109 from e91)] at n91a
                rw [← (show z91b = s91.2.2.1 109 111 from e91a)] at n91a
                show GG _ _ _ _ _ _ _ _ [] _ _ _
                refine g_aload_n 95 (gd rfl) rfl rfl ?_
                refine g_aload_n 96 (gd rfl) rfl rfl ?_
                refine g_getI 99 (gd rfl) rfl rfl rfl (fun z96 e96 => ?_)
                have q96 : u_109_30 = z96 := (fr_F (e_109_30) hF91 rfl).trans e96.symm
                subst q96
                have n99 : (z91b).toInt ≤ 199 := by have a0 := in_u i76x13; have a1 := in_u ro_109_29; have a2 := in_u i12; have a3 := in_u ((inv_F hI 0 200 rfl e_109_111)); have a4 := in_u ((inv_F hI 0 400 rfl e_109_109)); have a5 := in_u h1; have a6 := in_u ((in_c 2 rfl)); have a7 := in_u i91b; have a8 := in_u i91a; omega
                refine g_callv (X := _) (As := [.int u_109_30]) (r := []) (b := A 109) (q := 109) 102 (gd rfl) rfl rfl rfl rfl rfl (ww_o rfl) (Nat.le_of_ble_eq_true rfl) (Nat.zero_le _) (Nat.zero_le _) (k_396 (by first | exact dq1 hd rfl | exact dq0 hd rfl | exact dq2 hd rfl | exact dq3 hd rfl | omega) hI91 e91a n99) (fun e u h => h) (fun v u h => ?_)
                obtain ⟨s99, hI99, hF99, n99a, rfl, rfl, p99⟩ := h
                obtain ⟨z99a, e99⟩ : ∃ w, w = s99.2.2.1 109 111 := ⟨_, rfl⟩
                have i99a := inv_F hI99 0 200 rfl e99
                rw [← (show z91b = s91.2.2.1 109 111 from e91a)] at n99a
                rw [← (show z99a = s99.2.2.1 109 111 from e99)] at n99a
                show GG _ _ _ _ _ _ _ _ [] _ _ _
                refine g_iconst 0 103 (gd rfl) rfl rfl ?_
                have n103 : ((Int32.ofInt 0)).toInt = 0 → PR s s99 1 0 := by intro hR; first | (exfalso; revert hR; decide) | exact pr_tr p91 (pr_hold (hF99.1 187 rfl) (hF99.1 188 rfl) (hF99.2.2.1 109 109 rfl) (hF99.2.2.1 109 23 rfl) p99 (by rw [← e99, ← e91a]; exact n99a) (inv_F hI91 0 200 rfl rfl).1 (Or.inr ⟨by first | (have hi := i76x3; unfold In at hi; omega) | (have hi := i76x13; unfold In at hi; omega) | (have hi := i76x19; unfold In at hi; omega) | (have hi := i76x29; unfold In at hi; omega) | (have hi := i76x35; unfold In at hi; omega), rfl⟩)) | exact pr_tr p111 (pr_hold (hF139.1 187 rfl) (hF139.1 188 rfl) (hF139.2.2.1 109 109 rfl) (hF139.2.2.1 109 23 rfl) p139 (by rw [← e139, ← e111a]; exact n139a) (inv_F hI111 0 200 rfl rfl).1 (Or.inr ⟨by first | (have hi := i76x3; unfold In at hi; omega) | (have hi := i76x13; unfold In at hi; omega) | (have hi := i76x19; unfold In at hi; omega) | (have hi := i76x29; unfold In at hi; omega) | (have hi := i76x35; unfold In at hi; omega), rfl⟩)) | exact pr_tr p111 (pr_tr (b := 1) (pr_flt (hF131.1 187 rfl) (hF131.1 188 rfl) (hF131.2.2.1 109 109 rfl) (by rw [← e131]; omega)) (pr_hold (hF139.1 187 rfl) (hF139.1 188 rfl) (hF139.2.2.1 109 109 rfl) (hF139.2.2.1 109 23 rfl) p139 (by rw [← e139, ← (show z111b = s131.2.2.1 109 111 from fr_F e111a hF131 rfl)]; exact n139a) (inv_F hI131 0 200 rfl rfl).1 (Or.inr ⟨by first | (have hi := i76x3; unfold In at hi; omega) | (have hi := i76x13; unfold In at hi; omega) | (have hi := i76x19; unfold In at hi; omega) | (have hi := i76x29; unfold In at hi; omega) | (have hi := i76x35; unfold In at hi; omega), rfl⟩)))
                have n103a : ((Int32.ofInt 0)).toInt ≠ 0 → PR s s99 1 1 := by intro hR; first | (exact absurd rfl hR) | exact p26 | exact pr_tr p26 (pr_flt (hF59.1 187 rfl) (hF59.1 188 rfl) (hF59.2.2.1 109 109 rfl) (by rw [← e59]; omega)) | exact pr_tr p163 (pr_flt (hF181.1 187 rfl) (hF181.1 188 rfl) (hF181.2.2.1 109 109 rfl) (by rw [← e181]; omega)) | exact pr_flt (hF202.1 187 rfl) (hF202.1 188 rfl) (hF202.2.2.1 109 109 rfl) (by rw [← e202]; omega) | exact pr_tr p163 (pr_tr (pr_drop (x := z167x21) (b := z167x20) (hF187.1 187 rfl) (hF187.1 188 rfl) (hF187.2.2.1 109 109 rfl) (hF187.2.2.1 109 23 rfl) (hF187.1 190 rfl) (by rw [← e187]; have a0 := in_u i76x13; have a1 := in_u ro_109_29; have a2 := in_u i12; have a3 := in_u ((inv_F hI 0 200 rfl e_109_111)); have a4 := in_u ((inv_F hI 0 400 rfl e_109_109)); have a5 := in_u h1; have a6 := in_u ((in_c 2 rfl)); have a7 := in_u i99a; have a8 := in_u i91a; omega) (by rw [← e163a]; have a0 := in_u i76x13; have a1 := in_u ro_109_29; have a2 := in_u i12; have a3 := in_u ((inv_F hI 0 200 rfl e_109_111)); have a4 := in_u ((inv_F hI 0 400 rfl e_109_109)); have a5 := in_u h1; have a6 := in_u ((in_c 2 rfl)); have a7 := in_u i99a; have a8 := in_u i91a; omega) i167x20.1 e167x21 (Or.inr (c172.trans rfl))) p191)
                have n103b : (s.2.2.1 109 28).toInt = 0 → ((Int32.ofInt 0)).toInt = 2 := by rw [← e_109_28]; intro h0; first | rfl | (exfalso; have a0 := in_u i76x13; have a1 := in_u ro_109_29; have a2 := in_u i12; have a3 := in_u ((inv_F hI 0 200 rfl e_109_111)); have a4 := in_u ((inv_F hI 0 400 rfl e_109_109)); have a5 := in_u h1; have a6 := in_u ((in_c 2 rfl)); have a7 := in_u i99a; have a8 := in_u i91a; omega)
                have n103c : (z91a).toInt + (z99a).toInt ≤ (u_109_109).toInt + (u_109_111).toInt + 1 := by have a0 := in_u i76x13; have a1 := in_u ro_109_29; have a2 := in_u i12; have a3 := in_u ((inv_F hI 0 200 rfl e_109_111)); have a4 := in_u ((inv_F hI 0 400 rfl e_109_109)); have a5 := in_u h1; have a6 := in_u ((in_c 2 rfl)); have a7 := in_u i99a; have a8 := in_u i91a; omega
                have n103d : (s99.2.2.1 109 109).toInt + (s99.2.2.1 109 111).toInt ≤ (s.2.2.1 109 109).toInt + (s.2.2.1 109 111).toInt + 1 := by have b0 : z91a = s99.2.2.1 109 109 := fr_F (e91) hF99 rfl; have b1 : z99a = s99.2.2.1 109 111 := e99; first | (rw [← b0, ← b1, ← e_109_109, ← e_109_111]; exact n103c) | (rw [← b0, ← b1]; exact n103c)
                have n103e : (u_109_28).toInt = 0 → (z91a).toInt + (z99a).toInt = (u_109_109).toInt + (u_109_111).toInt := by have a0 := in_u i76x13; have a1 := in_u ro_109_29; have a2 := in_u i12; have a3 := in_u ((inv_F hI 0 200 rfl e_109_111)); have a4 := in_u ((inv_F hI 0 400 rfl e_109_109)); have a5 := in_u h1; have a6 := in_u ((in_c 2 rfl)); have a7 := in_u i99a; have a8 := in_u i91a; omega
                have n103f : (s.2.2.1 109 28).toInt = 0 → (s99.2.2.1 109 109).toInt + (s99.2.2.1 109 111).toInt = (s.2.2.1 109 109).toInt + (s.2.2.1 109 111).toInt := by have b0 : z91a = s99.2.2.1 109 109 := fr_F (e91) hF99 rfl; have b1 : z99a = s99.2.2.1 109 111 := e99; first | (rw [← b0, ← b1, ← e_109_28, ← e_109_109, ← e_109_111]; exact n103e) | (rw [← b0, ← b1]; exact n103e)
                exact g_ireturn (gd rfl) rfl rfl (hP _ _ ⟨s99, hI99, (fr_tr rfl (fr_tr rfl fr_rf hF91) hF99), n103d, n103f, (Int32.ofInt 0), rfl, rfl, in_w 0 2 (in_c 0 rfl) rfl, n103, n103a, n103b⟩)
            · skip
              refine g_iload_n 17 (gd rfl) rfl rfl ?_
              refine g_bipush 45 19 (gd rfl) rfl rfl ?_
              refine g_cmp_ne 22 26 (gd rfl) rfl rfl (fun c76x19 => ?_) (fun c76x19 => ?_)
              · skip
                refine g_iload_n 27 (gd rfl) rfl rfl ?_
                refine g_bipush 60 29 (gd rfl) rfl rfl ?_
                refine g_cmp_eq 32 38 (gd rfl) rfl rfl (fun c76x29 => ?_) (fun c76x29 => ?_)
                · skip
                  have i76x29 := r_eq1 60 60 c76x29 (i_rng u_109_30) (in_c 60 rfl) rfl
                  refine g_iconst 1 39 (gd rfl) rfl rfl ?_
                  refine g_goto 43 (gd rfl) rfl ?_
                  refine g_ireturn (gd rfl) rfl rfl (hp76 _ _ ?_)
                  show GG _ _ _ _ _ _ _ _ [.int (Int32.ofInt 1)] _ _ _
                  refine g_goto 83 (gd rfl) rfl ?_
                  refine g_istore_n 84 (gd rfl) rfl (Nat.le_of_ble_eq_true rfl) ?_
                  refine g_iload_n 85 (gd rfl) rfl rfl ?_
                  refine g_iconst 1 86 (gd rfl) rfl rfl ?_
                  refine g_cmp_le 89 104 (gd rfl) rfl rfl (fun c86 => ?_) (fun c86 => ?_)
                  · skip
                    refine g_iload_n 105 (gd rfl) rfl rfl ?_
                    refine g_iconst 1 106 (gd rfl) rfl rfl ?_
                    refine g_cmp_ne 109 144 (gd rfl) rfl rfl (fun c106 => ?_) (fun c106 => ?_)
                    · skip
                      exact n_ne c106 (in_c 1 rfl) (in_c 1 rfl) rfl
                    · skip
                      refine g_aload_n 110 (gd rfl) rfl rfl ?_
                      refine g_iconst 2 111 (gd rfl) rfl rfl ?_
                      have n111 : (u_109_109).toInt + (u_109_111).toInt ≤ 120 := by have a0 := in_u i76x29; have a1 := in_u ro_109_29; have a2 := in_u i12; have a3 := in_u ((inv_F hI 0 200 rfl e_109_111)); have a4 := in_u ((inv_F hI 0 400 rfl e_109_109)); have a5 := in_u h1; have a6 := in_u ((in_c 1 rfl)); omega
                      refine g_callv (X := _) (As := [.int (Int32.ofInt 2)]) (r := []) (b := A 109) (q := 109) 114 (gd rfl) rfl rfl rfl rfl rfl (ww_o rfl) (Nat.le_of_ble_eq_true rfl) (Nat.zero_le _) (Nat.zero_le _) (k_399 (by first | exact dq1 hd rfl | exact dq0 hd rfl | exact dq2 hd rfl | exact dq3 hd rfl | omega) hI (in_w 1 3 (in_c 2 rfl) rfl) e_109_109 e_109_111 n111) (fun e u h => h) (fun v u h => ?_)
                      obtain ⟨s111, hI111, hF111, n111a, rfl, rfl, p111⟩ := h
                      obtain ⟨z111a, e111⟩ : ∃ w, w = s111.2.2.1 109 109 := ⟨_, rfl⟩
                      have i111a := inv_F hI111 0 400 rfl e111
                      obtain ⟨z111b, e111a⟩ : ∃ w, w = s111.2.2.1 109 111 := ⟨_, rfl⟩
                      have i111b := inv_F hI111 0 200 rfl e111a
                      rw [← (show u_109_109 = s.2.2.1 109 109 from e_109_109)] at n111a
                      rw [← (show u_109_111 = s.2.2.1 109 111 from e_109_111)] at n111a
                      rw [← (show z111a = s111.2.2.1 109 109 from e111)] at n111a
                      rw [← (show z111b = s111.2.2.1 109 111 from e111a)] at n111a
                      show GG _ _ _ _ _ _ _ _ [] _ _ _
                      refine g_aload_n 115 (gd rfl) rfl rfl ?_
                      refine g_callv (X := _) (As := []) (r := []) (b := A 109) (q := 109) 118 (gd rfl) rfl rfl rfl rfl rfl (ww_o rfl) (Nat.le_of_ble_eq_true rfl) (mc := 0) (ms := 0) (Nat.zero_le _) (Nat.zero_le _) (P := fun v u => _) ?_ (fun e u h => h) (fun v u h => h)
                      intro po115 xx115 hp115 hx115
                      refine g_enter2 (k := 395) (N := 300) (by first | exact dq1 hd rfl | exact dq0 hd rfl | exact dq2 hd rfl | exact dq3 hd rfl | omega) rfl (Nat.le_of_ble_eq_true rfl) ?_
                      refine g_aload_n 1 (gd rfl) rfl rfl ?_
                      refine g_getI 4 (gd rfl) rfl rfl rfl (fun z115x1 e115x1 => ?_)
                      have q115x1 : z111b = z115x1 := (e111a).trans e115x1.symm
                      subst q115x1
                      refine g_if_ne 7 11 (gd rfl) rfl rfl (fun c115x4 => ?_) (fun c115x4 => ?_)
                      · skip
                        have i115x4 := z_ne 1 200 c115x4 i111b rfl
                        refine g_aload_n 12 (gd rfl) rfl rfl ?_
                        refine g_getA (q2 := 190) 15 (gd rfl) rfl rfl rfl rfl ?_
                        refine g_aload_n 16 (gd rfl) rfl rfl ?_
                        refine g_getI 19 (gd rfl) rfl rfl rfl (fun z115x16 e115x16 => ?_)
                        have q115x16 : z111b = z115x16 := (e111a).trans e115x16.symm
                        subst q115x16
                        refine g_iconst 1 20 (gd rfl) rfl rfl ?_
                        refine g_isub 21 (gd rfl) rfl (fun z115x20 e115x20 => ?_)
                        have i115x20 := in_sub 0 199 e115x20 i115x4 (in_c 1 rfl) rfl rfl
                        refine g_iaload 22 (gd rfl) rfl (n := 200) rfl (in_ix i115x20 rfl) (fun z115x21 e115x21 => ?_)
                        refine g_ireturn (gd rfl) rfl rfl (hp115 _ _ ?_)
                        show GG _ _ _ _ _ _ _ _ [.int z115x21] _ _ _
                        refine g_calls (As := [.int z115x21]) (r := []) 121 (gd rfl) rfl rfl rfl rfl rfl (Nat.le_of_ble_eq_true rfl) (mc := 0) (ms := 0) (Nat.zero_le _) (Nat.zero_le _) (P := fun v u => _) ?_ (fun v u h => h)
                        intro po118 xx118 hp118 hx118
                        refine g_enter2 (k := 398) (N := 300) (by first | exact dq1 hd rfl | exact dq0 hd rfl | exact dq2 hd rfl | exact dq3 hd rfl | omega) rfl (Nat.le_of_ble_eq_true rfl) ?_
                        refine g_iload_n 1 (gd rfl) rfl rfl ?_
                        refine g_bipush 42 3 (gd rfl) rfl rfl ?_
                        refine g_cmp_ne 6 10 (gd rfl) rfl rfl (fun c118x3 => ?_) (fun c118x3 => ?_)
                        · skip
                          refine g_iload_n 11 (gd rfl) rfl rfl ?_
                          refine g_bipush 43 13 (gd rfl) rfl rfl ?_
                          refine g_cmp_eq 16 22 (gd rfl) rfl rfl (fun c118x13 => ?_) (fun c118x13 => ?_)
                          · skip
                            have i118x13 := r_eq1 43 43 c118x13 (i_rng z115x21) (in_c 43 rfl) rfl
                            refine g_iconst 2 23 (gd rfl) rfl rfl ?_
                            refine g_goto 43 (gd rfl) rfl ?_
                            refine g_ireturn (gd rfl) rfl rfl (hp118 _ _ ?_)
                            show GG _ _ _ _ _ _ _ _ [.int (Int32.ofInt 2)] _ _ _
                            refine g_iconst 1 122 (gd rfl) rfl rfl ?_
                            refine g_cmp_ne 125 134 (gd rfl) rfl rfl (fun c122 => ?_) (fun c122 => ?_)
                            · skip
                              refine g_aload_n 135 (gd rfl) rfl rfl ?_
                              refine g_aload_n 136 (gd rfl) rfl rfl ?_
                              refine g_getI 139 (gd rfl) rfl rfl rfl (fun z136 e136 => ?_)
                              have q136 : u_109_30 = z136 := (fr_F (e_109_30) hF111 rfl).trans e136.symm
                              subst q136
                              have n139 : (z111b).toInt ≤ 199 := by have a0 := in_u i76x29; have a1 := in_u ro_109_29; have a2 := in_u i12; have a3 := in_u ((inv_F hI 0 200 rfl e_109_111)); have a4 := in_u ((inv_F hI 0 400 rfl e_109_109)); have a5 := in_u h1; have a6 := in_u ((in_c 1 rfl)); have a7 := in_u i115x4; have a8 := in_u i111a; have a9 := in_u i115x20; have a10 := t_sub e115x20 i115x4 (in_c 1 rfl) rfl; omega
                              refine g_callv (X := _) (As := [.int u_109_30]) (r := []) (b := A 109) (q := 109) 142 (gd rfl) rfl rfl rfl rfl rfl (ww_o rfl) (Nat.le_of_ble_eq_true rfl) (Nat.zero_le _) (Nat.zero_le _) (k_396 (by first | exact dq1 hd rfl | exact dq0 hd rfl | exact dq2 hd rfl | exact dq3 hd rfl | omega) hI111 e111a n139) (fun e u h => h) (fun v u h => ?_)
                              obtain ⟨s139, hI139, hF139, n139a, rfl, rfl, p139⟩ := h
                              obtain ⟨z139a, e139⟩ : ∃ w, w = s139.2.2.1 109 111 := ⟨_, rfl⟩
                              have i139a := inv_F hI139 0 200 rfl e139
                              rw [← (show z111b = s111.2.2.1 109 111 from e111a)] at n139a
                              rw [← (show z139a = s139.2.2.1 109 111 from e139)] at n139a
                              show GG _ _ _ _ _ _ _ _ [] _ _ _
                              refine g_iconst 0 143 (gd rfl) rfl rfl ?_
                              have n143 : ((Int32.ofInt 0)).toInt = 0 → PR s s139 1 0 := by intro hR; first | (exfalso; revert hR; decide) | exact pr_tr p91 (pr_hold (hF99.1 187 rfl) (hF99.1 188 rfl) (hF99.2.2.1 109 109 rfl) (hF99.2.2.1 109 23 rfl) p99 (by rw [← e99, ← e91a]; exact n99a) (inv_F hI91 0 200 rfl rfl).1 (Or.inr ⟨by first | (have hi := i76x3; unfold In at hi; omega) | (have hi := i76x13; unfold In at hi; omega) | (have hi := i76x19; unfold In at hi; omega) | (have hi := i76x29; unfold In at hi; omega) | (have hi := i76x35; unfold In at hi; omega), rfl⟩)) | exact pr_tr p111 (pr_hold (hF139.1 187 rfl) (hF139.1 188 rfl) (hF139.2.2.1 109 109 rfl) (hF139.2.2.1 109 23 rfl) p139 (by rw [← e139, ← e111a]; exact n139a) (inv_F hI111 0 200 rfl rfl).1 (Or.inr ⟨by first | (have hi := i76x3; unfold In at hi; omega) | (have hi := i76x13; unfold In at hi; omega) | (have hi := i76x19; unfold In at hi; omega) | (have hi := i76x29; unfold In at hi; omega) | (have hi := i76x35; unfold In at hi; omega), rfl⟩)) | exact pr_tr p111 (pr_tr (b := 1) (pr_flt (hF131.1 187 rfl) (hF131.1 188 rfl) (hF131.2.2.1 109 109 rfl) (by rw [← e131]; omega)) (pr_hold (hF139.1 187 rfl) (hF139.1 188 rfl) (hF139.2.2.1 109 109 rfl) (hF139.2.2.1 109 23 rfl) p139 (by rw [← e139, ← (show z111b = s131.2.2.1 109 111 from fr_F e111a hF131 rfl)]; exact n139a) (inv_F hI131 0 200 rfl rfl).1 (Or.inr ⟨by first | (have hi := i76x3; unfold In at hi; omega) | (have hi := i76x13; unfold In at hi; omega) | (have hi := i76x19; unfold In at hi; omega) | (have hi := i76x29; unfold In at hi; omega) | (have hi := i76x35; unfold In at hi; omega), rfl⟩)))
                              have n143a : ((Int32.ofInt 0)).toInt ≠ 0 → PR s s139 1 1 := by intro hR; first | (exact absurd rfl hR) | exact p26 | exact pr_tr p26 (pr_flt (hF59.1 187 rfl) (hF59.1 188 rfl) (hF59.2.2.1 109 109 rfl) (by rw [← e59]; omega)) | exact pr_tr p163 (pr_flt (hF181.1 187 rfl) (hF181.1 188 rfl) (hF181.2.2.1 109 109 rfl) (by rw [← e181]; omega)) | exact pr_flt (hF202.1 187 rfl) (hF202.1 188 rfl) (hF202.2.2.1 109 109 rfl) (by rw [← e202]; omega) | exact pr_tr p163 (pr_tr (pr_drop (x := z167x21) (b := z167x20) (hF187.1 187 rfl) (hF187.1 188 rfl) (hF187.2.2.1 109 109 rfl) (hF187.2.2.1 109 23 rfl) (hF187.1 190 rfl) (by rw [← e187]; have a0 := in_u i76x29; have a1 := in_u ro_109_29; have a2 := in_u i12; have a3 := in_u ((inv_F hI 0 200 rfl e_109_111)); have a4 := in_u ((inv_F hI 0 400 rfl e_109_109)); have a5 := in_u h1; have a6 := in_u ((in_c 1 rfl)); have a7 := in_u i139a; have a8 := in_u i111a; have a9 := in_u i115x20; have a10 := t_sub e115x20 i115x4 (in_c 1 rfl) rfl; have a11 := in_u i115x4; omega) (by rw [← e163a]; have a0 := in_u i76x29; have a1 := in_u ro_109_29; have a2 := in_u i12; have a3 := in_u ((inv_F hI 0 200 rfl e_109_111)); have a4 := in_u ((inv_F hI 0 400 rfl e_109_109)); have a5 := in_u h1; have a6 := in_u ((in_c 1 rfl)); have a7 := in_u i139a; have a8 := in_u i111a; have a9 := in_u i115x20; have a10 := t_sub e115x20 i115x4 (in_c 1 rfl) rfl; have a11 := in_u i115x4; omega) i167x20.1 e167x21 (Or.inr (c172.trans rfl))) p191)
                              have n143b : (s.2.2.1 109 28).toInt = 0 → ((Int32.ofInt 0)).toInt = 2 := by rw [← e_109_28]; intro h0; first | rfl | (exfalso; have a0 := in_u i76x29; have a1 := in_u ro_109_29; have a2 := in_u i12; have a3 := in_u ((inv_F hI 0 200 rfl e_109_111)); have a4 := in_u ((inv_F hI 0 400 rfl e_109_109)); have a5 := in_u h1; have a6 := in_u ((in_c 1 rfl)); have a7 := in_u i139a; have a8 := in_u i111a; have a9 := in_u i115x20; have a10 := t_sub e115x20 i115x4 (in_c 1 rfl) rfl; have a11 := in_u i115x4; omega)
                              have n143c : (z111a).toInt + (z139a).toInt ≤ (u_109_109).toInt + (u_109_111).toInt + 1 := by have a0 := in_u i76x29; have a1 := in_u ro_109_29; have a2 := in_u i12; have a3 := in_u ((inv_F hI 0 200 rfl e_109_111)); have a4 := in_u ((inv_F hI 0 400 rfl e_109_109)); have a5 := in_u h1; have a6 := in_u ((in_c 1 rfl)); have a7 := in_u i139a; have a8 := in_u i111a; have a9 := in_u i115x20; have a10 := t_sub e115x20 i115x4 (in_c 1 rfl) rfl; have a11 := in_u i115x4; omega
                              have n143d : (s139.2.2.1 109 109).toInt + (s139.2.2.1 109 111).toInt ≤ (s.2.2.1 109 109).toInt + (s.2.2.1 109 111).toInt + 1 := by have b0 : z111a = s139.2.2.1 109 109 := fr_F (e111) hF139 rfl; have b1 : z139a = s139.2.2.1 109 111 := e139; first | (rw [← b0, ← b1, ← e_109_109, ← e_109_111]; exact n143c) | (rw [← b0, ← b1]; exact n143c)
                              have n143e : (u_109_28).toInt = 0 → (z111a).toInt + (z139a).toInt = (u_109_109).toInt + (u_109_111).toInt := by have a0 := in_u i76x29; have a1 := in_u ro_109_29; have a2 := in_u i12; have a3 := in_u ((inv_F hI 0 200 rfl e_109_111)); have a4 := in_u ((inv_F hI 0 400 rfl e_109_109)); have a5 := in_u h1; have a6 := in_u ((in_c 1 rfl)); have a7 := in_u i139a; have a8 := in_u i111a; have a9 := in_u i115x20; have a10 := t_sub e115x20 i115x4 (in_c 1 rfl) rfl; have a11 := in_u i115x4; omega
                              have n143f : (s.2.2.1 109 28).toInt = 0 → (s139.2.2.1 109 109).toInt + (s139.2.2.1 109 111).toInt = (s.2.2.1 109 109).toInt + (s.2.2.1 109 111).toInt := by have b0 : z111a = s139.2.2.1 109 109 := fr_F (e111) hF139 rfl; have b1 : z139a = s139.2.2.1 109 111 := e139; first | (rw [← b0, ← b1, ← e_109_28, ← e_109_109, ← e_109_111]; exact n143e) | (rw [← b0, ← b1]; exact n143e)
                              exact g_ireturn (gd rfl) rfl rfl (hP _ _ ⟨s139, hI139, (fr_tr rfl (fr_tr rfl fr_rf hF111) hF139), n143d, n143f, (Int32.ofInt 0), rfl, rfl, in_w 0 2 (in_c 0 rfl) rfl, n143, n143a, n143b⟩)
                            · skip
                              exact n_eq c122 (in_c 2 rfl) (in_c 1 rfl) rfl
                          · skip
                            refine g_iload_n 17 (gd rfl) rfl rfl ?_
                            refine g_bipush 45 19 (gd rfl) rfl rfl ?_
                            refine g_cmp_ne 22 26 (gd rfl) rfl rfl (fun c118x19 => ?_) (fun c118x19 => ?_)
                            · skip
                              refine g_iload_n 27 (gd rfl) rfl rfl ?_
                              refine g_bipush 60 29 (gd rfl) rfl rfl ?_
                              refine g_cmp_eq 32 38 (gd rfl) rfl rfl (fun c118x29 => ?_) (fun c118x29 => ?_)
                              · skip
                                have i118x29 := r_eq1 60 60 c118x29 (i_rng z115x21) (in_c 60 rfl) rfl
                                refine g_iconst 1 39 (gd rfl) rfl rfl ?_
                                refine g_goto 43 (gd rfl) rfl ?_
                                refine g_ireturn (gd rfl) rfl rfl (hp118 _ _ ?_)
                                show GG _ _ _ _ _ _ _ _ [.int (Int32.ofInt 1)] _ _ _
                                refine g_iconst 1 122 (gd rfl) rfl rfl ?_
                                refine g_cmp_ne 125 134 (gd rfl) rfl rfl (fun c122 => ?_) (fun c122 => ?_)
                                · skip
                                  exact n_ne c122 (in_c 1 rfl) (in_c 1 rfl) rfl
                                · skip
                                  refine g_aload_n 126 (gd rfl) rfl rfl ?_
                                  refine g_iconst 2 127 (gd rfl) rfl rfl ?_
                                  refine g_aload_n 128 (gd rfl) rfl rfl ?_
                                  refine g_getI 131 (gd rfl) rfl rfl rfl (fun z128 e128 => ?_)
                                  have q128 : u_109_29 = z128 := (fr_F (e_109_29) hF111 rfl).trans e128.symm
                                  subst q128
                                  refine g_callv (X := _) (As := [.int (Int32.ofInt 2), .int u_109_29]) (r := []) (b := A 109) (q := 109) 134 (gd rfl) rfl rfl rfl rfl rfl (ww_o rfl) (Nat.le_of_ble_eq_true rfl) (Nat.zero_le _) (Nat.zero_le _) (k_298 (by first | exact dq1 hd rfl | exact dq0 hd rfl | exact dq2 hd rfl | exact dq3 hd rfl | omega) hI111 (in_w 1 5 (in_c 2 rfl) rfl)) (fun e u h => h) (fun v u h => ?_)
                                  obtain ⟨s131, hI131, hF131, n131, rfl, rfl⟩ := h
                                  obtain ⟨z131a, e131⟩ : ∃ w, w = s131.2.2.1 109 23 := ⟨_, rfl⟩
                                  have i131a := inv_F hI131 0 9 rfl e131
                                  rw [← (show z131a = s131.2.2.1 109 23 from e131)] at n131
                                  show GG _ _ _ _ _ _ _ _ [] _ _ _
                                  refine g_aload_n 135 (gd rfl) rfl rfl ?_
                                  refine g_aload_n 136 (gd rfl) rfl rfl ?_
                                  refine g_getI 139 (gd rfl) rfl rfl rfl (fun z136 e136 => ?_)
                                  have q136 : u_109_30 = z136 := (fr_F (fr_F (e_109_30) hF111 rfl) hF131 rfl).trans e136.symm
                                  subst q136
                                  have v139 : z111b = s131.2.2.1 109 111 := fr_F (e111a) hF131 rfl
                                  have n139 : (z111b).toInt ≤ 199 := by have a0 := in_u i76x29; have a1 := in_u ro_109_29; have a2 := in_u i12; have a3 := in_u ((inv_F hI 0 200 rfl e_109_111)); have a4 := in_u ((inv_F hI 0 400 rfl e_109_109)); have a5 := in_u h1; have a6 := in_u ((in_c 1 rfl)); have a7 := in_u i131a; have a8 := in_u i115x4; have a9 := in_u i111a; have a10 := in_u i115x20; have a11 := t_sub e115x20 i115x4 (in_c 1 rfl) rfl; omega
                                  refine g_callv (X := _) (As := [.int u_109_30]) (r := []) (b := A 109) (q := 109) 142 (gd rfl) rfl rfl rfl rfl rfl (ww_o rfl) (Nat.le_of_ble_eq_true rfl) (Nat.zero_le _) (Nat.zero_le _) (k_396 (by first | exact dq1 hd rfl | exact dq0 hd rfl | exact dq2 hd rfl | exact dq3 hd rfl | omega) hI131 v139 n139) (fun e u h => h) (fun v u h => ?_)
                                  obtain ⟨s139, hI139, hF139, n139a, rfl, rfl, p139⟩ := h
                                  obtain ⟨z139a, e139⟩ : ∃ w, w = s139.2.2.1 109 111 := ⟨_, rfl⟩
                                  have i139a := inv_F hI139 0 200 rfl e139
                                  rw [← (show z111b = s131.2.2.1 109 111 from fr_F (e111a) hF131 rfl)] at n139a
                                  rw [← (show z139a = s139.2.2.1 109 111 from e139)] at n139a
                                  show GG _ _ _ _ _ _ _ _ [] _ _ _
                                  refine g_iconst 0 143 (gd rfl) rfl rfl ?_
                                  have n143 : ((Int32.ofInt 0)).toInt = 0 → PR s s139 1 0 := by intro hR; first | (exfalso; revert hR; decide) | exact pr_tr p91 (pr_hold (hF99.1 187 rfl) (hF99.1 188 rfl) (hF99.2.2.1 109 109 rfl) (hF99.2.2.1 109 23 rfl) p99 (by rw [← e99, ← e91a]; exact n99a) (inv_F hI91 0 200 rfl rfl).1 (Or.inr ⟨by first | (have hi := i76x3; unfold In at hi; omega) | (have hi := i76x13; unfold In at hi; omega) | (have hi := i76x19; unfold In at hi; omega) | (have hi := i76x29; unfold In at hi; omega) | (have hi := i76x35; unfold In at hi; omega), rfl⟩)) | exact pr_tr p111 (pr_hold (hF139.1 187 rfl) (hF139.1 188 rfl) (hF139.2.2.1 109 109 rfl) (hF139.2.2.1 109 23 rfl) p139 (by rw [← e139, ← e111a]; exact n139a) (inv_F hI111 0 200 rfl rfl).1 (Or.inr ⟨by first | (have hi := i76x3; unfold In at hi; omega) | (have hi := i76x13; unfold In at hi; omega) | (have hi := i76x19; unfold In at hi; omega) | (have hi := i76x29; unfold In at hi; omega) | (have hi := i76x35; unfold In at hi; omega), rfl⟩)) | exact pr_tr p111 (pr_tr (b := 1) (pr_flt (hF131.1 187 rfl) (hF131.1 188 rfl) (hF131.2.2.1 109 109 rfl) (by rw [← e131]; omega)) (pr_hold (hF139.1 187 rfl) (hF139.1 188 rfl) (hF139.2.2.1 109 109 rfl) (hF139.2.2.1 109 23 rfl) p139 (by rw [← e139, ← (show z111b = s131.2.2.1 109 111 from fr_F e111a hF131 rfl)]; exact n139a) (inv_F hI131 0 200 rfl rfl).1 (Or.inr ⟨by first | (have hi := i76x3; unfold In at hi; omega) | (have hi := i76x13; unfold In at hi; omega) | (have hi := i76x19; unfold In at hi; omega) | (have hi := i76x29; unfold In at hi; omega) | (have hi := i76x35; unfold In at hi; omega), rfl⟩)))
                                  have n143a : ((Int32.ofInt 0)).toInt ≠ 0 → PR s s139 1 1 := by intro hR; first | (exact absurd rfl hR) | exact p26 | exact pr_tr p26 (pr_flt (hF59.1 187 rfl) (hF59.1 188 rfl) (hF59.2.2.1 109 109 rfl) (by rw [← e59]; omega)) | exact pr_tr p163 (pr_flt (hF181.1 187 rfl) (hF181.1 188 rfl) (hF181.2.2.1 109 109 rfl) (by rw [← e181]; omega)) | exact pr_flt (hF202.1 187 rfl) (hF202.1 188 rfl) (hF202.2.2.1 109 109 rfl) (by rw [← e202]; omega) | exact pr_tr p163 (pr_tr (pr_drop (x := z167x21) (b := z167x20) (hF187.1 187 rfl) (hF187.1 188 rfl) (hF187.2.2.1 109 109 rfl) (hF187.2.2.1 109 23 rfl) (hF187.1 190 rfl) (by rw [← e187]; have a0 := in_u i76x29; have a1 := in_u ro_109_29; have a2 := in_u i12; have a3 := in_u ((inv_F hI 0 200 rfl e_109_111)); have a4 := in_u ((inv_F hI 0 400 rfl e_109_109)); have a5 := in_u h1; have a6 := in_u ((in_c 1 rfl)); have a7 := in_u i139a; have a8 := in_u i131a; have a9 := in_u i111a; have a10 := in_u i115x20; have a11 := t_sub e115x20 i115x4 (in_c 1 rfl) rfl; have a12 := in_u i115x4; omega) (by rw [← e163a]; have a0 := in_u i76x29; have a1 := in_u ro_109_29; have a2 := in_u i12; have a3 := in_u ((inv_F hI 0 200 rfl e_109_111)); have a4 := in_u ((inv_F hI 0 400 rfl e_109_109)); have a5 := in_u h1; have a6 := in_u ((in_c 1 rfl)); have a7 := in_u i139a; have a8 := in_u i131a; have a9 := in_u i111a; have a10 := in_u i115x20; have a11 := t_sub e115x20 i115x4 (in_c 1 rfl) rfl; have a12 := in_u i115x4; omega) i167x20.1 e167x21 (Or.inr (c172.trans rfl))) p191)
                                  have n143b : (s.2.2.1 109 28).toInt = 0 → ((Int32.ofInt 0)).toInt = 2 := by rw [← e_109_28]; intro h0; first | rfl | (exfalso; have a0 := in_u i76x29; have a1 := in_u ro_109_29; have a2 := in_u i12; have a3 := in_u ((inv_F hI 0 200 rfl e_109_111)); have a4 := in_u ((inv_F hI 0 400 rfl e_109_109)); have a5 := in_u h1; have a6 := in_u ((in_c 1 rfl)); have a7 := in_u i139a; have a8 := in_u i131a; have a9 := in_u i111a; have a10 := in_u i115x20; have a11 := t_sub e115x20 i115x4 (in_c 1 rfl) rfl; have a12 := in_u i115x4; omega)
                                  have n143c : (z111a).toInt + (z139a).toInt ≤ (u_109_109).toInt + (u_109_111).toInt + 1 := by have a0 := in_u i76x29; have a1 := in_u ro_109_29; have a2 := in_u i12; have a3 := in_u ((inv_F hI 0 200 rfl e_109_111)); have a4 := in_u ((inv_F hI 0 400 rfl e_109_109)); have a5 := in_u h1; have a6 := in_u ((in_c 1 rfl)); have a7 := in_u i139a; have a8 := in_u i131a; have a9 := in_u i111a; have a10 := in_u i115x20; have a11 := t_sub e115x20 i115x4 (in_c 1 rfl) rfl; have a12 := in_u i115x4; omega
                                  have n143d : (s139.2.2.1 109 109).toInt + (s139.2.2.1 109 111).toInt ≤ (s.2.2.1 109 109).toInt + (s.2.2.1 109 111).toInt + 1 := by have b0 : z111a = s139.2.2.1 109 109 := fr_F (fr_F (e111) hF131 rfl) hF139 rfl; have b1 : z139a = s139.2.2.1 109 111 := e139; first | (rw [← b0, ← b1, ← e_109_109, ← e_109_111]; exact n143c) | (rw [← b0, ← b1]; exact n143c)
                                  have n143e : (u_109_28).toInt = 0 → (z111a).toInt + (z139a).toInt = (u_109_109).toInt + (u_109_111).toInt := by have a0 := in_u i76x29; have a1 := in_u ro_109_29; have a2 := in_u i12; have a3 := in_u ((inv_F hI 0 200 rfl e_109_111)); have a4 := in_u ((inv_F hI 0 400 rfl e_109_109)); have a5 := in_u h1; have a6 := in_u ((in_c 1 rfl)); have a7 := in_u i139a; have a8 := in_u i131a; have a9 := in_u i111a; have a10 := in_u i115x20; have a11 := t_sub e115x20 i115x4 (in_c 1 rfl) rfl; have a12 := in_u i115x4; omega
                                  have n143f : (s.2.2.1 109 28).toInt = 0 → (s139.2.2.1 109 109).toInt + (s139.2.2.1 109 111).toInt = (s.2.2.1 109 109).toInt + (s.2.2.1 109 111).toInt := by have b0 : z111a = s139.2.2.1 109 109 := fr_F (fr_F (e111) hF131 rfl) hF139 rfl; have b1 : z139a = s139.2.2.1 109 111 := e139; first | (rw [← b0, ← b1, ← e_109_28, ← e_109_109, ← e_109_111]; exact n143e) | (rw [← b0, ← b1]; exact n143e)
                                  exact g_ireturn (gd rfl) rfl rfl (hP _ _ ⟨s139, hI139, (fr_tr rfl (fr_tr rfl (fr_tr rfl fr_rf hF111) hF131) hF139), n143d, n143f, (Int32.ofInt 0), rfl, rfl, in_w 0 2 (in_c 0 rfl) rfl, n143, n143a, n143b⟩)
                              · skip
                                refine g_iload_n 33 (gd rfl) rfl rfl ?_
                                refine g_bipush 61 35 (gd rfl) rfl rfl ?_
                                refine g_cmp_ne 38 42 (gd rfl) rfl rfl (fun c118x35 => ?_) (fun c118x35 => ?_)
                                · skip
                                  refine g_iconst 0 43 (gd rfl) rfl rfl ?_
                                  refine g_ireturn (gd rfl) rfl rfl (hp118 _ _ ?_)
                                  show GG _ _ _ _ _ _ _ _ [.int (Int32.ofInt 0)] _ _ _
                                  refine g_iconst 1 122 (gd rfl) rfl rfl ?_
                                  refine g_cmp_ne 125 134 (gd rfl) rfl rfl (fun c122 => ?_) (fun c122 => ?_)
                                  · skip
                                    refine g_aload_n 135 (gd rfl) rfl rfl ?_
                                    refine g_aload_n 136 (gd rfl) rfl rfl ?_
                                    refine g_getI 139 (gd rfl) rfl rfl rfl (fun z136 e136 => ?_)
                                    have q136 : u_109_30 = z136 := (fr_F (e_109_30) hF111 rfl).trans e136.symm
                                    subst q136
                                    have n139 : (z111b).toInt ≤ 199 := by have a0 := in_u i76x29; have a1 := in_u ro_109_29; have a2 := in_u i12; have a3 := in_u ((inv_F hI 0 200 rfl e_109_111)); have a4 := in_u ((inv_F hI 0 400 rfl e_109_109)); have a5 := in_u h1; have a6 := in_u ((in_c 1 rfl)); have a7 := in_u i115x4; have a8 := in_u i111a; have a9 := in_u i115x20; have a10 := t_sub e115x20 i115x4 (in_c 1 rfl) rfl; omega
                                    refine g_callv (X := _) (As := [.int u_109_30]) (r := []) (b := A 109) (q := 109) 142 (gd rfl) rfl rfl rfl rfl rfl (ww_o rfl) (Nat.le_of_ble_eq_true rfl) (Nat.zero_le _) (Nat.zero_le _) (k_396 (by first | exact dq1 hd rfl | exact dq0 hd rfl | exact dq2 hd rfl | exact dq3 hd rfl | omega) hI111 e111a n139) (fun e u h => h) (fun v u h => ?_)
                                    obtain ⟨s139, hI139, hF139, n139a, rfl, rfl, p139⟩ := h
                                    obtain ⟨z139a, e139⟩ : ∃ w, w = s139.2.2.1 109 111 := ⟨_, rfl⟩
                                    have i139a := inv_F hI139 0 200 rfl e139
                                    rw [← (show z111b = s111.2.2.1 109 111 from e111a)] at n139a
                                    rw [← (show z139a = s139.2.2.1 109 111 from e139)] at n139a
                                    show GG _ _ _ _ _ _ _ _ [] _ _ _
                                    refine g_iconst 0 143 (gd rfl) rfl rfl ?_
                                    have n143 : ((Int32.ofInt 0)).toInt = 0 → PR s s139 1 0 := by intro hR; first | (exfalso; revert hR; decide) | exact pr_tr p91 (pr_hold (hF99.1 187 rfl) (hF99.1 188 rfl) (hF99.2.2.1 109 109 rfl) (hF99.2.2.1 109 23 rfl) p99 (by rw [← e99, ← e91a]; exact n99a) (inv_F hI91 0 200 rfl rfl).1 (Or.inr ⟨by first | (have hi := i76x3; unfold In at hi; omega) | (have hi := i76x13; unfold In at hi; omega) | (have hi := i76x19; unfold In at hi; omega) | (have hi := i76x29; unfold In at hi; omega) | (have hi := i76x35; unfold In at hi; omega), rfl⟩)) | exact pr_tr p111 (pr_hold (hF139.1 187 rfl) (hF139.1 188 rfl) (hF139.2.2.1 109 109 rfl) (hF139.2.2.1 109 23 rfl) p139 (by rw [← e139, ← e111a]; exact n139a) (inv_F hI111 0 200 rfl rfl).1 (Or.inr ⟨by first | (have hi := i76x3; unfold In at hi; omega) | (have hi := i76x13; unfold In at hi; omega) | (have hi := i76x19; unfold In at hi; omega) | (have hi := i76x29; unfold In at hi; omega) | (have hi := i76x35; unfold In at hi; omega), rfl⟩)) | exact pr_tr p111 (pr_tr (b := 1) (pr_flt (hF131.1 187 rfl) (hF131.1 188 rfl) (hF131.2.2.1 109 109 rfl) (by rw [← e131]; omega)) (pr_hold (hF139.1 187 rfl) (hF139.1 188 rfl) (hF139.2.2.1 109 109 rfl) (hF139.2.2.1 109 23 rfl) p139 (by rw [← e139, ← (show z111b = s131.2.2.1 109 111 from fr_F e111a hF131 rfl)]; exact n139a) (inv_F hI131 0 200 rfl rfl).1 (Or.inr ⟨by first | (have hi := i76x3; unfold In at hi; omega) | (have hi := i76x13; unfold In at hi; omega) | (have hi := i76x19; unfold In at hi; omega) | (have hi := i76x29; unfold In at hi; omega) | (have hi := i76x35; unfold In at hi; omega), rfl⟩)))
                                    have n143a : ((Int32.ofInt 0)).toInt ≠ 0 → PR s s139 1 1 := by intro hR; first | (exact absurd rfl hR) | exact p26 | exact pr_tr p26 (pr_flt (hF59.1 187 rfl) (hF59.1 188 rfl) (hF59.2.2.1 109 109 rfl) (by rw [← e59]; omega)) | exact pr_tr p163 (pr_flt (hF181.1 187 rfl) (hF181.1 188 rfl) (hF181.2.2.1 109 109 rfl) (by rw [← e181]; omega)) | exact pr_flt (hF202.1 187 rfl) (hF202.1 188 rfl) (hF202.2.2.1 109 109 rfl) (by rw [← e202]; omega) | exact pr_tr p163 (pr_tr (pr_drop (x := z167x21) (b := z167x20) (hF187.1 187 rfl) (hF187.1 188 rfl) (hF187.2.2.1 109 109 rfl) (hF187.2.2.1 109 23 rfl) (hF187.1 190 rfl) (by rw [← e187]; have a0 := in_u i76x29; have a1 := in_u ro_109_29; have a2 := in_u i12; have a3 := in_u ((inv_F hI 0 200 rfl e_109_111)); have a4 := in_u ((inv_F hI 0 400 rfl e_109_109)); have a5 := in_u h1; have a6 := in_u ((in_c 1 rfl)); have a7 := in_u i139a; have a8 := in_u i111a; have a9 := in_u i115x20; have a10 := t_sub e115x20 i115x4 (in_c 1 rfl) rfl; have a11 := in_u i115x4; omega) (by rw [← e163a]; have a0 := in_u i76x29; have a1 := in_u ro_109_29; have a2 := in_u i12; have a3 := in_u ((inv_F hI 0 200 rfl e_109_111)); have a4 := in_u ((inv_F hI 0 400 rfl e_109_109)); have a5 := in_u h1; have a6 := in_u ((in_c 1 rfl)); have a7 := in_u i139a; have a8 := in_u i111a; have a9 := in_u i115x20; have a10 := t_sub e115x20 i115x4 (in_c 1 rfl) rfl; have a11 := in_u i115x4; omega) i167x20.1 e167x21 (Or.inr (c172.trans rfl))) p191)
                                    have n143b : (s.2.2.1 109 28).toInt = 0 → ((Int32.ofInt 0)).toInt = 2 := by rw [← e_109_28]; intro h0; first | rfl | (exfalso; have a0 := in_u i76x29; have a1 := in_u ro_109_29; have a2 := in_u i12; have a3 := in_u ((inv_F hI 0 200 rfl e_109_111)); have a4 := in_u ((inv_F hI 0 400 rfl e_109_109)); have a5 := in_u h1; have a6 := in_u ((in_c 1 rfl)); have a7 := in_u i139a; have a8 := in_u i111a; have a9 := in_u i115x20; have a10 := t_sub e115x20 i115x4 (in_c 1 rfl) rfl; have a11 := in_u i115x4; omega)
                                    have n143c : (z111a).toInt + (z139a).toInt ≤ (u_109_109).toInt + (u_109_111).toInt + 1 := by have a0 := in_u i76x29; have a1 := in_u ro_109_29; have a2 := in_u i12; have a3 := in_u ((inv_F hI 0 200 rfl e_109_111)); have a4 := in_u ((inv_F hI 0 400 rfl e_109_109)); have a5 := in_u h1; have a6 := in_u ((in_c 1 rfl)); have a7 := in_u i139a; have a8 := in_u i111a; have a9 := in_u i115x20; have a10 := t_sub e115x20 i115x4 (in_c 1 rfl) rfl; have a11 := in_u i115x4; omega
                                    have n143d : (s139.2.2.1 109 109).toInt + (s139.2.2.1 109 111).toInt ≤ (s.2.2.1 109 109).toInt + (s.2.2.1 109 111).toInt + 1 := by have b0 : z111a = s139.2.2.1 109 109 := fr_F (e111) hF139 rfl; have b1 : z139a = s139.2.2.1 109 111 := e139; first | (rw [← b0, ← b1, ← e_109_109, ← e_109_111]; exact n143c) | (rw [← b0, ← b1]; exact n143c)
                                    have n143e : (u_109_28).toInt = 0 → (z111a).toInt + (z139a).toInt = (u_109_109).toInt + (u_109_111).toInt := by have a0 := in_u i76x29; have a1 := in_u ro_109_29; have a2 := in_u i12; have a3 := in_u ((inv_F hI 0 200 rfl e_109_111)); have a4 := in_u ((inv_F hI 0 400 rfl e_109_109)); have a5 := in_u h1; have a6 := in_u ((in_c 1 rfl)); have a7 := in_u i139a; have a8 := in_u i111a; have a9 := in_u i115x20; have a10 := t_sub e115x20 i115x4 (in_c 1 rfl) rfl; have a11 := in_u i115x4; omega
                                    have n143f : (s.2.2.1 109 28).toInt = 0 → (s139.2.2.1 109 109).toInt + (s139.2.2.1 109 111).toInt = (s.2.2.1 109 109).toInt + (s.2.2.1 109 111).toInt := by have b0 : z111a = s139.2.2.1 109 109 := fr_F (e111) hF139 rfl; have b1 : z139a = s139.2.2.1 109 111 := e139; first | (rw [← b0, ← b1, ← e_109_28, ← e_109_109, ← e_109_111]; exact n143e) | (rw [← b0, ← b1]; exact n143e)
                                    exact g_ireturn (gd rfl) rfl rfl (hP _ _ ⟨s139, hI139, (fr_tr rfl (fr_tr rfl fr_rf hF111) hF139), n143d, n143f, (Int32.ofInt 0), rfl, rfl, in_w 0 2 (in_c 0 rfl) rfl, n143, n143a, n143b⟩)
                                  · skip
                                    exact n_eq c122 (in_c 0 rfl) (in_c 1 rfl) rfl
                                · skip
                                  have i118x35 := r_eq1 61 61 c118x35 (i_rng z115x21) (in_c 61 rfl) rfl
                                  refine g_iconst 1 39 (gd rfl) rfl rfl ?_
                                  refine g_goto 43 (gd rfl) rfl ?_
                                  refine g_ireturn (gd rfl) rfl rfl (hp118 _ _ ?_)
                                  show GG _ _ _ _ _ _ _ _ [.int (Int32.ofInt 1)] _ _ _
                                  refine g_iconst 1 122 (gd rfl) rfl rfl ?_
                                  refine g_cmp_ne 125 134 (gd rfl) rfl rfl (fun c122 => ?_) (fun c122 => ?_)
                                  · skip
                                    exact n_ne c122 (in_c 1 rfl) (in_c 1 rfl) rfl
                                  · skip
                                    refine g_aload_n 126 (gd rfl) rfl rfl ?_
                                    refine g_iconst 2 127 (gd rfl) rfl rfl ?_
                                    refine g_aload_n 128 (gd rfl) rfl rfl ?_
                                    refine g_getI 131 (gd rfl) rfl rfl rfl (fun z128 e128 => ?_)
                                    have q128 : u_109_29 = z128 := (fr_F (e_109_29) hF111 rfl).trans e128.symm
                                    subst q128
                                    refine g_callv (X := _) (As := [.int (Int32.ofInt 2), .int u_109_29]) (r := []) (b := A 109) (q := 109) 134 (gd rfl) rfl rfl rfl rfl rfl (ww_o rfl) (Nat.le_of_ble_eq_true rfl) (Nat.zero_le _) (Nat.zero_le _) (k_298 (by first | exact dq1 hd rfl | exact dq0 hd rfl | exact dq2 hd rfl | exact dq3 hd rfl | omega) hI111 (in_w 1 5 (in_c 2 rfl) rfl)) (fun e u h => h) (fun v u h => ?_)
                                    obtain ⟨s131, hI131, hF131, n131, rfl, rfl⟩ := h
                                    obtain ⟨z131a, e131⟩ : ∃ w, w = s131.2.2.1 109 23 := ⟨_, rfl⟩
                                    have i131a := inv_F hI131 0 9 rfl e131
                                    rw [← (show z131a = s131.2.2.1 109 23 from e131)] at n131
                                    show GG _ _ _ _ _ _ _ _ [] _ _ _
                                    refine g_aload_n 135 (gd rfl) rfl rfl ?_
                                    refine g_aload_n 136 (gd rfl) rfl rfl ?_
                                    refine g_getI 139 (gd rfl) rfl rfl rfl (fun z136 e136 => ?_)
                                    have q136 : u_109_30 = z136 := (fr_F (fr_F (e_109_30) hF111 rfl) hF131 rfl).trans e136.symm
                                    subst q136
                                    have v139 : z111b = s131.2.2.1 109 111 := fr_F (e111a) hF131 rfl
                                    have n139 : (z111b).toInt ≤ 199 := by have a0 := in_u i76x29; have a1 := in_u ro_109_29; have a2 := in_u i12; have a3 := in_u ((inv_F hI 0 200 rfl e_109_111)); have a4 := in_u ((inv_F hI 0 400 rfl e_109_109)); have a5 := in_u h1; have a6 := in_u ((in_c 1 rfl)); have a7 := in_u i131a; have a8 := in_u i115x4; have a9 := in_u i111a; have a10 := in_u i115x20; have a11 := t_sub e115x20 i115x4 (in_c 1 rfl) rfl; omega
                                    refine g_callv (X := _) (As := [.int u_109_30]) (r := []) (b := A 109) (q := 109) 142 (gd rfl) rfl rfl rfl rfl rfl (ww_o rfl) (Nat.le_of_ble_eq_true rfl) (Nat.zero_le _) (Nat.zero_le _) (k_396 (by first | exact dq1 hd rfl | exact dq0 hd rfl | exact dq2 hd rfl | exact dq3 hd rfl | omega) hI131 v139 n139) (fun e u h => h) (fun v u h => ?_)
                                    obtain ⟨s139, hI139, hF139, n139a, rfl, rfl, p139⟩ := h
                                    obtain ⟨z139a, e139⟩ : ∃ w, w = s139.2.2.1 109 111 := ⟨_, rfl⟩
                                    have i139a := inv_F hI139 0 200 rfl e139
                                    rw [← (show z111b = s131.2.2.1 109 111 from fr_F (e111a) hF131 rfl)] at n139a
                                    rw [← (show z139a = s139.2.2.1 109 111 from e139)] at n139a
                                    show GG _ _ _ _ _ _ _ _ [] _ _ _
                                    refine g_iconst 0 143 (gd rfl) rfl rfl ?_
                                    have n143 : ((Int32.ofInt 0)).toInt = 0 → PR s s139 1 0 := by intro hR; first | (exfalso; revert hR; decide) | exact pr_tr p91 (pr_hold (hF99.1 187 rfl) (hF99.1 188 rfl) (hF99.2.2.1 109 109 rfl) (hF99.2.2.1 109 23 rfl) p99 (by rw [← e99, ← e91a]; exact n99a) (inv_F hI91 0 200 rfl rfl).1 (Or.inr ⟨by first | (have hi := i76x3; unfold In at hi; omega) | (have hi := i76x13; unfold In at hi; omega) | (have hi := i76x19; unfold In at hi; omega) | (have hi := i76x29; unfold In at hi; omega) | (have hi := i76x35; unfold In at hi; omega), rfl⟩)) | exact pr_tr p111 (pr_hold (hF139.1 187 rfl) (hF139.1 188 rfl) (hF139.2.2.1 109 109 rfl) (hF139.2.2.1 109 23 rfl) p139 (by rw [← e139, ← e111a]; exact n139a) (inv_F hI111 0 200 rfl rfl).1 (Or.inr ⟨by first | (have hi := i76x3; unfold In at hi; omega) | (have hi := i76x13; unfold In at hi; omega) | (have hi := i76x19; unfold In at hi; omega) | (have hi := i76x29; unfold In at hi; omega) | (have hi := i76x35; unfold In at hi; omega), rfl⟩)) | exact pr_tr p111 (pr_tr (b := 1) (pr_flt (hF131.1 187 rfl) (hF131.1 188 rfl) (hF131.2.2.1 109 109 rfl) (by rw [← e131]; omega)) (pr_hold (hF139.1 187 rfl) (hF139.1 188 rfl) (hF139.2.2.1 109 109 rfl) (hF139.2.2.1 109 23 rfl) p139 (by rw [← e139, ← (show z111b = s131.2.2.1 109 111 from fr_F e111a hF131 rfl)]; exact n139a) (inv_F hI131 0 200 rfl rfl).1 (Or.inr ⟨by first | (have hi := i76x3; unfold In at hi; omega) | (have hi := i76x13; unfold In at hi; omega) | (have hi := i76x19; unfold In at hi; omega) | (have hi := i76x29; unfold In at hi; omega) | (have hi := i76x35; unfold In at hi; omega), rfl⟩)))
                                    have n143a : ((Int32.ofInt 0)).toInt ≠ 0 → PR s s139 1 1 := by intro hR; first | (exact absurd rfl hR) | exact p26 | exact pr_tr p26 (pr_flt (hF59.1 187 rfl) (hF59.1 188 rfl) (hF59.2.2.1 109 109 rfl) (by rw [← e59]; omega)) | exact pr_tr p163 (pr_flt (hF181.1 187 rfl) (hF181.1 188 rfl) (hF181.2.2.1 109 109 rfl) (by rw [← e181]; omega)) | exact pr_flt (hF202.1 187 rfl) (hF202.1 188 rfl) (hF202.2.2.1 109 109 rfl) (by rw [← e202]; omega) | exact pr_tr p163 (pr_tr (pr_drop (x := z167x21) (b := z167x20) (hF187.1 187 rfl) (hF187.1 188 rfl) (hF187.2.2.1 109 109 rfl) (hF187.2.2.1 109 23 rfl) (hF187.1 190 rfl) (by rw [← e187]; have a0 := in_u i76x29; have a1 := in_u ro_109_29; have a2 := in_u i12; have a3 := in_u ((inv_F hI 0 200 rfl e_109_111)); have a4 := in_u ((inv_F hI 0 400 rfl e_109_109)); have a5 := in_u h1; have a6 := in_u ((in_c 1 rfl)); have a7 := in_u i139a; have a8 := in_u i131a; have a9 := in_u i111a; have a10 := in_u i115x20; have a11 := t_sub e115x20 i115x4 (in_c 1 rfl) rfl; have a12 := in_u i115x4; omega) (by rw [← e163a]; have a0 := in_u i76x29; have a1 := in_u ro_109_29; have a2 := in_u i12; have a3 := in_u ((inv_F hI 0 200 rfl e_109_111)); have a4 := in_u ((inv_F hI 0 400 rfl e_109_109)); have a5 := in_u h1; have a6 := in_u ((in_c 1 rfl)); have a7 := in_u i139a; have a8 := in_u i131a; have a9 := in_u i111a; have a10 := in_u i115x20; have a11 := t_sub e115x20 i115x4 (in_c 1 rfl) rfl; have a12 := in_u i115x4; omega) i167x20.1 e167x21 (Or.inr (c172.trans rfl))) p191)
                                    have n143b : (s.2.2.1 109 28).toInt = 0 → ((Int32.ofInt 0)).toInt = 2 := by rw [← e_109_28]; intro h0; first | rfl | (exfalso; have a0 := in_u i76x29; have a1 := in_u ro_109_29; have a2 := in_u i12; have a3 := in_u ((inv_F hI 0 200 rfl e_109_111)); have a4 := in_u ((inv_F hI 0 400 rfl e_109_109)); have a5 := in_u h1; have a6 := in_u ((in_c 1 rfl)); have a7 := in_u i139a; have a8 := in_u i131a; have a9 := in_u i111a; have a10 := in_u i115x20; have a11 := t_sub e115x20 i115x4 (in_c 1 rfl) rfl; have a12 := in_u i115x4; omega)
                                    have n143c : (z111a).toInt + (z139a).toInt ≤ (u_109_109).toInt + (u_109_111).toInt + 1 := by have a0 := in_u i76x29; have a1 := in_u ro_109_29; have a2 := in_u i12; have a3 := in_u ((inv_F hI 0 200 rfl e_109_111)); have a4 := in_u ((inv_F hI 0 400 rfl e_109_109)); have a5 := in_u h1; have a6 := in_u ((in_c 1 rfl)); have a7 := in_u i139a; have a8 := in_u i131a; have a9 := in_u i111a; have a10 := in_u i115x20; have a11 := t_sub e115x20 i115x4 (in_c 1 rfl) rfl; have a12 := in_u i115x4; omega
                                    have n143d : (s139.2.2.1 109 109).toInt + (s139.2.2.1 109 111).toInt ≤ (s.2.2.1 109 109).toInt + (s.2.2.1 109 111).toInt + 1 := by have b0 : z111a = s139.2.2.1 109 109 := fr_F (fr_F (e111) hF131 rfl) hF139 rfl; have b1 : z139a = s139.2.2.1 109 111 := e139; first | (rw [← b0, ← b1, ← e_109_109, ← e_109_111]; exact n143c) | (rw [← b0, ← b1]; exact n143c)
                                    have n143e : (u_109_28).toInt = 0 → (z111a).toInt + (z139a).toInt = (u_109_109).toInt + (u_109_111).toInt := by have a0 := in_u i76x29; have a1 := in_u ro_109_29; have a2 := in_u i12; have a3 := in_u ((inv_F hI 0 200 rfl e_109_111)); have a4 := in_u ((inv_F hI 0 400 rfl e_109_109)); have a5 := in_u h1; have a6 := in_u ((in_c 1 rfl)); have a7 := in_u i139a; have a8 := in_u i131a; have a9 := in_u i111a; have a10 := in_u i115x20; have a11 := t_sub e115x20 i115x4 (in_c 1 rfl) rfl; have a12 := in_u i115x4; omega
                                    have n143f : (s.2.2.1 109 28).toInt = 0 → (s139.2.2.1 109 109).toInt + (s139.2.2.1 109 111).toInt = (s.2.2.1 109 109).toInt + (s.2.2.1 109 111).toInt := by have b0 : z111a = s139.2.2.1 109 109 := fr_F (fr_F (e111) hF131 rfl) hF139 rfl; have b1 : z139a = s139.2.2.1 109 111 := e139; first | (rw [← b0, ← b1, ← e_109_28, ← e_109_109, ← e_109_111]; exact n143e) | (rw [← b0, ← b1]; exact n143e)
                                    exact g_ireturn (gd rfl) rfl rfl (hP _ _ ⟨s139, hI139, (fr_tr rfl (fr_tr rfl (fr_tr rfl fr_rf hF111) hF131) hF139), n143d, n143f, (Int32.ofInt 0), rfl, rfl, in_w 0 2 (in_c 0 rfl) rfl, n143, n143a, n143b⟩)
                            · skip
                              have i118x19 := r_eq1 45 45 c118x19 (i_rng z115x21) (in_c 45 rfl) rfl
                              refine g_iconst 2 23 (gd rfl) rfl rfl ?_
                              refine g_goto 43 (gd rfl) rfl ?_
                              refine g_ireturn (gd rfl) rfl rfl (hp118 _ _ ?_)
                              show GG _ _ _ _ _ _ _ _ [.int (Int32.ofInt 2)] _ _ _
                              refine g_iconst 1 122 (gd rfl) rfl rfl ?_
                              refine g_cmp_ne 125 134 (gd rfl) rfl rfl (fun c122 => ?_) (fun c122 => ?_)
                              · skip
                                refine g_aload_n 135 (gd rfl) rfl rfl ?_
                                refine g_aload_n 136 (gd rfl) rfl rfl ?_
                                refine g_getI 139 (gd rfl) rfl rfl rfl (fun z136 e136 => ?_)
                                have q136 : u_109_30 = z136 := (fr_F (e_109_30) hF111 rfl).trans e136.symm
                                subst q136
                                have n139 : (z111b).toInt ≤ 199 := by have a0 := in_u i76x29; have a1 := in_u ro_109_29; have a2 := in_u i12; have a3 := in_u ((inv_F hI 0 200 rfl e_109_111)); have a4 := in_u ((inv_F hI 0 400 rfl e_109_109)); have a5 := in_u h1; have a6 := in_u ((in_c 1 rfl)); have a7 := in_u i115x4; have a8 := in_u i111a; have a9 := in_u i115x20; have a10 := t_sub e115x20 i115x4 (in_c 1 rfl) rfl; omega
                                refine g_callv (X := _) (As := [.int u_109_30]) (r := []) (b := A 109) (q := 109) 142 (gd rfl) rfl rfl rfl rfl rfl (ww_o rfl) (Nat.le_of_ble_eq_true rfl) (Nat.zero_le _) (Nat.zero_le _) (k_396 (by first | exact dq1 hd rfl | exact dq0 hd rfl | exact dq2 hd rfl | exact dq3 hd rfl | omega) hI111 e111a n139) (fun e u h => h) (fun v u h => ?_)
                                obtain ⟨s139, hI139, hF139, n139a, rfl, rfl, p139⟩ := h
                                obtain ⟨z139a, e139⟩ : ∃ w, w = s139.2.2.1 109 111 := ⟨_, rfl⟩
                                have i139a := inv_F hI139 0 200 rfl e139
                                rw [← (show z111b = s111.2.2.1 109 111 from e111a)] at n139a
                                rw [← (show z139a = s139.2.2.1 109 111 from e139)] at n139a
                                show GG _ _ _ _ _ _ _ _ [] _ _ _
                                refine g_iconst 0 143 (gd rfl) rfl rfl ?_
                                have n143 : ((Int32.ofInt 0)).toInt = 0 → PR s s139 1 0 := by intro hR; first | (exfalso; revert hR; decide) | exact pr_tr p91 (pr_hold (hF99.1 187 rfl) (hF99.1 188 rfl) (hF99.2.2.1 109 109 rfl) (hF99.2.2.1 109 23 rfl) p99 (by rw [← e99, ← e91a]; exact n99a) (inv_F hI91 0 200 rfl rfl).1 (Or.inr ⟨by first | (have hi := i76x3; unfold In at hi; omega) | (have hi := i76x13; unfold In at hi; omega) | (have hi := i76x19; unfold In at hi; omega) | (have hi := i76x29; unfold In at hi; omega) | (have hi := i76x35; unfold In at hi; omega), rfl⟩)) | exact pr_tr p111 (pr_hold (hF139.1 187 rfl) (hF139.1 188 rfl) (hF139.2.2.1 109 109 rfl) (hF139.2.2.1 109 23 rfl) p139 (by rw [← e139, ← e111a]; exact n139a) (inv_F hI111 0 200 rfl rfl).1 (Or.inr ⟨by first | (have hi := i76x3; unfold In at hi; omega) | (have hi := i76x13; unfold In at hi; omega) | (have hi := i76x19; unfold In at hi; omega) | (have hi := i76x29; unfold In at hi; omega) | (have hi := i76x35; unfold In at hi; omega), rfl⟩)) | exact pr_tr p111 (pr_tr (b := 1) (pr_flt (hF131.1 187 rfl) (hF131.1 188 rfl) (hF131.2.2.1 109 109 rfl) (by rw [← e131]; omega)) (pr_hold (hF139.1 187 rfl) (hF139.1 188 rfl) (hF139.2.2.1 109 109 rfl) (hF139.2.2.1 109 23 rfl) p139 (by rw [← e139, ← (show z111b = s131.2.2.1 109 111 from fr_F e111a hF131 rfl)]; exact n139a) (inv_F hI131 0 200 rfl rfl).1 (Or.inr ⟨by first | (have hi := i76x3; unfold In at hi; omega) | (have hi := i76x13; unfold In at hi; omega) | (have hi := i76x19; unfold In at hi; omega) | (have hi := i76x29; unfold In at hi; omega) | (have hi := i76x35; unfold In at hi; omega), rfl⟩)))
                                have n143a : ((Int32.ofInt 0)).toInt ≠ 0 → PR s s139 1 1 := by intro hR; first | (exact absurd rfl hR) | exact p26 | exact pr_tr p26 (pr_flt (hF59.1 187 rfl) (hF59.1 188 rfl) (hF59.2.2.1 109 109 rfl) (by rw [← e59]; omega)) | exact pr_tr p163 (pr_flt (hF181.1 187 rfl) (hF181.1 188 rfl) (hF181.2.2.1 109 109 rfl) (by rw [← e181]; omega)) | exact pr_flt (hF202.1 187 rfl) (hF202.1 188 rfl) (hF202.2.2.1 109 109 rfl) (by rw [← e202]; omega) | exact pr_tr p163 (pr_tr (pr_drop (x := z167x21) (b := z167x20) (hF187.1 187 rfl) (hF187.1 188 rfl) (hF187.2.2.1 109 109 rfl) (hF187.2.2.1 109 23 rfl) (hF187.1 190 rfl) (by rw [← e187]; have a0 := in_u i76x29; have a1 := in_u ro_109_29; have a2 := in_u i12; have a3 := in_u ((inv_F hI 0 200 rfl e_109_111)); have a4 := in_u ((inv_F hI 0 400 rfl e_109_109)); have a5 := in_u h1; have a6 := in_u ((in_c 1 rfl)); have a7 := in_u i139a; have a8 := in_u i111a; have a9 := in_u i115x20; have a10 := t_sub e115x20 i115x4 (in_c 1 rfl) rfl; have a11 := in_u i115x4; omega) (by rw [← e163a]; have a0 := in_u i76x29; have a1 := in_u ro_109_29; have a2 := in_u i12; have a3 := in_u ((inv_F hI 0 200 rfl e_109_111)); have a4 := in_u ((inv_F hI 0 400 rfl e_109_109)); have a5 := in_u h1; have a6 := in_u ((in_c 1 rfl)); have a7 := in_u i139a; have a8 := in_u i111a; have a9 := in_u i115x20; have a10 := t_sub e115x20 i115x4 (in_c 1 rfl) rfl; have a11 := in_u i115x4; omega) i167x20.1 e167x21 (Or.inr (c172.trans rfl))) p191)
                                have n143b : (s.2.2.1 109 28).toInt = 0 → ((Int32.ofInt 0)).toInt = 2 := by rw [← e_109_28]; intro h0; first | rfl | (exfalso; have a0 := in_u i76x29; have a1 := in_u ro_109_29; have a2 := in_u i12; have a3 := in_u ((inv_F hI 0 200 rfl e_109_111)); have a4 := in_u ((inv_F hI 0 400 rfl e_109_109)); have a5 := in_u h1; have a6 := in_u ((in_c 1 rfl)); have a7 := in_u i139a; have a8 := in_u i111a; have a9 := in_u i115x20; have a10 := t_sub e115x20 i115x4 (in_c 1 rfl) rfl; have a11 := in_u i115x4; omega)
                                have n143c : (z111a).toInt + (z139a).toInt ≤ (u_109_109).toInt + (u_109_111).toInt + 1 := by have a0 := in_u i76x29; have a1 := in_u ro_109_29; have a2 := in_u i12; have a3 := in_u ((inv_F hI 0 200 rfl e_109_111)); have a4 := in_u ((inv_F hI 0 400 rfl e_109_109)); have a5 := in_u h1; have a6 := in_u ((in_c 1 rfl)); have a7 := in_u i139a; have a8 := in_u i111a; have a9 := in_u i115x20; have a10 := t_sub e115x20 i115x4 (in_c 1 rfl) rfl; have a11 := in_u i115x4; omega
                                have n143d : (s139.2.2.1 109 109).toInt + (s139.2.2.1 109 111).toInt ≤ (s.2.2.1 109 109).toInt + (s.2.2.1 109 111).toInt + 1 := by have b0 : z111a = s139.2.2.1 109 109 := fr_F (e111) hF139 rfl; have b1 : z139a = s139.2.2.1 109 111 := e139; first | (rw [← b0, ← b1, ← e_109_109, ← e_109_111]; exact n143c) | (rw [← b0, ← b1]; exact n143c)
                                have n143e : (u_109_28).toInt = 0 → (z111a).toInt + (z139a).toInt = (u_109_109).toInt + (u_109_111).toInt := by have a0 := in_u i76x29; have a1 := in_u ro_109_29; have a2 := in_u i12; have a3 := in_u ((inv_F hI 0 200 rfl e_109_111)); have a4 := in_u ((inv_F hI 0 400 rfl e_109_109)); have a5 := in_u h1; have a6 := in_u ((in_c 1 rfl)); have a7 := in_u i139a; have a8 := in_u i111a; have a9 := in_u i115x20; have a10 := t_sub e115x20 i115x4 (in_c 1 rfl) rfl; have a11 := in_u i115x4; omega
                                have n143f : (s.2.2.1 109 28).toInt = 0 → (s139.2.2.1 109 109).toInt + (s139.2.2.1 109 111).toInt = (s.2.2.1 109 109).toInt + (s.2.2.1 109 111).toInt := by have b0 : z111a = s139.2.2.1 109 109 := fr_F (e111) hF139 rfl; have b1 : z139a = s139.2.2.1 109 111 := e139; first | (rw [← b0, ← b1, ← e_109_28, ← e_109_109, ← e_109_111]; exact n143e) | (rw [← b0, ← b1]; exact n143e)
                                exact g_ireturn (gd rfl) rfl rfl (hP _ _ ⟨s139, hI139, (fr_tr rfl (fr_tr rfl fr_rf hF111) hF139), n143d, n143f, (Int32.ofInt 0), rfl, rfl, in_w 0 2 (in_c 0 rfl) rfl, n143, n143a, n143b⟩)
                              · skip
                                exact n_eq c122 (in_c 2 rfl) (in_c 1 rfl) rfl
                        · skip
                          have i118x3 := r_eq1 42 42 c118x3 (i_rng z115x21) (in_c 42 rfl) rfl
                          refine g_iconst 3 7 (gd rfl) rfl rfl ?_
                          refine g_goto 43 (gd rfl) rfl ?_
                          refine g_ireturn (gd rfl) rfl rfl (hp118 _ _ ?_)
                          show GG _ _ _ _ _ _ _ _ [.int (Int32.ofInt 3)] _ _ _
                          refine g_iconst 1 122 (gd rfl) rfl rfl ?_
                          refine g_cmp_ne 125 134 (gd rfl) rfl rfl (fun c122 => ?_) (fun c122 => ?_)
                          · skip
                            refine g_aload_n 135 (gd rfl) rfl rfl ?_
                            refine g_aload_n 136 (gd rfl) rfl rfl ?_
                            refine g_getI 139 (gd rfl) rfl rfl rfl (fun z136 e136 => ?_)
                            have q136 : u_109_30 = z136 := (fr_F (e_109_30) hF111 rfl).trans e136.symm
                            subst q136
                            have n139 : (z111b).toInt ≤ 199 := by have a0 := in_u i76x29; have a1 := in_u ro_109_29; have a2 := in_u i12; have a3 := in_u ((inv_F hI 0 200 rfl e_109_111)); have a4 := in_u ((inv_F hI 0 400 rfl e_109_109)); have a5 := in_u h1; have a6 := in_u ((in_c 1 rfl)); have a7 := in_u i115x4; have a8 := in_u i111a; have a9 := in_u i115x20; have a10 := t_sub e115x20 i115x4 (in_c 1 rfl) rfl; omega
                            refine g_callv (X := _) (As := [.int u_109_30]) (r := []) (b := A 109) (q := 109) 142 (gd rfl) rfl rfl rfl rfl rfl (ww_o rfl) (Nat.le_of_ble_eq_true rfl) (Nat.zero_le _) (Nat.zero_le _) (k_396 (by first | exact dq1 hd rfl | exact dq0 hd rfl | exact dq2 hd rfl | exact dq3 hd rfl | omega) hI111 e111a n139) (fun e u h => h) (fun v u h => ?_)
                            obtain ⟨s139, hI139, hF139, n139a, rfl, rfl, p139⟩ := h
                            obtain ⟨z139a, e139⟩ : ∃ w, w = s139.2.2.1 109 111 := ⟨_, rfl⟩
                            have i139a := inv_F hI139 0 200 rfl e139
                            rw [← (show z111b = s111.2.2.1 109 111 from e111a)] at n139a
                            rw [← (show z139a = s139.2.2.1 109 111 from e139)] at n139a
                            show GG _ _ _ _ _ _ _ _ [] _ _ _
                            refine g_iconst 0 143 (gd rfl) rfl rfl ?_
                            have n143 : ((Int32.ofInt 0)).toInt = 0 → PR s s139 1 0 := by intro hR; first | (exfalso; revert hR; decide) | exact pr_tr p91 (pr_hold (hF99.1 187 rfl) (hF99.1 188 rfl) (hF99.2.2.1 109 109 rfl) (hF99.2.2.1 109 23 rfl) p99 (by rw [← e99, ← e91a]; exact n99a) (inv_F hI91 0 200 rfl rfl).1 (Or.inr ⟨by first | (have hi := i76x3; unfold In at hi; omega) | (have hi := i76x13; unfold In at hi; omega) | (have hi := i76x19; unfold In at hi; omega) | (have hi := i76x29; unfold In at hi; omega) | (have hi := i76x35; unfold In at hi; omega), rfl⟩)) | exact pr_tr p111 (pr_hold (hF139.1 187 rfl) (hF139.1 188 rfl) (hF139.2.2.1 109 109 rfl) (hF139.2.2.1 109 23 rfl) p139 (by rw [← e139, ← e111a]; exact n139a) (inv_F hI111 0 200 rfl rfl).1 (Or.inr ⟨by first | (have hi := i76x3; unfold In at hi; omega) | (have hi := i76x13; unfold In at hi; omega) | (have hi := i76x19; unfold In at hi; omega) | (have hi := i76x29; unfold In at hi; omega) | (have hi := i76x35; unfold In at hi; omega), rfl⟩)) | exact pr_tr p111 (pr_tr (b := 1) (pr_flt (hF131.1 187 rfl) (hF131.1 188 rfl) (hF131.2.2.1 109 109 rfl) (by rw [← e131]; omega)) (pr_hold (hF139.1 187 rfl) (hF139.1 188 rfl) (hF139.2.2.1 109 109 rfl) (hF139.2.2.1 109 23 rfl) p139 (by rw [← e139, ← (show z111b = s131.2.2.1 109 111 from fr_F e111a hF131 rfl)]; exact n139a) (inv_F hI131 0 200 rfl rfl).1 (Or.inr ⟨by first | (have hi := i76x3; unfold In at hi; omega) | (have hi := i76x13; unfold In at hi; omega) | (have hi := i76x19; unfold In at hi; omega) | (have hi := i76x29; unfold In at hi; omega) | (have hi := i76x35; unfold In at hi; omega), rfl⟩)))
                            have n143a : ((Int32.ofInt 0)).toInt ≠ 0 → PR s s139 1 1 := by intro hR; first | (exact absurd rfl hR) | exact p26 | exact pr_tr p26 (pr_flt (hF59.1 187 rfl) (hF59.1 188 rfl) (hF59.2.2.1 109 109 rfl) (by rw [← e59]; omega)) | exact pr_tr p163 (pr_flt (hF181.1 187 rfl) (hF181.1 188 rfl) (hF181.2.2.1 109 109 rfl) (by rw [← e181]; omega)) | exact pr_flt (hF202.1 187 rfl) (hF202.1 188 rfl) (hF202.2.2.1 109 109 rfl) (by rw [← e202]; omega) | exact pr_tr p163 (pr_tr (pr_drop (x := z167x21) (b := z167x20) (hF187.1 187 rfl) (hF187.1 188 rfl) (hF187.2.2.1 109 109 rfl) (hF187.2.2.1 109 23 rfl) (hF187.1 190 rfl) (by rw [← e187]; have a0 := in_u i76x29; have a1 := in_u ro_109_29; have a2 := in_u i12; have a3 := in_u ((inv_F hI 0 200 rfl e_109_111)); have a4 := in_u ((inv_F hI 0 400 rfl e_109_109)); have a5 := in_u h1; have a6 := in_u ((in_c 1 rfl)); have a7 := in_u i139a; have a8 := in_u i111a; have a9 := in_u i115x20; have a10 := t_sub e115x20 i115x4 (in_c 1 rfl) rfl; have a11 := in_u i115x4; omega) (by rw [← e163a]; have a0 := in_u i76x29; have a1 := in_u ro_109_29; have a2 := in_u i12; have a3 := in_u ((inv_F hI 0 200 rfl e_109_111)); have a4 := in_u ((inv_F hI 0 400 rfl e_109_109)); have a5 := in_u h1; have a6 := in_u ((in_c 1 rfl)); have a7 := in_u i139a; have a8 := in_u i111a; have a9 := in_u i115x20; have a10 := t_sub e115x20 i115x4 (in_c 1 rfl) rfl; have a11 := in_u i115x4; omega) i167x20.1 e167x21 (Or.inr (c172.trans rfl))) p191)
                            have n143b : (s.2.2.1 109 28).toInt = 0 → ((Int32.ofInt 0)).toInt = 2 := by rw [← e_109_28]; intro h0; first | rfl | (exfalso; have a0 := in_u i76x29; have a1 := in_u ro_109_29; have a2 := in_u i12; have a3 := in_u ((inv_F hI 0 200 rfl e_109_111)); have a4 := in_u ((inv_F hI 0 400 rfl e_109_109)); have a5 := in_u h1; have a6 := in_u ((in_c 1 rfl)); have a7 := in_u i139a; have a8 := in_u i111a; have a9 := in_u i115x20; have a10 := t_sub e115x20 i115x4 (in_c 1 rfl) rfl; have a11 := in_u i115x4; omega)
                            have n143c : (z111a).toInt + (z139a).toInt ≤ (u_109_109).toInt + (u_109_111).toInt + 1 := by have a0 := in_u i76x29; have a1 := in_u ro_109_29; have a2 := in_u i12; have a3 := in_u ((inv_F hI 0 200 rfl e_109_111)); have a4 := in_u ((inv_F hI 0 400 rfl e_109_109)); have a5 := in_u h1; have a6 := in_u ((in_c 1 rfl)); have a7 := in_u i139a; have a8 := in_u i111a; have a9 := in_u i115x20; have a10 := t_sub e115x20 i115x4 (in_c 1 rfl) rfl; have a11 := in_u i115x4; omega
                            have n143d : (s139.2.2.1 109 109).toInt + (s139.2.2.1 109 111).toInt ≤ (s.2.2.1 109 109).toInt + (s.2.2.1 109 111).toInt + 1 := by have b0 : z111a = s139.2.2.1 109 109 := fr_F (e111) hF139 rfl; have b1 : z139a = s139.2.2.1 109 111 := e139; first | (rw [← b0, ← b1, ← e_109_109, ← e_109_111]; exact n143c) | (rw [← b0, ← b1]; exact n143c)
                            have n143e : (u_109_28).toInt = 0 → (z111a).toInt + (z139a).toInt = (u_109_109).toInt + (u_109_111).toInt := by have a0 := in_u i76x29; have a1 := in_u ro_109_29; have a2 := in_u i12; have a3 := in_u ((inv_F hI 0 200 rfl e_109_111)); have a4 := in_u ((inv_F hI 0 400 rfl e_109_109)); have a5 := in_u h1; have a6 := in_u ((in_c 1 rfl)); have a7 := in_u i139a; have a8 := in_u i111a; have a9 := in_u i115x20; have a10 := t_sub e115x20 i115x4 (in_c 1 rfl) rfl; have a11 := in_u i115x4; omega
                            have n143f : (s.2.2.1 109 28).toInt = 0 → (s139.2.2.1 109 109).toInt + (s139.2.2.1 109 111).toInt = (s.2.2.1 109 109).toInt + (s.2.2.1 109 111).toInt := by have b0 : z111a = s139.2.2.1 109 109 := fr_F (e111) hF139 rfl; have b1 : z139a = s139.2.2.1 109 111 := e139; first | (rw [← b0, ← b1, ← e_109_28, ← e_109_109, ← e_109_111]; exact n143e) | (rw [← b0, ← b1]; exact n143e)
                            exact g_ireturn (gd rfl) rfl rfl (hP _ _ ⟨s139, hI139, (fr_tr rfl (fr_tr rfl fr_rf hF111) hF139), n143d, n143f, (Int32.ofInt 0), rfl, rfl, in_w 0 2 (in_c 0 rfl) rfl, n143, n143a, n143b⟩)
                          · skip
                            exact n_eq c122 (in_c 3 rfl) (in_c 1 rfl) rfl
                      · skip
                        have i115x4 := z_eq 0 0 c115x4 i111b rfl
                        refine g_iconst 0 8 (gd rfl) rfl rfl ?_
                        refine g_goto 22 (gd rfl) rfl ?_
                        refine g_ireturn (gd rfl) rfl rfl (hp115 _ _ ?_)
                        show GG _ _ _ _ _ _ _ _ [.int (Int32.ofInt 0)] _ _ _
                        refine g_calls (As := [.int (Int32.ofInt 0)]) (r := []) 121 (gd rfl) rfl rfl rfl rfl rfl (Nat.le_of_ble_eq_true rfl) (mc := 0) (ms := 0) (Nat.zero_le _) (Nat.zero_le _) (P := fun v u => _) ?_ (fun v u h => h)
                        intro po118 xx118 hp118 hx118
                        refine g_enter2 (k := 398) (N := 300) (by first | exact dq1 hd rfl | exact dq0 hd rfl | exact dq2 hd rfl | exact dq3 hd rfl | omega) rfl (Nat.le_of_ble_eq_true rfl) ?_
                        refine g_iload_n 1 (gd rfl) rfl rfl ?_
                        refine g_bipush 42 3 (gd rfl) rfl rfl ?_
                        refine g_cmp_ne 6 10 (gd rfl) rfl rfl (fun c118x3 => ?_) (fun c118x3 => ?_)
                        · skip
                          refine g_iload_n 11 (gd rfl) rfl rfl ?_
                          refine g_bipush 43 13 (gd rfl) rfl rfl ?_
                          refine g_cmp_eq 16 22 (gd rfl) rfl rfl (fun c118x13 => ?_) (fun c118x13 => ?_)
                          · skip
                            exact n_eq c118x13 (in_c 0 rfl) (in_c 43 rfl) rfl
                          · skip
                            refine g_iload_n 17 (gd rfl) rfl rfl ?_
                            refine g_bipush 45 19 (gd rfl) rfl rfl ?_
                            refine g_cmp_ne 22 26 (gd rfl) rfl rfl (fun c118x19 => ?_) (fun c118x19 => ?_)
                            · skip
                              refine g_iload_n 27 (gd rfl) rfl rfl ?_
                              refine g_bipush 60 29 (gd rfl) rfl rfl ?_
                              refine g_cmp_eq 32 38 (gd rfl) rfl rfl (fun c118x29 => ?_) (fun c118x29 => ?_)
                              · skip
                                exact n_eq c118x29 (in_c 0 rfl) (in_c 60 rfl) rfl
                              · skip
                                refine g_iload_n 33 (gd rfl) rfl rfl ?_
                                refine g_bipush 61 35 (gd rfl) rfl rfl ?_
                                refine g_cmp_ne 38 42 (gd rfl) rfl rfl (fun c118x35 => ?_) (fun c118x35 => ?_)
                                · skip
                                  refine g_iconst 0 43 (gd rfl) rfl rfl ?_
                                  refine g_ireturn (gd rfl) rfl rfl (hp118 _ _ ?_)
                                  show GG _ _ _ _ _ _ _ _ [.int (Int32.ofInt 0)] _ _ _
                                  refine g_iconst 1 122 (gd rfl) rfl rfl ?_
                                  refine g_cmp_ne 125 134 (gd rfl) rfl rfl (fun c122 => ?_) (fun c122 => ?_)
                                  · skip
                                    refine g_aload_n 135 (gd rfl) rfl rfl ?_
                                    refine g_aload_n 136 (gd rfl) rfl rfl ?_
                                    refine g_getI 139 (gd rfl) rfl rfl rfl (fun z136 e136 => ?_)
                                    have q136 : u_109_30 = z136 := (fr_F (e_109_30) hF111 rfl).trans e136.symm
                                    subst q136
                                    have n139 : (z111b).toInt ≤ 199 := by have a0 := in_u i76x29; have a1 := in_u ro_109_29; have a2 := in_u i12; have a3 := in_u ((inv_F hI 0 200 rfl e_109_111)); have a4 := in_u ((inv_F hI 0 400 rfl e_109_109)); have a5 := in_u h1; have a6 := in_u ((in_c 1 rfl)); have a7 := in_u i115x4; have a8 := in_u i111a; omega
                                    refine g_callv (X := _) (As := [.int u_109_30]) (r := []) (b := A 109) (q := 109) 142 (gd rfl) rfl rfl rfl rfl rfl (ww_o rfl) (Nat.le_of_ble_eq_true rfl) (Nat.zero_le _) (Nat.zero_le _) (k_396 (by first | exact dq1 hd rfl | exact dq0 hd rfl | exact dq2 hd rfl | exact dq3 hd rfl | omega) hI111 e111a n139) (fun e u h => h) (fun v u h => ?_)
                                    obtain ⟨s139, hI139, hF139, n139a, rfl, rfl, p139⟩ := h
                                    obtain ⟨z139a, e139⟩ : ∃ w, w = s139.2.2.1 109 111 := ⟨_, rfl⟩
                                    have i139a := inv_F hI139 0 200 rfl e139
                                    rw [← (show z111b = s111.2.2.1 109 111 from e111a)] at n139a
                                    rw [← (show z139a = s139.2.2.1 109 111 from e139)] at n139a
                                    show GG _ _ _ _ _ _ _ _ [] _ _ _
                                    refine g_iconst 0 143 (gd rfl) rfl rfl ?_
                                    have n143 : ((Int32.ofInt 0)).toInt = 0 → PR s s139 1 0 := by intro hR; first | (exfalso; revert hR; decide) | exact pr_tr p91 (pr_hold (hF99.1 187 rfl) (hF99.1 188 rfl) (hF99.2.2.1 109 109 rfl) (hF99.2.2.1 109 23 rfl) p99 (by rw [← e99, ← e91a]; exact n99a) (inv_F hI91 0 200 rfl rfl).1 (Or.inr ⟨by first | (have hi := i76x3; unfold In at hi; omega) | (have hi := i76x13; unfold In at hi; omega) | (have hi := i76x19; unfold In at hi; omega) | (have hi := i76x29; unfold In at hi; omega) | (have hi := i76x35; unfold In at hi; omega), rfl⟩)) | exact pr_tr p111 (pr_hold (hF139.1 187 rfl) (hF139.1 188 rfl) (hF139.2.2.1 109 109 rfl) (hF139.2.2.1 109 23 rfl) p139 (by rw [← e139, ← e111a]; exact n139a) (inv_F hI111 0 200 rfl rfl).1 (Or.inr ⟨by first | (have hi := i76x3; unfold In at hi; omega) | (have hi := i76x13; unfold In at hi; omega) | (have hi := i76x19; unfold In at hi; omega) | (have hi := i76x29; unfold In at hi; omega) | (have hi := i76x35; unfold In at hi; omega), rfl⟩)) | exact pr_tr p111 (pr_tr (b := 1) (pr_flt (hF131.1 187 rfl) (hF131.1 188 rfl) (hF131.2.2.1 109 109 rfl) (by rw [← e131]; omega)) (pr_hold (hF139.1 187 rfl) (hF139.1 188 rfl) (hF139.2.2.1 109 109 rfl) (hF139.2.2.1 109 23 rfl) p139 (by rw [← e139, ← (show z111b = s131.2.2.1 109 111 from fr_F e111a hF131 rfl)]; exact n139a) (inv_F hI131 0 200 rfl rfl).1 (Or.inr ⟨by first | (have hi := i76x3; unfold In at hi; omega) | (have hi := i76x13; unfold In at hi; omega) | (have hi := i76x19; unfold In at hi; omega) | (have hi := i76x29; unfold In at hi; omega) | (have hi := i76x35; unfold In at hi; omega), rfl⟩)))
                                    have n143a : ((Int32.ofInt 0)).toInt ≠ 0 → PR s s139 1 1 := by intro hR; first | (exact absurd rfl hR) | exact p26 | exact pr_tr p26 (pr_flt (hF59.1 187 rfl) (hF59.1 188 rfl) (hF59.2.2.1 109 109 rfl) (by rw [← e59]; omega)) | exact pr_tr p163 (pr_flt (hF181.1 187 rfl) (hF181.1 188 rfl) (hF181.2.2.1 109 109 rfl) (by rw [← e181]; omega)) | exact pr_flt (hF202.1 187 rfl) (hF202.1 188 rfl) (hF202.2.2.1 109 109 rfl) (by rw [← e202]; omega) | exact pr_tr p163 (pr_tr (pr_drop (x := z167x21) (b := z167x20) (hF187.1 187 rfl) (hF187.1 188 rfl) (hF187.2.2.1 109 109 rfl) (hF187.2.2.1 109 23 rfl) (hF187.1 190 rfl) (by rw [← e187]; have a0 := in_u i76x29; have a1 := in_u ro_109_29; have a2 := in_u i12; have a3 := in_u ((inv_F hI 0 200 rfl e_109_111)); have a4 := in_u ((inv_F hI 0 400 rfl e_109_109)); have a5 := in_u h1; have a6 := in_u ((in_c 1 rfl)); have a7 := in_u i139a; have a8 := in_u i111a; omega) (by rw [← e163a]; have a0 := in_u i76x29; have a1 := in_u ro_109_29; have a2 := in_u i12; have a3 := in_u ((inv_F hI 0 200 rfl e_109_111)); have a4 := in_u ((inv_F hI 0 400 rfl e_109_109)); have a5 := in_u h1; have a6 := in_u ((in_c 1 rfl)); have a7 := in_u i139a; have a8 := in_u i111a; omega) i167x20.1 e167x21 (Or.inr (c172.trans rfl))) p191)
                                    have n143b : (s.2.2.1 109 28).toInt = 0 → ((Int32.ofInt 0)).toInt = 2 := by rw [← e_109_28]; intro h0; first | rfl | (exfalso; have a0 := in_u i76x29; have a1 := in_u ro_109_29; have a2 := in_u i12; have a3 := in_u ((inv_F hI 0 200 rfl e_109_111)); have a4 := in_u ((inv_F hI 0 400 rfl e_109_109)); have a5 := in_u h1; have a6 := in_u ((in_c 1 rfl)); have a7 := in_u i139a; have a8 := in_u i111a; omega)
                                    have n143c : (z111a).toInt + (z139a).toInt ≤ (u_109_109).toInt + (u_109_111).toInt + 1 := by have a0 := in_u i76x29; have a1 := in_u ro_109_29; have a2 := in_u i12; have a3 := in_u ((inv_F hI 0 200 rfl e_109_111)); have a4 := in_u ((inv_F hI 0 400 rfl e_109_109)); have a5 := in_u h1; have a6 := in_u ((in_c 1 rfl)); have a7 := in_u i139a; have a8 := in_u i111a; omega
                                    have n143d : (s139.2.2.1 109 109).toInt + (s139.2.2.1 109 111).toInt ≤ (s.2.2.1 109 109).toInt + (s.2.2.1 109 111).toInt + 1 := by have b0 : z111a = s139.2.2.1 109 109 := fr_F (e111) hF139 rfl; have b1 : z139a = s139.2.2.1 109 111 := e139; first | (rw [← b0, ← b1, ← e_109_109, ← e_109_111]; exact n143c) | (rw [← b0, ← b1]; exact n143c)
                                    have n143e : (u_109_28).toInt = 0 → (z111a).toInt + (z139a).toInt = (u_109_109).toInt + (u_109_111).toInt := by have a0 := in_u i76x29; have a1 := in_u ro_109_29; have a2 := in_u i12; have a3 := in_u ((inv_F hI 0 200 rfl e_109_111)); have a4 := in_u ((inv_F hI 0 400 rfl e_109_109)); have a5 := in_u h1; have a6 := in_u ((in_c 1 rfl)); have a7 := in_u i139a; have a8 := in_u i111a; omega
                                    have n143f : (s.2.2.1 109 28).toInt = 0 → (s139.2.2.1 109 109).toInt + (s139.2.2.1 109 111).toInt = (s.2.2.1 109 109).toInt + (s.2.2.1 109 111).toInt := by have b0 : z111a = s139.2.2.1 109 109 := fr_F (e111) hF139 rfl; have b1 : z139a = s139.2.2.1 109 111 := e139; first | (rw [← b0, ← b1, ← e_109_28, ← e_109_109, ← e_109_111]; exact n143e) | (rw [← b0, ← b1]; exact n143e)
                                    exact g_ireturn (gd rfl) rfl rfl (hP _ _ ⟨s139, hI139, (fr_tr rfl (fr_tr rfl fr_rf hF111) hF139), n143d, n143f, (Int32.ofInt 0), rfl, rfl, in_w 0 2 (in_c 0 rfl) rfl, n143, n143a, n143b⟩)
                                  · skip
                                    exact n_eq c122 (in_c 0 rfl) (in_c 1 rfl) rfl
                                · skip
                                  exact n_eq c118x35 (in_c 0 rfl) (in_c 61 rfl) rfl
                            · skip
                              exact n_eq c118x19 (in_c 0 rfl) (in_c 45 rfl) rfl
                        · skip
                          exact n_eq c118x3 (in_c 0 rfl) (in_c 42 rfl) rfl
                  · skip
                    exact n_lt c86 (in_c 1 rfl) (in_c 1 rfl) rfl
                · skip
                  refine g_iload_n 33 (gd rfl) rfl rfl ?_
                  refine g_bipush 61 35 (gd rfl) rfl rfl ?_
                  refine g_cmp_ne 38 42 (gd rfl) rfl rfl (fun c76x35 => ?_) (fun c76x35 => ?_)
                  · skip
                    refine g_iconst 0 43 (gd rfl) rfl rfl ?_
                    refine g_ireturn (gd rfl) rfl rfl (hp76 _ _ ?_)
                    show GG _ _ _ _ _ _ _ _ [.int (Int32.ofInt 0)] _ _ _
                    refine g_goto 83 (gd rfl) rfl ?_
                    refine g_istore_n 84 (gd rfl) rfl (Nat.le_of_ble_eq_true rfl) ?_
                    refine g_iload_n 85 (gd rfl) rfl rfl ?_
                    refine g_iconst 1 86 (gd rfl) rfl rfl ?_
                    refine g_cmp_le 89 104 (gd rfl) rfl rfl (fun c86 => ?_) (fun c86 => ?_)
                    · skip
                      refine g_iload_n 105 (gd rfl) rfl rfl ?_
                      refine g_iconst 1 106 (gd rfl) rfl rfl ?_
                      refine g_cmp_ne 109 144 (gd rfl) rfl rfl (fun c106 => ?_) (fun c106 => ?_)
                      · skip
                        refine g_aload_n 145 (gd rfl) rfl rfl ?_
                        refine g_getI 148 (gd rfl) rfl rfl rfl (fun z145 e145 => ?_)
                        have q145 : u_109_28 = z145 := (e_109_28).trans e145.symm
                        subst q145
                        refine g_iconst 3 149 (gd rfl) rfl rfl ?_
                        refine g_cmp_ne 152 196 (gd rfl) rfl rfl (fun c149 => ?_) (fun c149 => ?_)
                        · skip
                          exact n_ne c149 i12 (in_c 3 rfl) rfl
                        · skip
                          refine g_aload_n 153 (gd rfl) rfl rfl ?_
                          refine g_getI 156 (gd rfl) rfl rfl rfl (fun z153 e153 => ?_)
                          have q153 : u_109_30 = z153 := (e_109_30).trans e153.symm
                          subst q153
                          refine g_bipush 41 158 (gd rfl) rfl rfl ?_
                          refine g_cmp_ne 161 196 (gd rfl) rfl rfl (fun c158 => ?_) (fun c158 => ?_)
                          · skip
                            refine g_aload_n 197 (gd rfl) rfl rfl ?_
                            refine g_iconst 2 198 (gd rfl) rfl rfl ?_
                            refine g_aload_n 199 (gd rfl) rfl rfl ?_
                            refine g_getI 202 (gd rfl) rfl rfl rfl (fun z199 e199 => ?_)
                            have q199 : u_109_29 = z199 := (e_109_29).trans e199.symm
                            subst q199
                            refine g_callv (X := _) (As := [.int (Int32.ofInt 2), .int u_109_29]) (r := []) (b := A 109) (q := 109) 205 (gd rfl) rfl rfl rfl rfl rfl (ww_o rfl) (Nat.le_of_ble_eq_true rfl) (Nat.zero_le _) (Nat.zero_le _) (k_298 (by first | exact dq1 hd rfl | exact dq0 hd rfl | exact dq2 hd rfl | exact dq3 hd rfl | omega) hI (in_w 1 5 (in_c 2 rfl) rfl)) (fun e u h => h) (fun v u h => ?_)
                            obtain ⟨s202, hI202, hF202, n202, rfl, rfl⟩ := h
                            obtain ⟨z202a, e202⟩ : ∃ w, w = s202.2.2.1 109 23 := ⟨_, rfl⟩
                            have i202a := inv_F hI202 0 9 rfl e202
                            rw [← (show z202a = s202.2.2.1 109 23 from e202)] at n202
                            show GG _ _ _ _ _ _ _ _ [] _ _ _
                            refine g_iconst 1 206 (gd rfl) rfl rfl ?_
                            have n206 : ((Int32.ofInt 1)).toInt = 0 → PR s s202 1 0 := by intro hR; first | (exfalso; revert hR; decide) | exact pr_tr p91 (pr_hold (hF99.1 187 rfl) (hF99.1 188 rfl) (hF99.2.2.1 109 109 rfl) (hF99.2.2.1 109 23 rfl) p99 (by rw [← e99, ← e91a]; exact n99a) (inv_F hI91 0 200 rfl rfl).1 (Or.inr ⟨by first | (have hi := i76x3; unfold In at hi; omega) | (have hi := i76x13; unfold In at hi; omega) | (have hi := i76x19; unfold In at hi; omega) | (have hi := i76x29; unfold In at hi; omega) | (have hi := i76x35; unfold In at hi; omega), rfl⟩)) | exact pr_tr p111 (pr_hold (hF139.1 187 rfl) (hF139.1 188 rfl) (hF139.2.2.1 109 109 rfl) (hF139.2.2.1 109 23 rfl) p139 (by rw [← e139, ← e111a]; exact n139a) (inv_F hI111 0 200 rfl rfl).1 (Or.inr ⟨by first | (have hi := i76x3; unfold In at hi; omega) | (have hi := i76x13; unfold In at hi; omega) | (have hi := i76x19; unfold In at hi; omega) | (have hi := i76x29; unfold In at hi; omega) | (have hi := i76x35; unfold In at hi; omega), rfl⟩)) | exact pr_tr p111 (pr_tr (b := 1) (pr_flt (hF131.1 187 rfl) (hF131.1 188 rfl) (hF131.2.2.1 109 109 rfl) (by rw [← e131]; omega)) (pr_hold (hF139.1 187 rfl) (hF139.1 188 rfl) (hF139.2.2.1 109 109 rfl) (hF139.2.2.1 109 23 rfl) p139 (by rw [← e139, ← (show z111b = s131.2.2.1 109 111 from fr_F e111a hF131 rfl)]; exact n139a) (inv_F hI131 0 200 rfl rfl).1 (Or.inr ⟨by first | (have hi := i76x3; unfold In at hi; omega) | (have hi := i76x13; unfold In at hi; omega) | (have hi := i76x19; unfold In at hi; omega) | (have hi := i76x29; unfold In at hi; omega) | (have hi := i76x35; unfold In at hi; omega), rfl⟩)))
                            have n206a : ((Int32.ofInt 1)).toInt ≠ 0 → PR s s202 1 1 := by intro hR; first | (exact absurd rfl hR) | exact p26 | exact pr_tr p26 (pr_flt (hF59.1 187 rfl) (hF59.1 188 rfl) (hF59.2.2.1 109 109 rfl) (by rw [← e59]; omega)) | exact pr_tr p163 (pr_flt (hF181.1 187 rfl) (hF181.1 188 rfl) (hF181.2.2.1 109 109 rfl) (by rw [← e181]; omega)) | exact pr_flt (hF202.1 187 rfl) (hF202.1 188 rfl) (hF202.2.2.1 109 109 rfl) (by rw [← e202]; omega) | exact pr_tr p163 (pr_tr (pr_drop (x := z167x21) (b := z167x20) (hF187.1 187 rfl) (hF187.1 188 rfl) (hF187.2.2.1 109 109 rfl) (hF187.2.2.1 109 23 rfl) (hF187.1 190 rfl) (by rw [← e187]; have a0 := in_u ro_109_29; have a1 := in_u i12; have a2 := in_u ((inv_F hI 0 200 rfl e_109_111)); have a3 := in_u ((inv_F hI 0 400 rfl e_109_109)); have a4 := in_u h1; have a5 := in_u ((in_c 0 rfl)); have a6 := in_u i202a; omega) (by rw [← e163a]; have a0 := in_u ro_109_29; have a1 := in_u i12; have a2 := in_u ((inv_F hI 0 200 rfl e_109_111)); have a3 := in_u ((inv_F hI 0 400 rfl e_109_109)); have a4 := in_u h1; have a5 := in_u ((in_c 0 rfl)); have a6 := in_u i202a; omega) i167x20.1 e167x21 (Or.inr (c172.trans rfl))) p191)
                            have n206b : (s.2.2.1 109 28).toInt = 0 → ((Int32.ofInt 1)).toInt = 2 := by rw [← e_109_28]; intro h0; first | rfl | (exfalso; have a0 := in_u ro_109_29; have a1 := in_u i12; have a2 := in_u ((inv_F hI 0 200 rfl e_109_111)); have a3 := in_u ((inv_F hI 0 400 rfl e_109_109)); have a4 := in_u h1; have a5 := in_u ((in_c 0 rfl)); have a6 := in_u i202a; omega)
                            have n206c : (u_109_109).toInt + (u_109_111).toInt ≤ (u_109_109).toInt + (u_109_111).toInt + 1 := by have a0 := in_u ro_109_29; have a1 := in_u i12; have a2 := in_u ((inv_F hI 0 200 rfl e_109_111)); have a3 := in_u ((inv_F hI 0 400 rfl e_109_109)); have a4 := in_u h1; have a5 := in_u ((in_c 0 rfl)); have a6 := in_u i202a; omega
                            have n206d : (s202.2.2.1 109 109).toInt + (s202.2.2.1 109 111).toInt ≤ (s.2.2.1 109 109).toInt + (s.2.2.1 109 111).toInt + 1 := by have b0 : u_109_109 = s202.2.2.1 109 109 := fr_F (e_109_109) hF202 rfl; have b1 : u_109_111 = s202.2.2.1 109 111 := fr_F (e_109_111) hF202 rfl; first | (rw [← b0, ← b1, ← e_109_109, ← e_109_111]; exact n206c) | (rw [← b0, ← b1]; exact n206c)
                            have n206e : (u_109_28).toInt = 0 → (u_109_109).toInt + (u_109_111).toInt = (u_109_109).toInt + (u_109_111).toInt := by have a0 := in_u ro_109_29; have a1 := in_u i12; have a2 := in_u ((inv_F hI 0 200 rfl e_109_111)); have a3 := in_u ((inv_F hI 0 400 rfl e_109_109)); have a4 := in_u h1; have a5 := in_u ((in_c 0 rfl)); have a6 := in_u i202a; omega
                            have n206f : (s.2.2.1 109 28).toInt = 0 → (s202.2.2.1 109 109).toInt + (s202.2.2.1 109 111).toInt = (s.2.2.1 109 109).toInt + (s.2.2.1 109 111).toInt := by have b0 : u_109_109 = s202.2.2.1 109 109 := fr_F (e_109_109) hF202 rfl; have b1 : u_109_111 = s202.2.2.1 109 111 := fr_F (e_109_111) hF202 rfl; first | (rw [← b0, ← b1, ← e_109_28, ← e_109_109, ← e_109_111]; exact n206e) | (rw [← b0, ← b1]; exact n206e)
                            exact g_ireturn (gd rfl) rfl rfl (hP _ _ ⟨s202, hI202, (fr_tr rfl fr_rf hF202), n206d, n206f, (Int32.ofInt 1), rfl, rfl, in_w 0 2 (in_c 1 rfl) rfl, n206, n206a, n206b⟩)
                          · skip
                            have i158 := r_eq1 41 41 c158 (i_rng u_109_30) (in_c 41 rfl) rfl
                            refine g_aload_n 162 (gd rfl) rfl rfl ?_
                            refine g_iconst 1 163 (gd rfl) rfl rfl ?_
                            have n163 : (u_109_109).toInt + (u_109_111).toInt ≤ 120 := by have a0 := in_u i158; have a1 := in_u ro_109_29; have a2 := in_u i12; have a3 := in_u ((inv_F hI 0 200 rfl e_109_111)); have a4 := in_u ((inv_F hI 0 400 rfl e_109_109)); have a5 := in_u h1; have a6 := in_u ((in_c 0 rfl)); omega
                            refine g_callv (X := _) (As := [.int (Int32.ofInt 1)]) (r := []) (b := A 109) (q := 109) 166 (gd rfl) rfl rfl rfl rfl rfl (ww_o rfl) (Nat.le_of_ble_eq_true rfl) (Nat.zero_le _) (Nat.zero_le _) (k_399 (by first | exact dq1 hd rfl | exact dq0 hd rfl | exact dq2 hd rfl | exact dq3 hd rfl | omega) hI (in_w 1 3 (in_c 1 rfl) rfl) e_109_109 e_109_111 n163) (fun e u h => h) (fun v u h => ?_)
                            obtain ⟨s163, hI163, hF163, n163a, rfl, rfl, p163⟩ := h
                            obtain ⟨z163a, e163⟩ : ∃ w, w = s163.2.2.1 109 109 := ⟨_, rfl⟩
                            have i163a := inv_F hI163 0 400 rfl e163
                            obtain ⟨z163b, e163a⟩ : ∃ w, w = s163.2.2.1 109 111 := ⟨_, rfl⟩
                            have i163b := inv_F hI163 0 200 rfl e163a
                            rw [← (show u_109_109 = s.2.2.1 109 109 from e_109_109)] at n163a
                            rw [← (show u_109_111 = s.2.2.1 109 111 from e_109_111)] at n163a
                            rw [← (show z163a = s163.2.2.1 109 109 from e163)] at n163a
                            rw [← (show z163b = s163.2.2.1 109 111 from e163a)] at n163a
                            show GG _ _ _ _ _ _ _ _ [] _ _ _
                            refine g_aload_n 167 (gd rfl) rfl rfl ?_
                            refine g_callv (X := _) (As := []) (r := []) (b := A 109) (q := 109) 170 (gd rfl) rfl rfl rfl rfl rfl (ww_o rfl) (Nat.le_of_ble_eq_true rfl) (mc := 0) (ms := 0) (Nat.zero_le _) (Nat.zero_le _) (P := fun v u => _) ?_ (fun e u h => h) (fun v u h => h)
                            intro po167 xx167 hp167 hx167
                            refine g_enter2 (k := 395) (N := 300) (by first | exact dq1 hd rfl | exact dq0 hd rfl | exact dq2 hd rfl | exact dq3 hd rfl | omega) rfl (Nat.le_of_ble_eq_true rfl) ?_
                            refine g_aload_n 1 (gd rfl) rfl rfl ?_
                            refine g_getI 4 (gd rfl) rfl rfl rfl (fun z167x1 e167x1 => ?_)
                            have q167x1 : z163b = z167x1 := (e163a).trans e167x1.symm
                            subst q167x1
                            refine g_if_ne 7 11 (gd rfl) rfl rfl (fun c167x4 => ?_) (fun c167x4 => ?_)
                            · skip
                              have i167x4 := z_ne 1 200 c167x4 i163b rfl
                              refine g_aload_n 12 (gd rfl) rfl rfl ?_
                              refine g_getA (q2 := 190) 15 (gd rfl) rfl rfl rfl rfl ?_
                              refine g_aload_n 16 (gd rfl) rfl rfl ?_
                              refine g_getI 19 (gd rfl) rfl rfl rfl (fun z167x16 e167x16 => ?_)
                              have q167x16 : z163b = z167x16 := (e163a).trans e167x16.symm
                              subst q167x16
                              refine g_iconst 1 20 (gd rfl) rfl rfl ?_
                              refine g_isub 21 (gd rfl) rfl (fun z167x20 e167x20 => ?_)
                              have i167x20 := in_sub 0 199 e167x20 i167x4 (in_c 1 rfl) rfl rfl
                              refine g_iaload 22 (gd rfl) rfl (n := 200) rfl (in_ix i167x20 rfl) (fun z167x21 e167x21 => ?_)
                              refine g_ireturn (gd rfl) rfl rfl (hp167 _ _ ?_)
                              show GG _ _ _ _ _ _ _ _ [.int z167x21] _ _ _
                              refine g_bipush 40 172 (gd rfl) rfl rfl ?_
                              refine g_cmp_eq 175 186 (gd rfl) rfl rfl (fun c172 => ?_) (fun c172 => ?_)
                              · skip
                                have i172 := r_eq1 40 40 c172 (i_rng z167x21) (in_c 40 rfl) rfl
                                refine g_aload_n 187 (gd rfl) rfl rfl ?_
                                have n187 : 1 ≤ (z163b).toInt := by have a0 := in_u i158; have a1 := in_u ro_109_29; have a2 := in_u i12; have a3 := in_u ((inv_F hI 0 200 rfl e_109_111)); have a4 := in_u ((inv_F hI 0 400 rfl e_109_109)); have a5 := in_u h1; have a6 := in_u ((in_c 0 rfl)); have a7 := in_u i167x4; have a8 := in_u i163a; have a9 := in_u i167x20; have a10 := t_sub e167x20 i167x4 (in_c 1 rfl) rfl; have a11 := in_u ((in_c 1 rfl)); omega
                                refine g_callv (X := _) (As := []) (r := []) (b := A 109) (q := 109) 190 (gd rfl) rfl rfl rfl rfl rfl (ww_o rfl) (Nat.le_of_ble_eq_true rfl) (Nat.zero_le _) (Nat.zero_le _) (k_397 (by first | exact dq1 hd rfl | exact dq0 hd rfl | exact dq2 hd rfl | exact dq3 hd rfl | omega) hI163 e163a n187) (fun e u h => h) (fun v u h => ?_)
                                obtain ⟨s187, hI187, hF187, n187a, rfl, rfl⟩ := h
                                obtain ⟨z187a, e187⟩ : ∃ w, w = s187.2.2.1 109 111 := ⟨_, rfl⟩
                                have i187a := inv_F hI187 0 200 rfl e187
                                rw [← (show z163b = s163.2.2.1 109 111 from e163a)] at n187a
                                rw [← (show z187a = s187.2.2.1 109 111 from e187)] at n187a
                                show GG _ _ _ _ _ _ _ _ [] _ _ _
                                refine g_aload_n 191 (gd rfl) rfl rfl ?_
                                have v191 : z163a = s187.2.2.1 109 109 := fr_F (e163) hF187 rfl
                                have n191 : (z163a).toInt + (z187a).toInt ≤ 120 := by have a0 := in_u i158; have a1 := in_u ro_109_29; have a2 := in_u i12; have a3 := in_u ((inv_F hI 0 200 rfl e_109_111)); have a4 := in_u ((inv_F hI 0 400 rfl e_109_109)); have a5 := in_u h1; have a6 := in_u ((in_c 0 rfl)); have a7 := in_u i187a; have a8 := in_u i163a; have a9 := in_u i167x20; have a10 := t_sub e167x20 i167x4 (in_c 1 rfl) rfl; have a11 := in_u ((in_c 1 rfl)); have a12 := in_u i167x4; omega
                                refine g_callv (X := _) (As := []) (r := []) (b := A 109) (q := 109) 194 (gd rfl) rfl rfl rfl rfl rfl (ww_o rfl) (Nat.le_of_ble_eq_true rfl) (Nat.zero_le _) (Nat.zero_le _) (k_400 (by first | exact dq1 hd rfl | exact dq0 hd rfl | exact dq2 hd rfl | exact dq3 hd rfl | omega) hI187 v191 e187 n191) (fun e u h => h) (fun v u h => ?_)
                                obtain ⟨s191, hI191, hF191, n191a, rfl, rfl, p191⟩ := h
                                obtain ⟨z191a, e191⟩ : ∃ w, w = s191.2.2.1 109 109 := ⟨_, rfl⟩
                                have i191a := inv_F hI191 0 400 rfl e191
                                obtain ⟨z191b, e191a⟩ : ∃ w, w = s191.2.2.1 109 111 := ⟨_, rfl⟩
                                have i191b := inv_F hI191 0 200 rfl e191a
                                rw [← (show z163a = s187.2.2.1 109 109 from fr_F (e163) hF187 rfl)] at n191a
                                rw [← (show z187a = s187.2.2.1 109 111 from e187)] at n191a
                                rw [← (show z191a = s191.2.2.1 109 109 from e191)] at n191a
                                rw [← (show z191b = s191.2.2.1 109 111 from e191a)] at n191a
                                show GG _ _ _ _ _ _ _ _ [] _ _ _
                                refine g_iconst 1 195 (gd rfl) rfl rfl ?_
                                have n195 : ((Int32.ofInt 1)).toInt = 0 → PR s s191 1 0 := by intro hR; first | (exfalso; revert hR; decide) | exact pr_tr p91 (pr_hold (hF99.1 187 rfl) (hF99.1 188 rfl) (hF99.2.2.1 109 109 rfl) (hF99.2.2.1 109 23 rfl) p99 (by rw [← e99, ← e91a]; exact n99a) (inv_F hI91 0 200 rfl rfl).1 (Or.inr ⟨by first | (have hi := i76x3; unfold In at hi; omega) | (have hi := i76x13; unfold In at hi; omega) | (have hi := i76x19; unfold In at hi; omega) | (have hi := i76x29; unfold In at hi; omega) | (have hi := i76x35; unfold In at hi; omega), rfl⟩)) | exact pr_tr p111 (pr_hold (hF139.1 187 rfl) (hF139.1 188 rfl) (hF139.2.2.1 109 109 rfl) (hF139.2.2.1 109 23 rfl) p139 (by rw [← e139, ← e111a]; exact n139a) (inv_F hI111 0 200 rfl rfl).1 (Or.inr ⟨by first | (have hi := i76x3; unfold In at hi; omega) | (have hi := i76x13; unfold In at hi; omega) | (have hi := i76x19; unfold In at hi; omega) | (have hi := i76x29; unfold In at hi; omega) | (have hi := i76x35; unfold In at hi; omega), rfl⟩)) | exact pr_tr p111 (pr_tr (b := 1) (pr_flt (hF131.1 187 rfl) (hF131.1 188 rfl) (hF131.2.2.1 109 109 rfl) (by rw [← e131]; omega)) (pr_hold (hF139.1 187 rfl) (hF139.1 188 rfl) (hF139.2.2.1 109 109 rfl) (hF139.2.2.1 109 23 rfl) p139 (by rw [← e139, ← (show z111b = s131.2.2.1 109 111 from fr_F e111a hF131 rfl)]; exact n139a) (inv_F hI131 0 200 rfl rfl).1 (Or.inr ⟨by first | (have hi := i76x3; unfold In at hi; omega) | (have hi := i76x13; unfold In at hi; omega) | (have hi := i76x19; unfold In at hi; omega) | (have hi := i76x29; unfold In at hi; omega) | (have hi := i76x35; unfold In at hi; omega), rfl⟩)))
                                have n195a : ((Int32.ofInt 1)).toInt ≠ 0 → PR s s191 1 1 := by intro hR; first | (exact absurd rfl hR) | exact p26 | exact pr_tr p26 (pr_flt (hF59.1 187 rfl) (hF59.1 188 rfl) (hF59.2.2.1 109 109 rfl) (by rw [← e59]; omega)) | exact pr_tr p163 (pr_flt (hF181.1 187 rfl) (hF181.1 188 rfl) (hF181.2.2.1 109 109 rfl) (by rw [← e181]; omega)) | exact pr_flt (hF202.1 187 rfl) (hF202.1 188 rfl) (hF202.2.2.1 109 109 rfl) (by rw [← e202]; omega) | exact pr_tr p163 (pr_tr (pr_drop (x := z167x21) (b := z167x20) (hF187.1 187 rfl) (hF187.1 188 rfl) (hF187.2.2.1 109 109 rfl) (hF187.2.2.1 109 23 rfl) (hF187.1 190 rfl) (by rw [← e187]; have a0 := in_u i158; have a1 := in_u ro_109_29; have a2 := in_u i12; have a3 := in_u ((inv_F hI 0 200 rfl e_109_111)); have a4 := in_u ((inv_F hI 0 400 rfl e_109_109)); have a5 := in_u h1; have a6 := in_u ((in_c 0 rfl)); have a7 := in_u i191b; have a8 := in_u i191a; have a9 := in_u i167x20; have a10 := t_sub e167x20 i167x4 (in_c 1 rfl) rfl; have a11 := in_u ((in_c 1 rfl)); have a12 := in_u i167x4; omega) (by rw [← e163a]; have a0 := in_u i158; have a1 := in_u ro_109_29; have a2 := in_u i12; have a3 := in_u ((inv_F hI 0 200 rfl e_109_111)); have a4 := in_u ((inv_F hI 0 400 rfl e_109_109)); have a5 := in_u h1; have a6 := in_u ((in_c 0 rfl)); have a7 := in_u i191b; have a8 := in_u i191a; have a9 := in_u i167x20; have a10 := t_sub e167x20 i167x4 (in_c 1 rfl) rfl; have a11 := in_u ((in_c 1 rfl)); have a12 := in_u i167x4; omega) i167x20.1 e167x21 (Or.inr (c172.trans rfl))) p191)
                                have n195b : (s.2.2.1 109 28).toInt = 0 → ((Int32.ofInt 1)).toInt = 2 := by rw [← e_109_28]; intro h0; first | rfl | (exfalso; have a0 := in_u i158; have a1 := in_u ro_109_29; have a2 := in_u i12; have a3 := in_u ((inv_F hI 0 200 rfl e_109_111)); have a4 := in_u ((inv_F hI 0 400 rfl e_109_109)); have a5 := in_u h1; have a6 := in_u ((in_c 0 rfl)); have a7 := in_u i191b; have a8 := in_u i191a; have a9 := in_u i167x20; have a10 := t_sub e167x20 i167x4 (in_c 1 rfl) rfl; have a11 := in_u ((in_c 1 rfl)); have a12 := in_u i167x4; omega)
                                have n195c : (z191a).toInt + (z191b).toInt ≤ (u_109_109).toInt + (u_109_111).toInt + 1 := by have a0 := in_u i158; have a1 := in_u ro_109_29; have a2 := in_u i12; have a3 := in_u ((inv_F hI 0 200 rfl e_109_111)); have a4 := in_u ((inv_F hI 0 400 rfl e_109_109)); have a5 := in_u h1; have a6 := in_u ((in_c 0 rfl)); have a7 := in_u i191b; have a8 := in_u i191a; have a9 := in_u i167x20; have a10 := t_sub e167x20 i167x4 (in_c 1 rfl) rfl; have a11 := in_u ((in_c 1 rfl)); have a12 := in_u i167x4; omega
                                have n195d : (s191.2.2.1 109 109).toInt + (s191.2.2.1 109 111).toInt ≤ (s.2.2.1 109 109).toInt + (s.2.2.1 109 111).toInt + 1 := by have b0 : z191a = s191.2.2.1 109 109 := e191; have b1 : z191b = s191.2.2.1 109 111 := e191a; first | (rw [← b0, ← b1, ← e_109_109, ← e_109_111]; exact n195c) | (rw [← b0, ← b1]; exact n195c)
                                have n195e : (u_109_28).toInt = 0 → (z191a).toInt + (z191b).toInt = (u_109_109).toInt + (u_109_111).toInt := by have a0 := in_u i158; have a1 := in_u ro_109_29; have a2 := in_u i12; have a3 := in_u ((inv_F hI 0 200 rfl e_109_111)); have a4 := in_u ((inv_F hI 0 400 rfl e_109_109)); have a5 := in_u h1; have a6 := in_u ((in_c 0 rfl)); have a7 := in_u i191b; have a8 := in_u i191a; have a9 := in_u i167x20; have a10 := t_sub e167x20 i167x4 (in_c 1 rfl) rfl; have a11 := in_u ((in_c 1 rfl)); have a12 := in_u i167x4; omega
                                have n195f : (s.2.2.1 109 28).toInt = 0 → (s191.2.2.1 109 109).toInt + (s191.2.2.1 109 111).toInt = (s.2.2.1 109 109).toInt + (s.2.2.1 109 111).toInt := by have b0 : z191a = s191.2.2.1 109 109 := e191; have b1 : z191b = s191.2.2.1 109 111 := e191a; first | (rw [← b0, ← b1, ← e_109_28, ← e_109_109, ← e_109_111]; exact n195e) | (rw [← b0, ← b1]; exact n195e)
                                exact g_ireturn (gd rfl) rfl rfl (hP _ _ ⟨s191, hI191, (fr_tr rfl (fr_tr rfl (fr_tr rfl fr_rf hF163) hF187) hF191), n195d, n195f, (Int32.ofInt 1), rfl, rfl, in_w 0 2 (in_c 1 rfl) rfl, n195, n195a, n195b⟩)
                              · skip
                                refine g_aload_n 176 (gd rfl) rfl rfl ?_
                                refine g_iconst 2 177 (gd rfl) rfl rfl ?_
                                refine g_aload_n 178 (gd rfl) rfl rfl ?_
                                refine g_getI 181 (gd rfl) rfl rfl rfl (fun z178 e178 => ?_)
                                have q178 : u_109_29 = z178 := (fr_F (e_109_29) hF163 rfl).trans e178.symm
                                subst q178
                                refine g_callv (X := _) (As := [.int (Int32.ofInt 2), .int u_109_29]) (r := []) (b := A 109) (q := 109) 184 (gd rfl) rfl rfl rfl rfl rfl (ww_o rfl) (Nat.le_of_ble_eq_true rfl) (Nat.zero_le _) (Nat.zero_le _) (k_298 (by first | exact dq1 hd rfl | exact dq0 hd rfl | exact dq2 hd rfl | exact dq3 hd rfl | omega) hI163 (in_w 1 5 (in_c 2 rfl) rfl)) (fun e u h => h) (fun v u h => ?_)
                                obtain ⟨s181, hI181, hF181, n181, rfl, rfl⟩ := h
                                obtain ⟨z181a, e181⟩ : ∃ w, w = s181.2.2.1 109 23 := ⟨_, rfl⟩
                                have i181a := inv_F hI181 0 9 rfl e181
                                rw [← (show z181a = s181.2.2.1 109 23 from e181)] at n181
                                show GG _ _ _ _ _ _ _ _ [] _ _ _
                                refine g_iconst 1 185 (gd rfl) rfl rfl ?_
                                have n185 : ((Int32.ofInt 1)).toInt = 0 → PR s s181 1 0 := by intro hR; first | (exfalso; revert hR; decide) | exact pr_tr p91 (pr_hold (hF99.1 187 rfl) (hF99.1 188 rfl) (hF99.2.2.1 109 109 rfl) (hF99.2.2.1 109 23 rfl) p99 (by rw [← e99, ← e91a]; exact n99a) (inv_F hI91 0 200 rfl rfl).1 (Or.inr ⟨by first | (have hi := i76x3; unfold In at hi; omega) | (have hi := i76x13; unfold In at hi; omega) | (have hi := i76x19; unfold In at hi; omega) | (have hi := i76x29; unfold In at hi; omega) | (have hi := i76x35; unfold In at hi; omega), rfl⟩)) | exact pr_tr p111 (pr_hold (hF139.1 187 rfl) (hF139.1 188 rfl) (hF139.2.2.1 109 109 rfl) (hF139.2.2.1 109 23 rfl) p139 (by rw [← e139, ← e111a]; exact n139a) (inv_F hI111 0 200 rfl rfl).1 (Or.inr ⟨by first | (have hi := i76x3; unfold In at hi; omega) | (have hi := i76x13; unfold In at hi; omega) | (have hi := i76x19; unfold In at hi; omega) | (have hi := i76x29; unfold In at hi; omega) | (have hi := i76x35; unfold In at hi; omega), rfl⟩)) | exact pr_tr p111 (pr_tr (b := 1) (pr_flt (hF131.1 187 rfl) (hF131.1 188 rfl) (hF131.2.2.1 109 109 rfl) (by rw [← e131]; omega)) (pr_hold (hF139.1 187 rfl) (hF139.1 188 rfl) (hF139.2.2.1 109 109 rfl) (hF139.2.2.1 109 23 rfl) p139 (by rw [← e139, ← (show z111b = s131.2.2.1 109 111 from fr_F e111a hF131 rfl)]; exact n139a) (inv_F hI131 0 200 rfl rfl).1 (Or.inr ⟨by first | (have hi := i76x3; unfold In at hi; omega) | (have hi := i76x13; unfold In at hi; omega) | (have hi := i76x19; unfold In at hi; omega) | (have hi := i76x29; unfold In at hi; omega) | (have hi := i76x35; unfold In at hi; omega), rfl⟩)))
                                have n185a : ((Int32.ofInt 1)).toInt ≠ 0 → PR s s181 1 1 := by intro hR; first | (exact absurd rfl hR) | exact p26 | exact pr_tr p26 (pr_flt (hF59.1 187 rfl) (hF59.1 188 rfl) (hF59.2.2.1 109 109 rfl) (by rw [← e59]; omega)) | exact pr_tr p163 (pr_flt (hF181.1 187 rfl) (hF181.1 188 rfl) (hF181.2.2.1 109 109 rfl) (by rw [← e181]; omega)) | exact pr_flt (hF202.1 187 rfl) (hF202.1 188 rfl) (hF202.2.2.1 109 109 rfl) (by rw [← e202]; omega) | exact pr_tr p163 (pr_tr (pr_drop (x := z167x21) (b := z167x20) (hF187.1 187 rfl) (hF187.1 188 rfl) (hF187.2.2.1 109 109 rfl) (hF187.2.2.1 109 23 rfl) (hF187.1 190 rfl) (by rw [← e187]; have a0 := in_u i158; have a1 := in_u ro_109_29; have a2 := in_u i12; have a3 := in_u ((inv_F hI 0 200 rfl e_109_111)); have a4 := in_u ((inv_F hI 0 400 rfl e_109_109)); have a5 := in_u h1; have a6 := in_u ((in_c 0 rfl)); have a7 := in_u i181a; have a8 := in_u i167x4; have a9 := in_u i163a; have a10 := in_u i167x20; have a11 := t_sub e167x20 i167x4 (in_c 1 rfl) rfl; have a12 := in_u ((in_c 1 rfl)); omega) (by rw [← e163a]; have a0 := in_u i158; have a1 := in_u ro_109_29; have a2 := in_u i12; have a3 := in_u ((inv_F hI 0 200 rfl e_109_111)); have a4 := in_u ((inv_F hI 0 400 rfl e_109_109)); have a5 := in_u h1; have a6 := in_u ((in_c 0 rfl)); have a7 := in_u i181a; have a8 := in_u i167x4; have a9 := in_u i163a; have a10 := in_u i167x20; have a11 := t_sub e167x20 i167x4 (in_c 1 rfl) rfl; have a12 := in_u ((in_c 1 rfl)); omega) i167x20.1 e167x21 (Or.inr (c172.trans rfl))) p191)
                                have n185b : (s.2.2.1 109 28).toInt = 0 → ((Int32.ofInt 1)).toInt = 2 := by rw [← e_109_28]; intro h0; first | rfl | (exfalso; have a0 := in_u i158; have a1 := in_u ro_109_29; have a2 := in_u i12; have a3 := in_u ((inv_F hI 0 200 rfl e_109_111)); have a4 := in_u ((inv_F hI 0 400 rfl e_109_109)); have a5 := in_u h1; have a6 := in_u ((in_c 0 rfl)); have a7 := in_u i181a; have a8 := in_u i167x4; have a9 := in_u i163a; have a10 := in_u i167x20; have a11 := t_sub e167x20 i167x4 (in_c 1 rfl) rfl; have a12 := in_u ((in_c 1 rfl)); omega)
                                have n185c : (z163a).toInt + (z163b).toInt ≤ (u_109_109).toInt + (u_109_111).toInt + 1 := by have a0 := in_u i158; have a1 := in_u ro_109_29; have a2 := in_u i12; have a3 := in_u ((inv_F hI 0 200 rfl e_109_111)); have a4 := in_u ((inv_F hI 0 400 rfl e_109_109)); have a5 := in_u h1; have a6 := in_u ((in_c 0 rfl)); have a7 := in_u i181a; have a8 := in_u i167x4; have a9 := in_u i163a; have a10 := in_u i167x20; have a11 := t_sub e167x20 i167x4 (in_c 1 rfl) rfl; have a12 := in_u ((in_c 1 rfl)); omega
                                have n185d : (s181.2.2.1 109 109).toInt + (s181.2.2.1 109 111).toInt ≤ (s.2.2.1 109 109).toInt + (s.2.2.1 109 111).toInt + 1 := by have b0 : z163a = s181.2.2.1 109 109 := fr_F (e163) hF181 rfl; have b1 : z163b = s181.2.2.1 109 111 := fr_F (e163a) hF181 rfl; first | (rw [← b0, ← b1, ← e_109_109, ← e_109_111]; exact n185c) | (rw [← b0, ← b1]; exact n185c)
                                have n185e : (u_109_28).toInt = 0 → (z163a).toInt + (z163b).toInt = (u_109_109).toInt + (u_109_111).toInt := by have a0 := in_u i158; have a1 := in_u ro_109_29; have a2 := in_u i12; have a3 := in_u ((inv_F hI 0 200 rfl e_109_111)); have a4 := in_u ((inv_F hI 0 400 rfl e_109_109)); have a5 := in_u h1; have a6 := in_u ((in_c 0 rfl)); have a7 := in_u i181a; have a8 := in_u i167x4; have a9 := in_u i163a; have a10 := in_u i167x20; have a11 := t_sub e167x20 i167x4 (in_c 1 rfl) rfl; have a12 := in_u ((in_c 1 rfl)); omega
                                have n185f : (s.2.2.1 109 28).toInt = 0 → (s181.2.2.1 109 109).toInt + (s181.2.2.1 109 111).toInt = (s.2.2.1 109 109).toInt + (s.2.2.1 109 111).toInt := by have b0 : z163a = s181.2.2.1 109 109 := fr_F (e163) hF181 rfl; have b1 : z163b = s181.2.2.1 109 111 := fr_F (e163a) hF181 rfl; first | (rw [← b0, ← b1, ← e_109_28, ← e_109_109, ← e_109_111]; exact n185e) | (rw [← b0, ← b1]; exact n185e)
                                exact g_ireturn (gd rfl) rfl rfl (hP _ _ ⟨s181, hI181, (fr_tr rfl (fr_tr rfl fr_rf hF163) hF181), n185d, n185f, (Int32.ofInt 1), rfl, rfl, in_w 0 2 (in_c 1 rfl) rfl, n185, n185a, n185b⟩)
                            · skip
                              have i167x4 := z_eq 0 0 c167x4 i163b rfl
                              refine g_iconst 0 8 (gd rfl) rfl rfl ?_
                              refine g_goto 22 (gd rfl) rfl ?_
                              refine g_ireturn (gd rfl) rfl rfl (hp167 _ _ ?_)
                              show GG _ _ _ _ _ _ _ _ [.int (Int32.ofInt 0)] _ _ _
                              refine g_bipush 40 172 (gd rfl) rfl rfl ?_
                              refine g_cmp_eq 175 186 (gd rfl) rfl rfl (fun c172 => ?_) (fun c172 => ?_)
                              · skip
                                exact n_eq c172 (in_c 0 rfl) (in_c 40 rfl) rfl
                              · skip
                                refine g_aload_n 176 (gd rfl) rfl rfl ?_
                                refine g_iconst 2 177 (gd rfl) rfl rfl ?_
                                refine g_aload_n 178 (gd rfl) rfl rfl ?_
                                refine g_getI 181 (gd rfl) rfl rfl rfl (fun z178 e178 => ?_)
                                have q178 : u_109_29 = z178 := (fr_F (e_109_29) hF163 rfl).trans e178.symm
                                subst q178
                                refine g_callv (X := _) (As := [.int (Int32.ofInt 2), .int u_109_29]) (r := []) (b := A 109) (q := 109) 184 (gd rfl) rfl rfl rfl rfl rfl (ww_o rfl) (Nat.le_of_ble_eq_true rfl) (Nat.zero_le _) (Nat.zero_le _) (k_298 (by first | exact dq1 hd rfl | exact dq0 hd rfl | exact dq2 hd rfl | exact dq3 hd rfl | omega) hI163 (in_w 1 5 (in_c 2 rfl) rfl)) (fun e u h => h) (fun v u h => ?_)
                                obtain ⟨s181, hI181, hF181, n181, rfl, rfl⟩ := h
                                obtain ⟨z181a, e181⟩ : ∃ w, w = s181.2.2.1 109 23 := ⟨_, rfl⟩
                                have i181a := inv_F hI181 0 9 rfl e181
                                rw [← (show z181a = s181.2.2.1 109 23 from e181)] at n181
                                show GG _ _ _ _ _ _ _ _ [] _ _ _
                                refine g_iconst 1 185 (gd rfl) rfl rfl ?_
                                have n185 : ((Int32.ofInt 1)).toInt = 0 → PR s s181 1 0 := by intro hR; first | (exfalso; revert hR; decide) | exact pr_tr p91 (pr_hold (hF99.1 187 rfl) (hF99.1 188 rfl) (hF99.2.2.1 109 109 rfl) (hF99.2.2.1 109 23 rfl) p99 (by rw [← e99, ← e91a]; exact n99a) (inv_F hI91 0 200 rfl rfl).1 (Or.inr ⟨by first | (have hi := i76x3; unfold In at hi; omega) | (have hi := i76x13; unfold In at hi; omega) | (have hi := i76x19; unfold In at hi; omega) | (have hi := i76x29; unfold In at hi; omega) | (have hi := i76x35; unfold In at hi; omega), rfl⟩)) | exact pr_tr p111 (pr_hold (hF139.1 187 rfl) (hF139.1 188 rfl) (hF139.2.2.1 109 109 rfl) (hF139.2.2.1 109 23 rfl) p139 (by rw [← e139, ← e111a]; exact n139a) (inv_F hI111 0 200 rfl rfl).1 (Or.inr ⟨by first | (have hi := i76x3; unfold In at hi; omega) | (have hi := i76x13; unfold In at hi; omega) | (have hi := i76x19; unfold In at hi; omega) | (have hi := i76x29; unfold In at hi; omega) | (have hi := i76x35; unfold In at hi; omega), rfl⟩)) | exact pr_tr p111 (pr_tr (b := 1) (pr_flt (hF131.1 187 rfl) (hF131.1 188 rfl) (hF131.2.2.1 109 109 rfl) (by rw [← e131]; omega)) (pr_hold (hF139.1 187 rfl) (hF139.1 188 rfl) (hF139.2.2.1 109 109 rfl) (hF139.2.2.1 109 23 rfl) p139 (by rw [← e139, ← (show z111b = s131.2.2.1 109 111 from fr_F e111a hF131 rfl)]; exact n139a) (inv_F hI131 0 200 rfl rfl).1 (Or.inr ⟨by first | (have hi := i76x3; unfold In at hi; omega) | (have hi := i76x13; unfold In at hi; omega) | (have hi := i76x19; unfold In at hi; omega) | (have hi := i76x29; unfold In at hi; omega) | (have hi := i76x35; unfold In at hi; omega), rfl⟩)))
                                have n185a : ((Int32.ofInt 1)).toInt ≠ 0 → PR s s181 1 1 := by intro hR; first | (exact absurd rfl hR) | exact p26 | exact pr_tr p26 (pr_flt (hF59.1 187 rfl) (hF59.1 188 rfl) (hF59.2.2.1 109 109 rfl) (by rw [← e59]; omega)) | exact pr_tr p163 (pr_flt (hF181.1 187 rfl) (hF181.1 188 rfl) (hF181.2.2.1 109 109 rfl) (by rw [← e181]; omega)) | exact pr_flt (hF202.1 187 rfl) (hF202.1 188 rfl) (hF202.2.2.1 109 109 rfl) (by rw [← e202]; omega) | exact pr_tr p163 (pr_tr (pr_drop (x := z167x21) (b := z167x20) (hF187.1 187 rfl) (hF187.1 188 rfl) (hF187.2.2.1 109 109 rfl) (hF187.2.2.1 109 23 rfl) (hF187.1 190 rfl) (by rw [← e187]; have a0 := in_u i158; have a1 := in_u ro_109_29; have a2 := in_u i12; have a3 := in_u ((inv_F hI 0 200 rfl e_109_111)); have a4 := in_u ((inv_F hI 0 400 rfl e_109_109)); have a5 := in_u h1; have a6 := in_u ((in_c 0 rfl)); have a7 := in_u i181a; have a8 := in_u i167x4; have a9 := in_u i163a; omega) (by rw [← e163a]; have a0 := in_u i158; have a1 := in_u ro_109_29; have a2 := in_u i12; have a3 := in_u ((inv_F hI 0 200 rfl e_109_111)); have a4 := in_u ((inv_F hI 0 400 rfl e_109_109)); have a5 := in_u h1; have a6 := in_u ((in_c 0 rfl)); have a7 := in_u i181a; have a8 := in_u i167x4; have a9 := in_u i163a; omega) i167x20.1 e167x21 (Or.inr (c172.trans rfl))) p191)
                                have n185b : (s.2.2.1 109 28).toInt = 0 → ((Int32.ofInt 1)).toInt = 2 := by rw [← e_109_28]; intro h0; first | rfl | (exfalso; have a0 := in_u i158; have a1 := in_u ro_109_29; have a2 := in_u i12; have a3 := in_u ((inv_F hI 0 200 rfl e_109_111)); have a4 := in_u ((inv_F hI 0 400 rfl e_109_109)); have a5 := in_u h1; have a6 := in_u ((in_c 0 rfl)); have a7 := in_u i181a; have a8 := in_u i167x4; have a9 := in_u i163a; omega)
                                have n185c : (z163a).toInt + (z163b).toInt ≤ (u_109_109).toInt + (u_109_111).toInt + 1 := by have a0 := in_u i158; have a1 := in_u ro_109_29; have a2 := in_u i12; have a3 := in_u ((inv_F hI 0 200 rfl e_109_111)); have a4 := in_u ((inv_F hI 0 400 rfl e_109_109)); have a5 := in_u h1; have a6 := in_u ((in_c 0 rfl)); have a7 := in_u i181a; have a8 := in_u i167x4; have a9 := in_u i163a; omega
                                have n185d : (s181.2.2.1 109 109).toInt + (s181.2.2.1 109 111).toInt ≤ (s.2.2.1 109 109).toInt + (s.2.2.1 109 111).toInt + 1 := by have b0 : z163a = s181.2.2.1 109 109 := fr_F (e163) hF181 rfl; have b1 : z163b = s181.2.2.1 109 111 := fr_F (e163a) hF181 rfl; first | (rw [← b0, ← b1, ← e_109_109, ← e_109_111]; exact n185c) | (rw [← b0, ← b1]; exact n185c)
                                have n185e : (u_109_28).toInt = 0 → (z163a).toInt + (z163b).toInt = (u_109_109).toInt + (u_109_111).toInt := by have a0 := in_u i158; have a1 := in_u ro_109_29; have a2 := in_u i12; have a3 := in_u ((inv_F hI 0 200 rfl e_109_111)); have a4 := in_u ((inv_F hI 0 400 rfl e_109_109)); have a5 := in_u h1; have a6 := in_u ((in_c 0 rfl)); have a7 := in_u i181a; have a8 := in_u i167x4; have a9 := in_u i163a; omega
                                have n185f : (s.2.2.1 109 28).toInt = 0 → (s181.2.2.1 109 109).toInt + (s181.2.2.1 109 111).toInt = (s.2.2.1 109 109).toInt + (s.2.2.1 109 111).toInt := by have b0 : z163a = s181.2.2.1 109 109 := fr_F (e163) hF181 rfl; have b1 : z163b = s181.2.2.1 109 111 := fr_F (e163a) hF181 rfl; first | (rw [← b0, ← b1, ← e_109_28, ← e_109_109, ← e_109_111]; exact n185e) | (rw [← b0, ← b1]; exact n185e)
                                exact g_ireturn (gd rfl) rfl rfl (hP _ _ ⟨s181, hI181, (fr_tr rfl (fr_tr rfl fr_rf hF163) hF181), n185d, n185f, (Int32.ofInt 1), rfl, rfl, in_w 0 2 (in_c 1 rfl) rfl, n185, n185a, n185b⟩)
                      · skip
                        exact n_eq c106 (in_c 0 rfl) (in_c 1 rfl) rfl
                    · skip
                      exact n_lt c86 (in_c 1 rfl) (in_c 0 rfl) rfl
                  · skip
                    have i76x35 := r_eq1 61 61 c76x35 (i_rng u_109_30) (in_c 61 rfl) rfl
                    refine g_iconst 1 39 (gd rfl) rfl rfl ?_
                    refine g_goto 43 (gd rfl) rfl ?_
                    refine g_ireturn (gd rfl) rfl rfl (hp76 _ _ ?_)
                    show GG _ _ _ _ _ _ _ _ [.int (Int32.ofInt 1)] _ _ _
                    refine g_goto 83 (gd rfl) rfl ?_
                    refine g_istore_n 84 (gd rfl) rfl (Nat.le_of_ble_eq_true rfl) ?_
                    refine g_iload_n 85 (gd rfl) rfl rfl ?_
                    refine g_iconst 1 86 (gd rfl) rfl rfl ?_
                    refine g_cmp_le 89 104 (gd rfl) rfl rfl (fun c86 => ?_) (fun c86 => ?_)
                    · skip
                      refine g_iload_n 105 (gd rfl) rfl rfl ?_
                      refine g_iconst 1 106 (gd rfl) rfl rfl ?_
                      refine g_cmp_ne 109 144 (gd rfl) rfl rfl (fun c106 => ?_) (fun c106 => ?_)
                      · skip
                        exact n_ne c106 (in_c 1 rfl) (in_c 1 rfl) rfl
                      · skip
                        refine g_aload_n 110 (gd rfl) rfl rfl ?_
                        refine g_iconst 2 111 (gd rfl) rfl rfl ?_
                        have n111 : (u_109_109).toInt + (u_109_111).toInt ≤ 120 := by have a0 := in_u i76x35; have a1 := in_u ro_109_29; have a2 := in_u i12; have a3 := in_u ((inv_F hI 0 200 rfl e_109_111)); have a4 := in_u ((inv_F hI 0 400 rfl e_109_109)); have a5 := in_u h1; have a6 := in_u ((in_c 1 rfl)); omega
                        refine g_callv (X := _) (As := [.int (Int32.ofInt 2)]) (r := []) (b := A 109) (q := 109) 114 (gd rfl) rfl rfl rfl rfl rfl (ww_o rfl) (Nat.le_of_ble_eq_true rfl) (Nat.zero_le _) (Nat.zero_le _) (k_399 (by first | exact dq1 hd rfl | exact dq0 hd rfl | exact dq2 hd rfl | exact dq3 hd rfl | omega) hI (in_w 1 3 (in_c 2 rfl) rfl) e_109_109 e_109_111 n111) (fun e u h => h) (fun v u h => ?_)
                        obtain ⟨s111, hI111, hF111, n111a, rfl, rfl, p111⟩ := h
                        obtain ⟨z111a, e111⟩ : ∃ w, w = s111.2.2.1 109 109 := ⟨_, rfl⟩
                        have i111a := inv_F hI111 0 400 rfl e111
                        obtain ⟨z111b, e111a⟩ : ∃ w, w = s111.2.2.1 109 111 := ⟨_, rfl⟩
                        have i111b := inv_F hI111 0 200 rfl e111a
                        rw [← (show u_109_109 = s.2.2.1 109 109 from e_109_109)] at n111a
                        rw [← (show u_109_111 = s.2.2.1 109 111 from e_109_111)] at n111a
                        rw [← (show z111a = s111.2.2.1 109 109 from e111)] at n111a
                        rw [← (show z111b = s111.2.2.1 109 111 from e111a)] at n111a
                        show GG _ _ _ _ _ _ _ _ [] _ _ _
                        refine g_aload_n 115 (gd rfl) rfl rfl ?_
                        refine g_callv (X := _) (As := []) (r := []) (b := A 109) (q := 109) 118 (gd rfl) rfl rfl rfl rfl rfl (ww_o rfl) (Nat.le_of_ble_eq_true rfl) (mc := 0) (ms := 0) (Nat.zero_le _) (Nat.zero_le _) (P := fun v u => _) ?_ (fun e u h => h) (fun v u h => h)
                        intro po115 xx115 hp115 hx115
                        refine g_enter2 (k := 395) (N := 300) (by first | exact dq1 hd rfl | exact dq0 hd rfl | exact dq2 hd rfl | exact dq3 hd rfl | omega) rfl (Nat.le_of_ble_eq_true rfl) ?_
                        refine g_aload_n 1 (gd rfl) rfl rfl ?_
                        refine g_getI 4 (gd rfl) rfl rfl rfl (fun z115x1 e115x1 => ?_)
                        have q115x1 : z111b = z115x1 := (e111a).trans e115x1.symm
                        subst q115x1
                        refine g_if_ne 7 11 (gd rfl) rfl rfl (fun c115x4 => ?_) (fun c115x4 => ?_)
                        · skip
                          have i115x4 := z_ne 1 200 c115x4 i111b rfl
                          refine g_aload_n 12 (gd rfl) rfl rfl ?_
                          refine g_getA (q2 := 190) 15 (gd rfl) rfl rfl rfl rfl ?_
                          refine g_aload_n 16 (gd rfl) rfl rfl ?_
                          refine g_getI 19 (gd rfl) rfl rfl rfl (fun z115x16 e115x16 => ?_)
                          have q115x16 : z111b = z115x16 := (e111a).trans e115x16.symm
                          subst q115x16
                          refine g_iconst 1 20 (gd rfl) rfl rfl ?_
                          refine g_isub 21 (gd rfl) rfl (fun z115x20 e115x20 => ?_)
                          have i115x20 := in_sub 0 199 e115x20 i115x4 (in_c 1 rfl) rfl rfl
                          refine g_iaload 22 (gd rfl) rfl (n := 200) rfl (in_ix i115x20 rfl) (fun z115x21 e115x21 => ?_)
                          refine g_ireturn (gd rfl) rfl rfl (hp115 _ _ ?_)
                          show GG _ _ _ _ _ _ _ _ [.int z115x21] _ _ _
                          refine g_calls (As := [.int z115x21]) (r := []) 121 (gd rfl) rfl rfl rfl rfl rfl (Nat.le_of_ble_eq_true rfl) (mc := 0) (ms := 0) (Nat.zero_le _) (Nat.zero_le _) (P := fun v u => _) ?_ (fun v u h => h)
                          intro po118 xx118 hp118 hx118
                          refine g_enter2 (k := 398) (N := 300) (by first | exact dq1 hd rfl | exact dq0 hd rfl | exact dq2 hd rfl | exact dq3 hd rfl | omega) rfl (Nat.le_of_ble_eq_true rfl) ?_
                          refine g_iload_n 1 (gd rfl) rfl rfl ?_
                          refine g_bipush 42 3 (gd rfl) rfl rfl ?_
                          refine g_cmp_ne 6 10 (gd rfl) rfl rfl (fun c118x3 => ?_) (fun c118x3 => ?_)
                          · skip
                            refine g_iload_n 11 (gd rfl) rfl rfl ?_
                            refine g_bipush 43 13 (gd rfl) rfl rfl ?_
                            refine g_cmp_eq 16 22 (gd rfl) rfl rfl (fun c118x13 => ?_) (fun c118x13 => ?_)
                            · skip
                              have i118x13 := r_eq1 43 43 c118x13 (i_rng z115x21) (in_c 43 rfl) rfl
                              refine g_iconst 2 23 (gd rfl) rfl rfl ?_
                              refine g_goto 43 (gd rfl) rfl ?_
                              refine g_ireturn (gd rfl) rfl rfl (hp118 _ _ ?_)
                              show GG _ _ _ _ _ _ _ _ [.int (Int32.ofInt 2)] _ _ _
                              refine g_iconst 1 122 (gd rfl) rfl rfl ?_
                              refine g_cmp_ne 125 134 (gd rfl) rfl rfl (fun c122 => ?_) (fun c122 => ?_)
                              · skip
                                refine g_aload_n 135 (gd rfl) rfl rfl ?_
                                refine g_aload_n 136 (gd rfl) rfl rfl ?_
                                refine g_getI 139 (gd rfl) rfl rfl rfl (fun z136 e136 => ?_)
                                have q136 : u_109_30 = z136 := (fr_F (e_109_30) hF111 rfl).trans e136.symm
                                subst q136
                                have n139 : (z111b).toInt ≤ 199 := by have a0 := in_u i76x35; have a1 := in_u ro_109_29; have a2 := in_u i12; have a3 := in_u ((inv_F hI 0 200 rfl e_109_111)); have a4 := in_u ((inv_F hI 0 400 rfl e_109_109)); have a5 := in_u h1; have a6 := in_u ((in_c 1 rfl)); have a7 := in_u i115x4; have a8 := in_u i111a; have a9 := in_u i115x20; have a10 := t_sub e115x20 i115x4 (in_c 1 rfl) rfl; omega
                                refine g_callv (X := _) (As := [.int u_109_30]) (r := []) (b := A 109) (q := 109) 142 (gd rfl) rfl rfl rfl rfl rfl (ww_o rfl) (Nat.le_of_ble_eq_true rfl) (Nat.zero_le _) (Nat.zero_le _) (k_396 (by first | exact dq1 hd rfl | exact dq0 hd rfl | exact dq2 hd rfl | exact dq3 hd rfl | omega) hI111 e111a n139) (fun e u h => h) (fun v u h => ?_)
                                obtain ⟨s139, hI139, hF139, n139a, rfl, rfl, p139⟩ := h
                                obtain ⟨z139a, e139⟩ : ∃ w, w = s139.2.2.1 109 111 := ⟨_, rfl⟩
                                have i139a := inv_F hI139 0 200 rfl e139
                                rw [← (show z111b = s111.2.2.1 109 111 from e111a)] at n139a
                                rw [← (show z139a = s139.2.2.1 109 111 from e139)] at n139a
                                show GG _ _ _ _ _ _ _ _ [] _ _ _
                                refine g_iconst 0 143 (gd rfl) rfl rfl ?_
                                have n143 : ((Int32.ofInt 0)).toInt = 0 → PR s s139 1 0 := by intro hR; first | (exfalso; revert hR; decide) | exact pr_tr p91 (pr_hold (hF99.1 187 rfl) (hF99.1 188 rfl) (hF99.2.2.1 109 109 rfl) (hF99.2.2.1 109 23 rfl) p99 (by rw [← e99, ← e91a]; exact n99a) (inv_F hI91 0 200 rfl rfl).1 (Or.inr ⟨by first | (have hi := i76x3; unfold In at hi; omega) | (have hi := i76x13; unfold In at hi; omega) | (have hi := i76x19; unfold In at hi; omega) | (have hi := i76x29; unfold In at hi; omega) | (have hi := i76x35; unfold In at hi; omega), rfl⟩)) | exact pr_tr p111 (pr_hold (hF139.1 187 rfl) (hF139.1 188 rfl) (hF139.2.2.1 109 109 rfl) (hF139.2.2.1 109 23 rfl) p139 (by rw [← e139, ← e111a]; exact n139a) (inv_F hI111 0 200 rfl rfl).1 (Or.inr ⟨by first | (have hi := i76x3; unfold In at hi; omega) | (have hi := i76x13; unfold In at hi; omega) | (have hi := i76x19; unfold In at hi; omega) | (have hi := i76x29; unfold In at hi; omega) | (have hi := i76x35; unfold In at hi; omega), rfl⟩)) | exact pr_tr p111 (pr_tr (b := 1) (pr_flt (hF131.1 187 rfl) (hF131.1 188 rfl) (hF131.2.2.1 109 109 rfl) (by rw [← e131]; omega)) (pr_hold (hF139.1 187 rfl) (hF139.1 188 rfl) (hF139.2.2.1 109 109 rfl) (hF139.2.2.1 109 23 rfl) p139 (by rw [← e139, ← (show z111b = s131.2.2.1 109 111 from fr_F e111a hF131 rfl)]; exact n139a) (inv_F hI131 0 200 rfl rfl).1 (Or.inr ⟨by first | (have hi := i76x3; unfold In at hi; omega) | (have hi := i76x13; unfold In at hi; omega) | (have hi := i76x19; unfold In at hi; omega) | (have hi := i76x29; unfold In at hi; omega) | (have hi := i76x35; unfold In at hi; omega), rfl⟩)))
                                have n143a : ((Int32.ofInt 0)).toInt ≠ 0 → PR s s139 1 1 := by intro hR; first | (exact absurd rfl hR) | exact p26 | exact pr_tr p26 (pr_flt (hF59.1 187 rfl) (hF59.1 188 rfl) (hF59.2.2.1 109 109 rfl) (by rw [← e59]; omega)) | exact pr_tr p163 (pr_flt (hF181.1 187 rfl) (hF181.1 188 rfl) (hF181.2.2.1 109 109 rfl) (by rw [← e181]; omega)) | exact pr_flt (hF202.1 187 rfl) (hF202.1 188 rfl) (hF202.2.2.1 109 109 rfl) (by rw [← e202]; omega) | exact pr_tr p163 (pr_tr (pr_drop (x := z167x21) (b := z167x20) (hF187.1 187 rfl) (hF187.1 188 rfl) (hF187.2.2.1 109 109 rfl) (hF187.2.2.1 109 23 rfl) (hF187.1 190 rfl) (by rw [← e187]; have a0 := in_u i76x35; have a1 := in_u ro_109_29; have a2 := in_u i12; have a3 := in_u ((inv_F hI 0 200 rfl e_109_111)); have a4 := in_u ((inv_F hI 0 400 rfl e_109_109)); have a5 := in_u h1; have a6 := in_u ((in_c 1 rfl)); have a7 := in_u i139a; have a8 := in_u i111a; have a9 := in_u i115x20; have a10 := t_sub e115x20 i115x4 (in_c 1 rfl) rfl; have a11 := in_u i115x4; omega) (by rw [← e163a]; have a0 := in_u i76x35; have a1 := in_u ro_109_29; have a2 := in_u i12; have a3 := in_u ((inv_F hI 0 200 rfl e_109_111)); have a4 := in_u ((inv_F hI 0 400 rfl e_109_109)); have a5 := in_u h1; have a6 := in_u ((in_c 1 rfl)); have a7 := in_u i139a; have a8 := in_u i111a; have a9 := in_u i115x20; have a10 := t_sub e115x20 i115x4 (in_c 1 rfl) rfl; have a11 := in_u i115x4; omega) i167x20.1 e167x21 (Or.inr (c172.trans rfl))) p191)
                                have n143b : (s.2.2.1 109 28).toInt = 0 → ((Int32.ofInt 0)).toInt = 2 := by rw [← e_109_28]; intro h0; first | rfl | (exfalso; have a0 := in_u i76x35; have a1 := in_u ro_109_29; have a2 := in_u i12; have a3 := in_u ((inv_F hI 0 200 rfl e_109_111)); have a4 := in_u ((inv_F hI 0 400 rfl e_109_109)); have a5 := in_u h1; have a6 := in_u ((in_c 1 rfl)); have a7 := in_u i139a; have a8 := in_u i111a; have a9 := in_u i115x20; have a10 := t_sub e115x20 i115x4 (in_c 1 rfl) rfl; have a11 := in_u i115x4; omega)
                                have n143c : (z111a).toInt + (z139a).toInt ≤ (u_109_109).toInt + (u_109_111).toInt + 1 := by have a0 := in_u i76x35; have a1 := in_u ro_109_29; have a2 := in_u i12; have a3 := in_u ((inv_F hI 0 200 rfl e_109_111)); have a4 := in_u ((inv_F hI 0 400 rfl e_109_109)); have a5 := in_u h1; have a6 := in_u ((in_c 1 rfl)); have a7 := in_u i139a; have a8 := in_u i111a; have a9 := in_u i115x20; have a10 := t_sub e115x20 i115x4 (in_c 1 rfl) rfl; have a11 := in_u i115x4; omega
                                have n143d : (s139.2.2.1 109 109).toInt + (s139.2.2.1 109 111).toInt ≤ (s.2.2.1 109 109).toInt + (s.2.2.1 109 111).toInt + 1 := by have b0 : z111a = s139.2.2.1 109 109 := fr_F (e111) hF139 rfl; have b1 : z139a = s139.2.2.1 109 111 := e139; first | (rw [← b0, ← b1, ← e_109_109, ← e_109_111]; exact n143c) | (rw [← b0, ← b1]; exact n143c)
                                have n143e : (u_109_28).toInt = 0 → (z111a).toInt + (z139a).toInt = (u_109_109).toInt + (u_109_111).toInt := by have a0 := in_u i76x35; have a1 := in_u ro_109_29; have a2 := in_u i12; have a3 := in_u ((inv_F hI 0 200 rfl e_109_111)); have a4 := in_u ((inv_F hI 0 400 rfl e_109_109)); have a5 := in_u h1; have a6 := in_u ((in_c 1 rfl)); have a7 := in_u i139a; have a8 := in_u i111a; have a9 := in_u i115x20; have a10 := t_sub e115x20 i115x4 (in_c 1 rfl) rfl; have a11 := in_u i115x4; omega
                                have n143f : (s.2.2.1 109 28).toInt = 0 → (s139.2.2.1 109 109).toInt + (s139.2.2.1 109 111).toInt = (s.2.2.1 109 109).toInt + (s.2.2.1 109 111).toInt := by have b0 : z111a = s139.2.2.1 109 109 := fr_F (e111) hF139 rfl; have b1 : z139a = s139.2.2.1 109 111 := e139; first | (rw [← b0, ← b1, ← e_109_28, ← e_109_109, ← e_109_111]; exact n143e) | (rw [← b0, ← b1]; exact n143e)
                                exact g_ireturn (gd rfl) rfl rfl (hP _ _ ⟨s139, hI139, (fr_tr rfl (fr_tr rfl fr_rf hF111) hF139), n143d, n143f, (Int32.ofInt 0), rfl, rfl, in_w 0 2 (in_c 0 rfl) rfl, n143, n143a, n143b⟩)
                              · skip
                                exact n_eq c122 (in_c 2 rfl) (in_c 1 rfl) rfl
                            · skip
                              refine g_iload_n 17 (gd rfl) rfl rfl ?_
                              refine g_bipush 45 19 (gd rfl) rfl rfl ?_
                              refine g_cmp_ne 22 26 (gd rfl) rfl rfl (fun c118x19 => ?_) (fun c118x19 => ?_)
                              · skip
                                refine g_iload_n 27 (gd rfl) rfl rfl ?_
                                refine g_bipush 60 29 (gd rfl) rfl rfl ?_
                                refine g_cmp_eq 32 38 (gd rfl) rfl rfl (fun c118x29 => ?_) (fun c118x29 => ?_)
                                · skip
                                  have i118x29 := r_eq1 60 60 c118x29 (i_rng z115x21) (in_c 60 rfl) rfl
                                  refine g_iconst 1 39 (gd rfl) rfl rfl ?_
                                  refine g_goto 43 (gd rfl) rfl ?_
                                  refine g_ireturn (gd rfl) rfl rfl (hp118 _ _ ?_)
                                  show GG _ _ _ _ _ _ _ _ [.int (Int32.ofInt 1)] _ _ _
                                  refine g_iconst 1 122 (gd rfl) rfl rfl ?_
                                  refine g_cmp_ne 125 134 (gd rfl) rfl rfl (fun c122 => ?_) (fun c122 => ?_)
                                  · skip
                                    exact n_ne c122 (in_c 1 rfl) (in_c 1 rfl) rfl
                                  · skip
                                    refine g_aload_n 126 (gd rfl) rfl rfl ?_
                                    refine g_iconst 2 127 (gd rfl) rfl rfl ?_
                                    refine g_aload_n 128 (gd rfl) rfl rfl ?_
                                    refine g_getI 131 (gd rfl) rfl rfl rfl (fun z128 e128 => ?_)
                                    have q128 : u_109_29 = z128 := (fr_F (e_109_29) hF111 rfl).trans e128.symm
                                    subst q128
                                    refine g_callv (X := _) (As := [.int (Int32.ofInt 2), .int u_109_29]) (r := []) (b := A 109) (q := 109) 134 (gd rfl) rfl rfl rfl rfl rfl (ww_o rfl) (Nat.le_of_ble_eq_true rfl) (Nat.zero_le _) (Nat.zero_le _) (k_298 (by first | exact dq1 hd rfl | exact dq0 hd rfl | exact dq2 hd rfl | exact dq3 hd rfl | omega) hI111 (in_w 1 5 (in_c 2 rfl) rfl)) (fun e u h => h) (fun v u h => ?_)
                                    obtain ⟨s131, hI131, hF131, n131, rfl, rfl⟩ := h
                                    obtain ⟨z131a, e131⟩ : ∃ w, w = s131.2.2.1 109 23 := ⟨_, rfl⟩
                                    have i131a := inv_F hI131 0 9 rfl e131
                                    rw [← (show z131a = s131.2.2.1 109 23 from e131)] at n131
                                    show GG _ _ _ _ _ _ _ _ [] _ _ _
                                    refine g_aload_n 135 (gd rfl) rfl rfl ?_
                                    refine g_aload_n 136 (gd rfl) rfl rfl ?_
                                    refine g_getI 139 (gd rfl) rfl rfl rfl (fun z136 e136 => ?_)
                                    have q136 : u_109_30 = z136 := (fr_F (fr_F (e_109_30) hF111 rfl) hF131 rfl).trans e136.symm
                                    subst q136
                                    have v139 : z111b = s131.2.2.1 109 111 := fr_F (e111a) hF131 rfl
                                    have n139 : (z111b).toInt ≤ 199 := by have a0 := in_u i76x35; have a1 := in_u ro_109_29; have a2 := in_u i12; have a3 := in_u ((inv_F hI 0 200 rfl e_109_111)); have a4 := in_u ((inv_F hI 0 400 rfl e_109_109)); have a5 := in_u h1; have a6 := in_u ((in_c 1 rfl)); have a7 := in_u i131a; have a8 := in_u i115x4; have a9 := in_u i111a; have a10 := in_u i115x20; have a11 := t_sub e115x20 i115x4 (in_c 1 rfl) rfl; omega
                                    refine g_callv (X := _) (As := [.int u_109_30]) (r := []) (b := A 109) (q := 109) 142 (gd rfl) rfl rfl rfl rfl rfl (ww_o rfl) (Nat.le_of_ble_eq_true rfl) (Nat.zero_le _) (Nat.zero_le _) (k_396 (by first | exact dq1 hd rfl | exact dq0 hd rfl | exact dq2 hd rfl | exact dq3 hd rfl | omega) hI131 v139 n139) (fun e u h => h) (fun v u h => ?_)
                                    obtain ⟨s139, hI139, hF139, n139a, rfl, rfl, p139⟩ := h
                                    obtain ⟨z139a, e139⟩ : ∃ w, w = s139.2.2.1 109 111 := ⟨_, rfl⟩
                                    have i139a := inv_F hI139 0 200 rfl e139
                                    rw [← (show z111b = s131.2.2.1 109 111 from fr_F (e111a) hF131 rfl)] at n139a
                                    rw [← (show z139a = s139.2.2.1 109 111 from e139)] at n139a
                                    show GG _ _ _ _ _ _ _ _ [] _ _ _
                                    refine g_iconst 0 143 (gd rfl) rfl rfl ?_
                                    have n143 : ((Int32.ofInt 0)).toInt = 0 → PR s s139 1 0 := by intro hR; first | (exfalso; revert hR; decide) | exact pr_tr p91 (pr_hold (hF99.1 187 rfl) (hF99.1 188 rfl) (hF99.2.2.1 109 109 rfl) (hF99.2.2.1 109 23 rfl) p99 (by rw [← e99, ← e91a]; exact n99a) (inv_F hI91 0 200 rfl rfl).1 (Or.inr ⟨by first | (have hi := i76x3; unfold In at hi; omega) | (have hi := i76x13; unfold In at hi; omega) | (have hi := i76x19; unfold In at hi; omega) | (have hi := i76x29; unfold In at hi; omega) | (have hi := i76x35; unfold In at hi; omega), rfl⟩)) | exact pr_tr p111 (pr_hold (hF139.1 187 rfl) (hF139.1 188 rfl) (hF139.2.2.1 109 109 rfl) (hF139.2.2.1 109 23 rfl) p139 (by rw [← e139, ← e111a]; exact n139a) (inv_F hI111 0 200 rfl rfl).1 (Or.inr ⟨by first | (have hi := i76x3; unfold In at hi; omega) | (have hi := i76x13; unfold In at hi; omega) | (have hi := i76x19; unfold In at hi; omega) | (have hi := i76x29; unfold In at hi; omega) | (have hi := i76x35; unfold In at hi; omega), rfl⟩)) | exact pr_tr p111 (pr_tr (b := 1) (pr_flt (hF131.1 187 rfl) (hF131.1 188 rfl) (hF131.2.2.1 109 109 rfl) (by rw [← e131]; omega)) (pr_hold (hF139.1 187 rfl) (hF139.1 188 rfl) (hF139.2.2.1 109 109 rfl) (hF139.2.2.1 109 23 rfl) p139 (by rw [← e139, ← (show z111b = s131.2.2.1 109 111 from fr_F e111a hF131 rfl)]; exact n139a) (inv_F hI131 0 200 rfl rfl).1 (Or.inr ⟨by first | (have hi := i76x3; unfold In at hi; omega) | (have hi := i76x13; unfold In at hi; omega) | (have hi := i76x19; unfold In at hi; omega) | (have hi := i76x29; unfold In at hi; omega) | (have hi := i76x35; unfold In at hi; omega), rfl⟩)))
                                    have n143a : ((Int32.ofInt 0)).toInt ≠ 0 → PR s s139 1 1 := by intro hR; first | (exact absurd rfl hR) | exact p26 | exact pr_tr p26 (pr_flt (hF59.1 187 rfl) (hF59.1 188 rfl) (hF59.2.2.1 109 109 rfl) (by rw [← e59]; omega)) | exact pr_tr p163 (pr_flt (hF181.1 187 rfl) (hF181.1 188 rfl) (hF181.2.2.1 109 109 rfl) (by rw [← e181]; omega)) | exact pr_flt (hF202.1 187 rfl) (hF202.1 188 rfl) (hF202.2.2.1 109 109 rfl) (by rw [← e202]; omega) | exact pr_tr p163 (pr_tr (pr_drop (x := z167x21) (b := z167x20) (hF187.1 187 rfl) (hF187.1 188 rfl) (hF187.2.2.1 109 109 rfl) (hF187.2.2.1 109 23 rfl) (hF187.1 190 rfl) (by rw [← e187]; have a0 := in_u i76x35; have a1 := in_u ro_109_29; have a2 := in_u i12; have a3 := in_u ((inv_F hI 0 200 rfl e_109_111)); have a4 := in_u ((inv_F hI 0 400 rfl e_109_109)); have a5 := in_u h1; have a6 := in_u ((in_c 1 rfl)); have a7 := in_u i139a; have a8 := in_u i131a; have a9 := in_u i111a; have a10 := in_u i115x20; have a11 := t_sub e115x20 i115x4 (in_c 1 rfl) rfl; have a12 := in_u i115x4; omega) (by rw [← e163a]; have a0 := in_u i76x35; have a1 := in_u ro_109_29; have a2 := in_u i12; have a3 := in_u ((inv_F hI 0 200 rfl e_109_111)); have a4 := in_u ((inv_F hI 0 400 rfl e_109_109)); have a5 := in_u h1; have a6 := in_u ((in_c 1 rfl)); have a7 := in_u i139a; have a8 := in_u i131a; have a9 := in_u i111a; have a10 := in_u i115x20; have a11 := t_sub e115x20 i115x4 (in_c 1 rfl) rfl; have a12 := in_u i115x4; omega) i167x20.1 e167x21 (Or.inr (c172.trans rfl))) p191)
                                    have n143b : (s.2.2.1 109 28).toInt = 0 → ((Int32.ofInt 0)).toInt = 2 := by rw [← e_109_28]; intro h0; first | rfl | (exfalso; have a0 := in_u i76x35; have a1 := in_u ro_109_29; have a2 := in_u i12; have a3 := in_u ((inv_F hI 0 200 rfl e_109_111)); have a4 := in_u ((inv_F hI 0 400 rfl e_109_109)); have a5 := in_u h1; have a6 := in_u ((in_c 1 rfl)); have a7 := in_u i139a; have a8 := in_u i131a; have a9 := in_u i111a; have a10 := in_u i115x20; have a11 := t_sub e115x20 i115x4 (in_c 1 rfl) rfl; have a12 := in_u i115x4; omega)
                                    have n143c : (z111a).toInt + (z139a).toInt ≤ (u_109_109).toInt + (u_109_111).toInt + 1 := by have a0 := in_u i76x35; have a1 := in_u ro_109_29; have a2 := in_u i12; have a3 := in_u ((inv_F hI 0 200 rfl e_109_111)); have a4 := in_u ((inv_F hI 0 400 rfl e_109_109)); have a5 := in_u h1; have a6 := in_u ((in_c 1 rfl)); have a7 := in_u i139a; have a8 := in_u i131a; have a9 := in_u i111a; have a10 := in_u i115x20; have a11 := t_sub e115x20 i115x4 (in_c 1 rfl) rfl; have a12 := in_u i115x4; omega
                                    have n143d : (s139.2.2.1 109 109).toInt + (s139.2.2.1 109 111).toInt ≤ (s.2.2.1 109 109).toInt + (s.2.2.1 109 111).toInt + 1 := by have b0 : z111a = s139.2.2.1 109 109 := fr_F (fr_F (e111) hF131 rfl) hF139 rfl; have b1 : z139a = s139.2.2.1 109 111 := e139; first | (rw [← b0, ← b1, ← e_109_109, ← e_109_111]; exact n143c) | (rw [← b0, ← b1]; exact n143c)
                                    have n143e : (u_109_28).toInt = 0 → (z111a).toInt + (z139a).toInt = (u_109_109).toInt + (u_109_111).toInt := by have a0 := in_u i76x35; have a1 := in_u ro_109_29; have a2 := in_u i12; have a3 := in_u ((inv_F hI 0 200 rfl e_109_111)); have a4 := in_u ((inv_F hI 0 400 rfl e_109_109)); have a5 := in_u h1; have a6 := in_u ((in_c 1 rfl)); have a7 := in_u i139a; have a8 := in_u i131a; have a9 := in_u i111a; have a10 := in_u i115x20; have a11 := t_sub e115x20 i115x4 (in_c 1 rfl) rfl; have a12 := in_u i115x4; omega
                                    have n143f : (s.2.2.1 109 28).toInt = 0 → (s139.2.2.1 109 109).toInt + (s139.2.2.1 109 111).toInt = (s.2.2.1 109 109).toInt + (s.2.2.1 109 111).toInt := by have b0 : z111a = s139.2.2.1 109 109 := fr_F (fr_F (e111) hF131 rfl) hF139 rfl; have b1 : z139a = s139.2.2.1 109 111 := e139; first | (rw [← b0, ← b1, ← e_109_28, ← e_109_109, ← e_109_111]; exact n143e) | (rw [← b0, ← b1]; exact n143e)
                                    exact g_ireturn (gd rfl) rfl rfl (hP _ _ ⟨s139, hI139, (fr_tr rfl (fr_tr rfl (fr_tr rfl fr_rf hF111) hF131) hF139), n143d, n143f, (Int32.ofInt 0), rfl, rfl, in_w 0 2 (in_c 0 rfl) rfl, n143, n143a, n143b⟩)
                                · skip
                                  refine g_iload_n 33 (gd rfl) rfl rfl ?_
                                  refine g_bipush 61 35 (gd rfl) rfl rfl ?_
                                  refine g_cmp_ne 38 42 (gd rfl) rfl rfl (fun c118x35 => ?_) (fun c118x35 => ?_)
                                  · skip
                                    refine g_iconst 0 43 (gd rfl) rfl rfl ?_
                                    refine g_ireturn (gd rfl) rfl rfl (hp118 _ _ ?_)
                                    show GG _ _ _ _ _ _ _ _ [.int (Int32.ofInt 0)] _ _ _
                                    refine g_iconst 1 122 (gd rfl) rfl rfl ?_
                                    refine g_cmp_ne 125 134 (gd rfl) rfl rfl (fun c122 => ?_) (fun c122 => ?_)
                                    · skip
                                      refine g_aload_n 135 (gd rfl) rfl rfl ?_
                                      refine g_aload_n 136 (gd rfl) rfl rfl ?_
                                      refine g_getI 139 (gd rfl) rfl rfl rfl (fun z136 e136 => ?_)
                                      have q136 : u_109_30 = z136 := (fr_F (e_109_30) hF111 rfl).trans e136.symm
                                      subst q136
                                      have n139 : (z111b).toInt ≤ 199 := by have a0 := in_u i76x35; have a1 := in_u ro_109_29; have a2 := in_u i12; have a3 := in_u ((inv_F hI 0 200 rfl e_109_111)); have a4 := in_u ((inv_F hI 0 400 rfl e_109_109)); have a5 := in_u h1; have a6 := in_u ((in_c 1 rfl)); have a7 := in_u i115x4; have a8 := in_u i111a; have a9 := in_u i115x20; have a10 := t_sub e115x20 i115x4 (in_c 1 rfl) rfl; omega
                                      refine g_callv (X := _) (As := [.int u_109_30]) (r := []) (b := A 109) (q := 109) 142 (gd rfl) rfl rfl rfl rfl rfl (ww_o rfl) (Nat.le_of_ble_eq_true rfl) (Nat.zero_le _) (Nat.zero_le _) (k_396 (by first | exact dq1 hd rfl | exact dq0 hd rfl | exact dq2 hd rfl | exact dq3 hd rfl | omega) hI111 e111a n139) (fun e u h => h) (fun v u h => ?_)
                                      obtain ⟨s139, hI139, hF139, n139a, rfl, rfl, p139⟩ := h
                                      obtain ⟨z139a, e139⟩ : ∃ w, w = s139.2.2.1 109 111 := ⟨_, rfl⟩
                                      have i139a := inv_F hI139 0 200 rfl e139
                                      rw [← (show z111b = s111.2.2.1 109 111 from e111a)] at n139a
                                      rw [← (show z139a = s139.2.2.1 109 111 from e139)] at n139a
                                      show GG _ _ _ _ _ _ _ _ [] _ _ _
                                      refine g_iconst 0 143 (gd rfl) rfl rfl ?_
                                      have n143 : ((Int32.ofInt 0)).toInt = 0 → PR s s139 1 0 := by intro hR; first | (exfalso; revert hR; decide) | exact pr_tr p91 (pr_hold (hF99.1 187 rfl) (hF99.1 188 rfl) (hF99.2.2.1 109 109 rfl) (hF99.2.2.1 109 23 rfl) p99 (by rw [← e99, ← e91a]; exact n99a) (inv_F hI91 0 200 rfl rfl).1 (Or.inr ⟨by first | (have hi := i76x3; unfold In at hi; omega) | (have hi := i76x13; unfold In at hi; omega) | (have hi := i76x19; unfold In at hi; omega) | (have hi := i76x29; unfold In at hi; omega) | (have hi := i76x35; unfold In at hi; omega), rfl⟩)) | exact pr_tr p111 (pr_hold (hF139.1 187 rfl) (hF139.1 188 rfl) (hF139.2.2.1 109 109 rfl) (hF139.2.2.1 109 23 rfl) p139 (by rw [← e139, ← e111a]; exact n139a) (inv_F hI111 0 200 rfl rfl).1 (Or.inr ⟨by first | (have hi := i76x3; unfold In at hi; omega) | (have hi := i76x13; unfold In at hi; omega) | (have hi := i76x19; unfold In at hi; omega) | (have hi := i76x29; unfold In at hi; omega) | (have hi := i76x35; unfold In at hi; omega), rfl⟩)) | exact pr_tr p111 (pr_tr (b := 1) (pr_flt (hF131.1 187 rfl) (hF131.1 188 rfl) (hF131.2.2.1 109 109 rfl) (by rw [← e131]; omega)) (pr_hold (hF139.1 187 rfl) (hF139.1 188 rfl) (hF139.2.2.1 109 109 rfl) (hF139.2.2.1 109 23 rfl) p139 (by rw [← e139, ← (show z111b = s131.2.2.1 109 111 from fr_F e111a hF131 rfl)]; exact n139a) (inv_F hI131 0 200 rfl rfl).1 (Or.inr ⟨by first | (have hi := i76x3; unfold In at hi; omega) | (have hi := i76x13; unfold In at hi; omega) | (have hi := i76x19; unfold In at hi; omega) | (have hi := i76x29; unfold In at hi; omega) | (have hi := i76x35; unfold In at hi; omega), rfl⟩)))
                                      have n143a : ((Int32.ofInt 0)).toInt ≠ 0 → PR s s139 1 1 := by intro hR; first | (exact absurd rfl hR) | exact p26 | exact pr_tr p26 (pr_flt (hF59.1 187 rfl) (hF59.1 188 rfl) (hF59.2.2.1 109 109 rfl) (by rw [← e59]; omega)) | exact pr_tr p163 (pr_flt (hF181.1 187 rfl) (hF181.1 188 rfl) (hF181.2.2.1 109 109 rfl) (by rw [← e181]; omega)) | exact pr_flt (hF202.1 187 rfl) (hF202.1 188 rfl) (hF202.2.2.1 109 109 rfl) (by rw [← e202]; omega) | exact pr_tr p163 (pr_tr (pr_drop (x := z167x21) (b := z167x20) (hF187.1 187 rfl) (hF187.1 188 rfl) (hF187.2.2.1 109 109 rfl) (hF187.2.2.1 109 23 rfl) (hF187.1 190 rfl) (by rw [← e187]; have a0 := in_u i76x35; have a1 := in_u ro_109_29; have a2 := in_u i12; have a3 := in_u ((inv_F hI 0 200 rfl e_109_111)); have a4 := in_u ((inv_F hI 0 400 rfl e_109_109)); have a5 := in_u h1; have a6 := in_u ((in_c 1 rfl)); have a7 := in_u i139a; have a8 := in_u i111a; have a9 := in_u i115x20; have a10 := t_sub e115x20 i115x4 (in_c 1 rfl) rfl; have a11 := in_u i115x4; omega) (by rw [← e163a]; have a0 := in_u i76x35; have a1 := in_u ro_109_29; have a2 := in_u i12; have a3 := in_u ((inv_F hI 0 200 rfl e_109_111)); have a4 := in_u ((inv_F hI 0 400 rfl e_109_109)); have a5 := in_u h1; have a6 := in_u ((in_c 1 rfl)); have a7 := in_u i139a; have a8 := in_u i111a; have a9 := in_u i115x20; have a10 := t_sub e115x20 i115x4 (in_c 1 rfl) rfl; have a11 := in_u i115x4; omega) i167x20.1 e167x21 (Or.inr (c172.trans rfl))) p191)
                                      have n143b : (s.2.2.1 109 28).toInt = 0 → ((Int32.ofInt 0)).toInt = 2 := by rw [← e_109_28]; intro h0; first | rfl | (exfalso; have a0 := in_u i76x35; have a1 := in_u ro_109_29; have a2 := in_u i12; have a3 := in_u ((inv_F hI 0 200 rfl e_109_111)); have a4 := in_u ((inv_F hI 0 400 rfl e_109_109)); have a5 := in_u h1; have a6 := in_u ((in_c 1 rfl)); have a7 := in_u i139a; have a8 := in_u i111a; have a9 := in_u i115x20; have a10 := t_sub e115x20 i115x4 (in_c 1 rfl) rfl; have a11 := in_u i115x4; omega)
                                      have n143c : (z111a).toInt + (z139a).toInt ≤ (u_109_109).toInt + (u_109_111).toInt + 1 := by have a0 := in_u i76x35; have a1 := in_u ro_109_29; have a2 := in_u i12; have a3 := in_u ((inv_F hI 0 200 rfl e_109_111)); have a4 := in_u ((inv_F hI 0 400 rfl e_109_109)); have a5 := in_u h1; have a6 := in_u ((in_c 1 rfl)); have a7 := in_u i139a; have a8 := in_u i111a; have a9 := in_u i115x20; have a10 := t_sub e115x20 i115x4 (in_c 1 rfl) rfl; have a11 := in_u i115x4; omega
                                      have n143d : (s139.2.2.1 109 109).toInt + (s139.2.2.1 109 111).toInt ≤ (s.2.2.1 109 109).toInt + (s.2.2.1 109 111).toInt + 1 := by have b0 : z111a = s139.2.2.1 109 109 := fr_F (e111) hF139 rfl; have b1 : z139a = s139.2.2.1 109 111 := e139; first | (rw [← b0, ← b1, ← e_109_109, ← e_109_111]; exact n143c) | (rw [← b0, ← b1]; exact n143c)
                                      have n143e : (u_109_28).toInt = 0 → (z111a).toInt + (z139a).toInt = (u_109_109).toInt + (u_109_111).toInt := by have a0 := in_u i76x35; have a1 := in_u ro_109_29; have a2 := in_u i12; have a3 := in_u ((inv_F hI 0 200 rfl e_109_111)); have a4 := in_u ((inv_F hI 0 400 rfl e_109_109)); have a5 := in_u h1; have a6 := in_u ((in_c 1 rfl)); have a7 := in_u i139a; have a8 := in_u i111a; have a9 := in_u i115x20; have a10 := t_sub e115x20 i115x4 (in_c 1 rfl) rfl; have a11 := in_u i115x4; omega
                                      have n143f : (s.2.2.1 109 28).toInt = 0 → (s139.2.2.1 109 109).toInt + (s139.2.2.1 109 111).toInt = (s.2.2.1 109 109).toInt + (s.2.2.1 109 111).toInt := by have b0 : z111a = s139.2.2.1 109 109 := fr_F (e111) hF139 rfl; have b1 : z139a = s139.2.2.1 109 111 := e139; first | (rw [← b0, ← b1, ← e_109_28, ← e_109_109, ← e_109_111]; exact n143e) | (rw [← b0, ← b1]; exact n143e)
                                      exact g_ireturn (gd rfl) rfl rfl (hP _ _ ⟨s139, hI139, (fr_tr rfl (fr_tr rfl fr_rf hF111) hF139), n143d, n143f, (Int32.ofInt 0), rfl, rfl, in_w 0 2 (in_c 0 rfl) rfl, n143, n143a, n143b⟩)
                                    · skip
                                      exact n_eq c122 (in_c 0 rfl) (in_c 1 rfl) rfl
                                  · skip
                                    have i118x35 := r_eq1 61 61 c118x35 (i_rng z115x21) (in_c 61 rfl) rfl
                                    refine g_iconst 1 39 (gd rfl) rfl rfl ?_
                                    refine g_goto 43 (gd rfl) rfl ?_
                                    refine g_ireturn (gd rfl) rfl rfl (hp118 _ _ ?_)
                                    show GG _ _ _ _ _ _ _ _ [.int (Int32.ofInt 1)] _ _ _
                                    refine g_iconst 1 122 (gd rfl) rfl rfl ?_
                                    refine g_cmp_ne 125 134 (gd rfl) rfl rfl (fun c122 => ?_) (fun c122 => ?_)
                                    · skip
                                      exact n_ne c122 (in_c 1 rfl) (in_c 1 rfl) rfl
                                    · skip
                                      refine g_aload_n 126 (gd rfl) rfl rfl ?_
                                      refine g_iconst 2 127 (gd rfl) rfl rfl ?_
                                      refine g_aload_n 128 (gd rfl) rfl rfl ?_
                                      refine g_getI 131 (gd rfl) rfl rfl rfl (fun z128 e128 => ?_)
                                      have q128 : u_109_29 = z128 := (fr_F (e_109_29) hF111 rfl).trans e128.symm
                                      subst q128
                                      refine g_callv (X := _) (As := [.int (Int32.ofInt 2), .int u_109_29]) (r := []) (b := A 109) (q := 109) 134 (gd rfl) rfl rfl rfl rfl rfl (ww_o rfl) (Nat.le_of_ble_eq_true rfl) (Nat.zero_le _) (Nat.zero_le _) (k_298 (by first | exact dq1 hd rfl | exact dq0 hd rfl | exact dq2 hd rfl | exact dq3 hd rfl | omega) hI111 (in_w 1 5 (in_c 2 rfl) rfl)) (fun e u h => h) (fun v u h => ?_)
                                      obtain ⟨s131, hI131, hF131, n131, rfl, rfl⟩ := h
                                      obtain ⟨z131a, e131⟩ : ∃ w, w = s131.2.2.1 109 23 := ⟨_, rfl⟩
                                      have i131a := inv_F hI131 0 9 rfl e131
                                      rw [← (show z131a = s131.2.2.1 109 23 from e131)] at n131
                                      show GG _ _ _ _ _ _ _ _ [] _ _ _
                                      refine g_aload_n 135 (gd rfl) rfl rfl ?_
                                      refine g_aload_n 136 (gd rfl) rfl rfl ?_
                                      refine g_getI 139 (gd rfl) rfl rfl rfl (fun z136 e136 => ?_)
                                      have q136 : u_109_30 = z136 := (fr_F (fr_F (e_109_30) hF111 rfl) hF131 rfl).trans e136.symm
                                      subst q136
                                      have v139 : z111b = s131.2.2.1 109 111 := fr_F (e111a) hF131 rfl
                                      have n139 : (z111b).toInt ≤ 199 := by have a0 := in_u i76x35; have a1 := in_u ro_109_29; have a2 := in_u i12; have a3 := in_u ((inv_F hI 0 200 rfl e_109_111)); have a4 := in_u ((inv_F hI 0 400 rfl e_109_109)); have a5 := in_u h1; have a6 := in_u ((in_c 1 rfl)); have a7 := in_u i131a; have a8 := in_u i115x4; have a9 := in_u i111a; have a10 := in_u i115x20; have a11 := t_sub e115x20 i115x4 (in_c 1 rfl) rfl; omega
                                      refine g_callv (X := _) (As := [.int u_109_30]) (r := []) (b := A 109) (q := 109) 142 (gd rfl) rfl rfl rfl rfl rfl (ww_o rfl) (Nat.le_of_ble_eq_true rfl) (Nat.zero_le _) (Nat.zero_le _) (k_396 (by first | exact dq1 hd rfl | exact dq0 hd rfl | exact dq2 hd rfl | exact dq3 hd rfl | omega) hI131 v139 n139) (fun e u h => h) (fun v u h => ?_)
                                      obtain ⟨s139, hI139, hF139, n139a, rfl, rfl, p139⟩ := h
                                      obtain ⟨z139a, e139⟩ : ∃ w, w = s139.2.2.1 109 111 := ⟨_, rfl⟩
                                      have i139a := inv_F hI139 0 200 rfl e139
                                      rw [← (show z111b = s131.2.2.1 109 111 from fr_F (e111a) hF131 rfl)] at n139a
                                      rw [← (show z139a = s139.2.2.1 109 111 from e139)] at n139a
                                      show GG _ _ _ _ _ _ _ _ [] _ _ _
                                      refine g_iconst 0 143 (gd rfl) rfl rfl ?_
                                      have n143 : ((Int32.ofInt 0)).toInt = 0 → PR s s139 1 0 := by intro hR; first | (exfalso; revert hR; decide) | exact pr_tr p91 (pr_hold (hF99.1 187 rfl) (hF99.1 188 rfl) (hF99.2.2.1 109 109 rfl) (hF99.2.2.1 109 23 rfl) p99 (by rw [← e99, ← e91a]; exact n99a) (inv_F hI91 0 200 rfl rfl).1 (Or.inr ⟨by first | (have hi := i76x3; unfold In at hi; omega) | (have hi := i76x13; unfold In at hi; omega) | (have hi := i76x19; unfold In at hi; omega) | (have hi := i76x29; unfold In at hi; omega) | (have hi := i76x35; unfold In at hi; omega), rfl⟩)) | exact pr_tr p111 (pr_hold (hF139.1 187 rfl) (hF139.1 188 rfl) (hF139.2.2.1 109 109 rfl) (hF139.2.2.1 109 23 rfl) p139 (by rw [← e139, ← e111a]; exact n139a) (inv_F hI111 0 200 rfl rfl).1 (Or.inr ⟨by first | (have hi := i76x3; unfold In at hi; omega) | (have hi := i76x13; unfold In at hi; omega) | (have hi := i76x19; unfold In at hi; omega) | (have hi := i76x29; unfold In at hi; omega) | (have hi := i76x35; unfold In at hi; omega), rfl⟩)) | exact pr_tr p111 (pr_tr (b := 1) (pr_flt (hF131.1 187 rfl) (hF131.1 188 rfl) (hF131.2.2.1 109 109 rfl) (by rw [← e131]; omega)) (pr_hold (hF139.1 187 rfl) (hF139.1 188 rfl) (hF139.2.2.1 109 109 rfl) (hF139.2.2.1 109 23 rfl) p139 (by rw [← e139, ← (show z111b = s131.2.2.1 109 111 from fr_F e111a hF131 rfl)]; exact n139a) (inv_F hI131 0 200 rfl rfl).1 (Or.inr ⟨by first | (have hi := i76x3; unfold In at hi; omega) | (have hi := i76x13; unfold In at hi; omega) | (have hi := i76x19; unfold In at hi; omega) | (have hi := i76x29; unfold In at hi; omega) | (have hi := i76x35; unfold In at hi; omega), rfl⟩)))
                                      have n143a : ((Int32.ofInt 0)).toInt ≠ 0 → PR s s139 1 1 := by intro hR; first | (exact absurd rfl hR) | exact p26 | exact pr_tr p26 (pr_flt (hF59.1 187 rfl) (hF59.1 188 rfl) (hF59.2.2.1 109 109 rfl) (by rw [← e59]; omega)) | exact pr_tr p163 (pr_flt (hF181.1 187 rfl) (hF181.1 188 rfl) (hF181.2.2.1 109 109 rfl) (by rw [← e181]; omega)) | exact pr_flt (hF202.1 187 rfl) (hF202.1 188 rfl) (hF202.2.2.1 109 109 rfl) (by rw [← e202]; omega) | exact pr_tr p163 (pr_tr (pr_drop (x := z167x21) (b := z167x20) (hF187.1 187 rfl) (hF187.1 188 rfl) (hF187.2.2.1 109 109 rfl) (hF187.2.2.1 109 23 rfl) (hF187.1 190 rfl) (by rw [← e187]; have a0 := in_u i76x35; have a1 := in_u ro_109_29; have a2 := in_u i12; have a3 := in_u ((inv_F hI 0 200 rfl e_109_111)); have a4 := in_u ((inv_F hI 0 400 rfl e_109_109)); have a5 := in_u h1; have a6 := in_u ((in_c 1 rfl)); have a7 := in_u i139a; have a8 := in_u i131a; have a9 := in_u i111a; have a10 := in_u i115x20; have a11 := t_sub e115x20 i115x4 (in_c 1 rfl) rfl; have a12 := in_u i115x4; omega) (by rw [← e163a]; have a0 := in_u i76x35; have a1 := in_u ro_109_29; have a2 := in_u i12; have a3 := in_u ((inv_F hI 0 200 rfl e_109_111)); have a4 := in_u ((inv_F hI 0 400 rfl e_109_109)); have a5 := in_u h1; have a6 := in_u ((in_c 1 rfl)); have a7 := in_u i139a; have a8 := in_u i131a; have a9 := in_u i111a; have a10 := in_u i115x20; have a11 := t_sub e115x20 i115x4 (in_c 1 rfl) rfl; have a12 := in_u i115x4; omega) i167x20.1 e167x21 (Or.inr (c172.trans rfl))) p191)
                                      have n143b : (s.2.2.1 109 28).toInt = 0 → ((Int32.ofInt 0)).toInt = 2 := by rw [← e_109_28]; intro h0; first | rfl | (exfalso; have a0 := in_u i76x35; have a1 := in_u ro_109_29; have a2 := in_u i12; have a3 := in_u ((inv_F hI 0 200 rfl e_109_111)); have a4 := in_u ((inv_F hI 0 400 rfl e_109_109)); have a5 := in_u h1; have a6 := in_u ((in_c 1 rfl)); have a7 := in_u i139a; have a8 := in_u i131a; have a9 := in_u i111a; have a10 := in_u i115x20; have a11 := t_sub e115x20 i115x4 (in_c 1 rfl) rfl; have a12 := in_u i115x4; omega)
                                      have n143c : (z111a).toInt + (z139a).toInt ≤ (u_109_109).toInt + (u_109_111).toInt + 1 := by have a0 := in_u i76x35; have a1 := in_u ro_109_29; have a2 := in_u i12; have a3 := in_u ((inv_F hI 0 200 rfl e_109_111)); have a4 := in_u ((inv_F hI 0 400 rfl e_109_109)); have a5 := in_u h1; have a6 := in_u ((in_c 1 rfl)); have a7 := in_u i139a; have a8 := in_u i131a; have a9 := in_u i111a; have a10 := in_u i115x20; have a11 := t_sub e115x20 i115x4 (in_c 1 rfl) rfl; have a12 := in_u i115x4; omega
                                      have n143d : (s139.2.2.1 109 109).toInt + (s139.2.2.1 109 111).toInt ≤ (s.2.2.1 109 109).toInt + (s.2.2.1 109 111).toInt + 1 := by have b0 : z111a = s139.2.2.1 109 109 := fr_F (fr_F (e111) hF131 rfl) hF139 rfl; have b1 : z139a = s139.2.2.1 109 111 := e139; first | (rw [← b0, ← b1, ← e_109_109, ← e_109_111]; exact n143c) | (rw [← b0, ← b1]; exact n143c)
                                      have n143e : (u_109_28).toInt = 0 → (z111a).toInt + (z139a).toInt = (u_109_109).toInt + (u_109_111).toInt := by have a0 := in_u i76x35; have a1 := in_u ro_109_29; have a2 := in_u i12; have a3 := in_u ((inv_F hI 0 200 rfl e_109_111)); have a4 := in_u ((inv_F hI 0 400 rfl e_109_109)); have a5 := in_u h1; have a6 := in_u ((in_c 1 rfl)); have a7 := in_u i139a; have a8 := in_u i131a; have a9 := in_u i111a; have a10 := in_u i115x20; have a11 := t_sub e115x20 i115x4 (in_c 1 rfl) rfl; have a12 := in_u i115x4; omega
                                      have n143f : (s.2.2.1 109 28).toInt = 0 → (s139.2.2.1 109 109).toInt + (s139.2.2.1 109 111).toInt = (s.2.2.1 109 109).toInt + (s.2.2.1 109 111).toInt := by have b0 : z111a = s139.2.2.1 109 109 := fr_F (fr_F (e111) hF131 rfl) hF139 rfl; have b1 : z139a = s139.2.2.1 109 111 := e139; first | (rw [← b0, ← b1, ← e_109_28, ← e_109_109, ← e_109_111]; exact n143e) | (rw [← b0, ← b1]; exact n143e)
                                      exact g_ireturn (gd rfl) rfl rfl (hP _ _ ⟨s139, hI139, (fr_tr rfl (fr_tr rfl (fr_tr rfl fr_rf hF111) hF131) hF139), n143d, n143f, (Int32.ofInt 0), rfl, rfl, in_w 0 2 (in_c 0 rfl) rfl, n143, n143a, n143b⟩)
                              · skip
                                have i118x19 := r_eq1 45 45 c118x19 (i_rng z115x21) (in_c 45 rfl) rfl
                                refine g_iconst 2 23 (gd rfl) rfl rfl ?_
                                refine g_goto 43 (gd rfl) rfl ?_
                                refine g_ireturn (gd rfl) rfl rfl (hp118 _ _ ?_)
                                show GG _ _ _ _ _ _ _ _ [.int (Int32.ofInt 2)] _ _ _
                                refine g_iconst 1 122 (gd rfl) rfl rfl ?_
                                refine g_cmp_ne 125 134 (gd rfl) rfl rfl (fun c122 => ?_) (fun c122 => ?_)
                                · skip
                                  refine g_aload_n 135 (gd rfl) rfl rfl ?_
                                  refine g_aload_n 136 (gd rfl) rfl rfl ?_
                                  refine g_getI 139 (gd rfl) rfl rfl rfl (fun z136 e136 => ?_)
                                  have q136 : u_109_30 = z136 := (fr_F (e_109_30) hF111 rfl).trans e136.symm
                                  subst q136
                                  have n139 : (z111b).toInt ≤ 199 := by have a0 := in_u i76x35; have a1 := in_u ro_109_29; have a2 := in_u i12; have a3 := in_u ((inv_F hI 0 200 rfl e_109_111)); have a4 := in_u ((inv_F hI 0 400 rfl e_109_109)); have a5 := in_u h1; have a6 := in_u ((in_c 1 rfl)); have a7 := in_u i115x4; have a8 := in_u i111a; have a9 := in_u i115x20; have a10 := t_sub e115x20 i115x4 (in_c 1 rfl) rfl; omega
                                  refine g_callv (X := _) (As := [.int u_109_30]) (r := []) (b := A 109) (q := 109) 142 (gd rfl) rfl rfl rfl rfl rfl (ww_o rfl) (Nat.le_of_ble_eq_true rfl) (Nat.zero_le _) (Nat.zero_le _) (k_396 (by first | exact dq1 hd rfl | exact dq0 hd rfl | exact dq2 hd rfl | exact dq3 hd rfl | omega) hI111 e111a n139) (fun e u h => h) (fun v u h => ?_)
                                  obtain ⟨s139, hI139, hF139, n139a, rfl, rfl, p139⟩ := h
                                  obtain ⟨z139a, e139⟩ : ∃ w, w = s139.2.2.1 109 111 := ⟨_, rfl⟩
                                  have i139a := inv_F hI139 0 200 rfl e139
                                  rw [← (show z111b = s111.2.2.1 109 111 from e111a)] at n139a
                                  rw [← (show z139a = s139.2.2.1 109 111 from e139)] at n139a
                                  show GG _ _ _ _ _ _ _ _ [] _ _ _
                                  refine g_iconst 0 143 (gd rfl) rfl rfl ?_
                                  have n143 : ((Int32.ofInt 0)).toInt = 0 → PR s s139 1 0 := by intro hR; first | (exfalso; revert hR; decide) | exact pr_tr p91 (pr_hold (hF99.1 187 rfl) (hF99.1 188 rfl) (hF99.2.2.1 109 109 rfl) (hF99.2.2.1 109 23 rfl) p99 (by rw [← e99, ← e91a]; exact n99a) (inv_F hI91 0 200 rfl rfl).1 (Or.inr ⟨by first | (have hi := i76x3; unfold In at hi; omega) | (have hi := i76x13; unfold In at hi; omega) | (have hi := i76x19; unfold In at hi; omega) | (have hi := i76x29; unfold In at hi; omega) | (have hi := i76x35; unfold In at hi; omega), rfl⟩)) | exact pr_tr p111 (pr_hold (hF139.1 187 rfl) (hF139.1 188 rfl) (hF139.2.2.1 109 109 rfl) (hF139.2.2.1 109 23 rfl) p139 (by rw [← e139, ← e111a]; exact n139a) (inv_F hI111 0 200 rfl rfl).1 (Or.inr ⟨by first | (have hi := i76x3; unfold In at hi; omega) | (have hi := i76x13; unfold In at hi; omega) | (have hi := i76x19; unfold In at hi; omega) | (have hi := i76x29; unfold In at hi; omega) | (have hi := i76x35; unfold In at hi; omega), rfl⟩)) | exact pr_tr p111 (pr_tr (b := 1) (pr_flt (hF131.1 187 rfl) (hF131.1 188 rfl) (hF131.2.2.1 109 109 rfl) (by rw [← e131]; omega)) (pr_hold (hF139.1 187 rfl) (hF139.1 188 rfl) (hF139.2.2.1 109 109 rfl) (hF139.2.2.1 109 23 rfl) p139 (by rw [← e139, ← (show z111b = s131.2.2.1 109 111 from fr_F e111a hF131 rfl)]; exact n139a) (inv_F hI131 0 200 rfl rfl).1 (Or.inr ⟨by first | (have hi := i76x3; unfold In at hi; omega) | (have hi := i76x13; unfold In at hi; omega) | (have hi := i76x19; unfold In at hi; omega) | (have hi := i76x29; unfold In at hi; omega) | (have hi := i76x35; unfold In at hi; omega), rfl⟩)))
                                  have n143a : ((Int32.ofInt 0)).toInt ≠ 0 → PR s s139 1 1 := by intro hR; first | (exact absurd rfl hR) | exact p26 | exact pr_tr p26 (pr_flt (hF59.1 187 rfl) (hF59.1 188 rfl) (hF59.2.2.1 109 109 rfl) (by rw [← e59]; omega)) | exact pr_tr p163 (pr_flt (hF181.1 187 rfl) (hF181.1 188 rfl) (hF181.2.2.1 109 109 rfl) (by rw [← e181]; omega)) | exact pr_flt (hF202.1 187 rfl) (hF202.1 188 rfl) (hF202.2.2.1 109 109 rfl) (by rw [← e202]; omega) | exact pr_tr p163 (pr_tr (pr_drop (x := z167x21) (b := z167x20) (hF187.1 187 rfl) (hF187.1 188 rfl) (hF187.2.2.1 109 109 rfl) (hF187.2.2.1 109 23 rfl) (hF187.1 190 rfl) (by rw [← e187]; have a0 := in_u i76x35; have a1 := in_u ro_109_29; have a2 := in_u i12; have a3 := in_u ((inv_F hI 0 200 rfl e_109_111)); have a4 := in_u ((inv_F hI 0 400 rfl e_109_109)); have a5 := in_u h1; have a6 := in_u ((in_c 1 rfl)); have a7 := in_u i139a; have a8 := in_u i111a; have a9 := in_u i115x20; have a10 := t_sub e115x20 i115x4 (in_c 1 rfl) rfl; have a11 := in_u i115x4; omega) (by rw [← e163a]; have a0 := in_u i76x35; have a1 := in_u ro_109_29; have a2 := in_u i12; have a3 := in_u ((inv_F hI 0 200 rfl e_109_111)); have a4 := in_u ((inv_F hI 0 400 rfl e_109_109)); have a5 := in_u h1; have a6 := in_u ((in_c 1 rfl)); have a7 := in_u i139a; have a8 := in_u i111a; have a9 := in_u i115x20; have a10 := t_sub e115x20 i115x4 (in_c 1 rfl) rfl; have a11 := in_u i115x4; omega) i167x20.1 e167x21 (Or.inr (c172.trans rfl))) p191)
                                  have n143b : (s.2.2.1 109 28).toInt = 0 → ((Int32.ofInt 0)).toInt = 2 := by rw [← e_109_28]; intro h0; first | rfl | (exfalso; have a0 := in_u i76x35; have a1 := in_u ro_109_29; have a2 := in_u i12; have a3 := in_u ((inv_F hI 0 200 rfl e_109_111)); have a4 := in_u ((inv_F hI 0 400 rfl e_109_109)); have a5 := in_u h1; have a6 := in_u ((in_c 1 rfl)); have a7 := in_u i139a; have a8 := in_u i111a; have a9 := in_u i115x20; have a10 := t_sub e115x20 i115x4 (in_c 1 rfl) rfl; have a11 := in_u i115x4; omega)
                                  have n143c : (z111a).toInt + (z139a).toInt ≤ (u_109_109).toInt + (u_109_111).toInt + 1 := by have a0 := in_u i76x35; have a1 := in_u ro_109_29; have a2 := in_u i12; have a3 := in_u ((inv_F hI 0 200 rfl e_109_111)); have a4 := in_u ((inv_F hI 0 400 rfl e_109_109)); have a5 := in_u h1; have a6 := in_u ((in_c 1 rfl)); have a7 := in_u i139a; have a8 := in_u i111a; have a9 := in_u i115x20; have a10 := t_sub e115x20 i115x4 (in_c 1 rfl) rfl; have a11 := in_u i115x4; omega
                                  have n143d : (s139.2.2.1 109 109).toInt + (s139.2.2.1 109 111).toInt ≤ (s.2.2.1 109 109).toInt + (s.2.2.1 109 111).toInt + 1 := by have b0 : z111a = s139.2.2.1 109 109 := fr_F (e111) hF139 rfl; have b1 : z139a = s139.2.2.1 109 111 := e139; first | (rw [← b0, ← b1, ← e_109_109, ← e_109_111]; exact n143c) | (rw [← b0, ← b1]; exact n143c)
                                  have n143e : (u_109_28).toInt = 0 → (z111a).toInt + (z139a).toInt = (u_109_109).toInt + (u_109_111).toInt := by have a0 := in_u i76x35; have a1 := in_u ro_109_29; have a2 := in_u i12; have a3 := in_u ((inv_F hI 0 200 rfl e_109_111)); have a4 := in_u ((inv_F hI 0 400 rfl e_109_109)); have a5 := in_u h1; have a6 := in_u ((in_c 1 rfl)); have a7 := in_u i139a; have a8 := in_u i111a; have a9 := in_u i115x20; have a10 := t_sub e115x20 i115x4 (in_c 1 rfl) rfl; have a11 := in_u i115x4; omega
                                  have n143f : (s.2.2.1 109 28).toInt = 0 → (s139.2.2.1 109 109).toInt + (s139.2.2.1 109 111).toInt = (s.2.2.1 109 109).toInt + (s.2.2.1 109 111).toInt := by have b0 : z111a = s139.2.2.1 109 109 := fr_F (e111) hF139 rfl; have b1 : z139a = s139.2.2.1 109 111 := e139; first | (rw [← b0, ← b1, ← e_109_28, ← e_109_109, ← e_109_111]; exact n143e) | (rw [← b0, ← b1]; exact n143e)
                                  exact g_ireturn (gd rfl) rfl rfl (hP _ _ ⟨s139, hI139, (fr_tr rfl (fr_tr rfl fr_rf hF111) hF139), n143d, n143f, (Int32.ofInt 0), rfl, rfl, in_w 0 2 (in_c 0 rfl) rfl, n143, n143a, n143b⟩)
                                · skip
                                  exact n_eq c122 (in_c 2 rfl) (in_c 1 rfl) rfl
                          · skip
                            have i118x3 := r_eq1 42 42 c118x3 (i_rng z115x21) (in_c 42 rfl) rfl
                            refine g_iconst 3 7 (gd rfl) rfl rfl ?_
                            refine g_goto 43 (gd rfl) rfl ?_
                            refine g_ireturn (gd rfl) rfl rfl (hp118 _ _ ?_)
                            show GG _ _ _ _ _ _ _ _ [.int (Int32.ofInt 3)] _ _ _
                            refine g_iconst 1 122 (gd rfl) rfl rfl ?_
                            refine g_cmp_ne 125 134 (gd rfl) rfl rfl (fun c122 => ?_) (fun c122 => ?_)
                            · skip
                              refine g_aload_n 135 (gd rfl) rfl rfl ?_
                              refine g_aload_n 136 (gd rfl) rfl rfl ?_
                              refine g_getI 139 (gd rfl) rfl rfl rfl (fun z136 e136 => ?_)
                              have q136 : u_109_30 = z136 := (fr_F (e_109_30) hF111 rfl).trans e136.symm
                              subst q136
                              have n139 : (z111b).toInt ≤ 199 := by have a0 := in_u i76x35; have a1 := in_u ro_109_29; have a2 := in_u i12; have a3 := in_u ((inv_F hI 0 200 rfl e_109_111)); have a4 := in_u ((inv_F hI 0 400 rfl e_109_109)); have a5 := in_u h1; have a6 := in_u ((in_c 1 rfl)); have a7 := in_u i115x4; have a8 := in_u i111a; have a9 := in_u i115x20; have a10 := t_sub e115x20 i115x4 (in_c 1 rfl) rfl; omega
                              refine g_callv (X := _) (As := [.int u_109_30]) (r := []) (b := A 109) (q := 109) 142 (gd rfl) rfl rfl rfl rfl rfl (ww_o rfl) (Nat.le_of_ble_eq_true rfl) (Nat.zero_le _) (Nat.zero_le _) (k_396 (by first | exact dq1 hd rfl | exact dq0 hd rfl | exact dq2 hd rfl | exact dq3 hd rfl | omega) hI111 e111a n139) (fun e u h => h) (fun v u h => ?_)
                              obtain ⟨s139, hI139, hF139, n139a, rfl, rfl, p139⟩ := h
                              obtain ⟨z139a, e139⟩ : ∃ w, w = s139.2.2.1 109 111 := ⟨_, rfl⟩
                              have i139a := inv_F hI139 0 200 rfl e139
                              rw [← (show z111b = s111.2.2.1 109 111 from e111a)] at n139a
                              rw [← (show z139a = s139.2.2.1 109 111 from e139)] at n139a
                              show GG _ _ _ _ _ _ _ _ [] _ _ _
                              refine g_iconst 0 143 (gd rfl) rfl rfl ?_
                              have n143 : ((Int32.ofInt 0)).toInt = 0 → PR s s139 1 0 := by intro hR; first | (exfalso; revert hR; decide) | exact pr_tr p91 (pr_hold (hF99.1 187 rfl) (hF99.1 188 rfl) (hF99.2.2.1 109 109 rfl) (hF99.2.2.1 109 23 rfl) p99 (by rw [← e99, ← e91a]; exact n99a) (inv_F hI91 0 200 rfl rfl).1 (Or.inr ⟨by first | (have hi := i76x3; unfold In at hi; omega) | (have hi := i76x13; unfold In at hi; omega) | (have hi := i76x19; unfold In at hi; omega) | (have hi := i76x29; unfold In at hi; omega) | (have hi := i76x35; unfold In at hi; omega), rfl⟩)) | exact pr_tr p111 (pr_hold (hF139.1 187 rfl) (hF139.1 188 rfl) (hF139.2.2.1 109 109 rfl) (hF139.2.2.1 109 23 rfl) p139 (by rw [← e139, ← e111a]; exact n139a) (inv_F hI111 0 200 rfl rfl).1 (Or.inr ⟨by first | (have hi := i76x3; unfold In at hi; omega) | (have hi := i76x13; unfold In at hi; omega) | (have hi := i76x19; unfold In at hi; omega) | (have hi := i76x29; unfold In at hi; omega) | (have hi := i76x35; unfold In at hi; omega), rfl⟩)) | exact pr_tr p111 (pr_tr (b := 1) (pr_flt (hF131.1 187 rfl) (hF131.1 188 rfl) (hF131.2.2.1 109 109 rfl) (by rw [← e131]; omega)) (pr_hold (hF139.1 187 rfl) (hF139.1 188 rfl) (hF139.2.2.1 109 109 rfl) (hF139.2.2.1 109 23 rfl) p139 (by rw [← e139, ← (show z111b = s131.2.2.1 109 111 from fr_F e111a hF131 rfl)]; exact n139a) (inv_F hI131 0 200 rfl rfl).1 (Or.inr ⟨by first | (have hi := i76x3; unfold In at hi; omega) | (have hi := i76x13; unfold In at hi; omega) | (have hi := i76x19; unfold In at hi; omega) | (have hi := i76x29; unfold In at hi; omega) | (have hi := i76x35; unfold In at hi; omega), rfl⟩)))
                              have n143a : ((Int32.ofInt 0)).toInt ≠ 0 → PR s s139 1 1 := by intro hR; first | (exact absurd rfl hR) | exact p26 | exact pr_tr p26 (pr_flt (hF59.1 187 rfl) (hF59.1 188 rfl) (hF59.2.2.1 109 109 rfl) (by rw [← e59]; omega)) | exact pr_tr p163 (pr_flt (hF181.1 187 rfl) (hF181.1 188 rfl) (hF181.2.2.1 109 109 rfl) (by rw [← e181]; omega)) | exact pr_flt (hF202.1 187 rfl) (hF202.1 188 rfl) (hF202.2.2.1 109 109 rfl) (by rw [← e202]; omega) | exact pr_tr p163 (pr_tr (pr_drop (x := z167x21) (b := z167x20) (hF187.1 187 rfl) (hF187.1 188 rfl) (hF187.2.2.1 109 109 rfl) (hF187.2.2.1 109 23 rfl) (hF187.1 190 rfl) (by rw [← e187]; have a0 := in_u i76x35; have a1 := in_u ro_109_29; have a2 := in_u i12; have a3 := in_u ((inv_F hI 0 200 rfl e_109_111)); have a4 := in_u ((inv_F hI 0 400 rfl e_109_109)); have a5 := in_u h1; have a6 := in_u ((in_c 1 rfl)); have a7 := in_u i139a; have a8 := in_u i111a; have a9 := in_u i115x20; have a10 := t_sub e115x20 i115x4 (in_c 1 rfl) rfl; have a11 := in_u i115x4; omega) (by rw [← e163a]; have a0 := in_u i76x35; have a1 := in_u ro_109_29; have a2 := in_u i12; have a3 := in_u ((inv_F hI 0 200 rfl e_109_111)); have a4 := in_u ((inv_F hI 0 400 rfl e_109_109)); have a5 := in_u h1; have a6 := in_u ((in_c 1 rfl)); have a7 := in_u i139a; have a8 := in_u i111a; have a9 := in_u i115x20; have a10 := t_sub e115x20 i115x4 (in_c 1 rfl) rfl; have a11 := in_u i115x4; omega) i167x20.1 e167x21 (Or.inr (c172.trans rfl))) p191)
                              have n143b : (s.2.2.1 109 28).toInt = 0 → ((Int32.ofInt 0)).toInt = 2 := by rw [← e_109_28]; intro h0; first | rfl | (exfalso; have a0 := in_u i76x35; have a1 := in_u ro_109_29; have a2 := in_u i12; have a3 := in_u ((inv_F hI 0 200 rfl e_109_111)); have a4 := in_u ((inv_F hI 0 400 rfl e_109_109)); have a5 := in_u h1; have a6 := in_u ((in_c 1 rfl)); have a7 := in_u i139a; have a8 := in_u i111a; have a9 := in_u i115x20; have a10 := t_sub e115x20 i115x4 (in_c 1 rfl) rfl; have a11 := in_u i115x4; omega)
                              have n143c : (z111a).toInt + (z139a).toInt ≤ (u_109_109).toInt + (u_109_111).toInt + 1 := by have a0 := in_u i76x35; have a1 := in_u ro_109_29; have a2 := in_u i12; have a3 := in_u ((inv_F hI 0 200 rfl e_109_111)); have a4 := in_u ((inv_F hI 0 400 rfl e_109_109)); have a5 := in_u h1; have a6 := in_u ((in_c 1 rfl)); have a7 := in_u i139a; have a8 := in_u i111a; have a9 := in_u i115x20; have a10 := t_sub e115x20 i115x4 (in_c 1 rfl) rfl; have a11 := in_u i115x4; omega
                              have n143d : (s139.2.2.1 109 109).toInt + (s139.2.2.1 109 111).toInt ≤ (s.2.2.1 109 109).toInt + (s.2.2.1 109 111).toInt + 1 := by have b0 : z111a = s139.2.2.1 109 109 := fr_F (e111) hF139 rfl; have b1 : z139a = s139.2.2.1 109 111 := e139; first | (rw [← b0, ← b1, ← e_109_109, ← e_109_111]; exact n143c) | (rw [← b0, ← b1]; exact n143c)
                              have n143e : (u_109_28).toInt = 0 → (z111a).toInt + (z139a).toInt = (u_109_109).toInt + (u_109_111).toInt := by have a0 := in_u i76x35; have a1 := in_u ro_109_29; have a2 := in_u i12; have a3 := in_u ((inv_F hI 0 200 rfl e_109_111)); have a4 := in_u ((inv_F hI 0 400 rfl e_109_109)); have a5 := in_u h1; have a6 := in_u ((in_c 1 rfl)); have a7 := in_u i139a; have a8 := in_u i111a; have a9 := in_u i115x20; have a10 := t_sub e115x20 i115x4 (in_c 1 rfl) rfl; have a11 := in_u i115x4; omega
                              have n143f : (s.2.2.1 109 28).toInt = 0 → (s139.2.2.1 109 109).toInt + (s139.2.2.1 109 111).toInt = (s.2.2.1 109 109).toInt + (s.2.2.1 109 111).toInt := by have b0 : z111a = s139.2.2.1 109 109 := fr_F (e111) hF139 rfl; have b1 : z139a = s139.2.2.1 109 111 := e139; first | (rw [← b0, ← b1, ← e_109_28, ← e_109_109, ← e_109_111]; exact n143e) | (rw [← b0, ← b1]; exact n143e)
                              exact g_ireturn (gd rfl) rfl rfl (hP _ _ ⟨s139, hI139, (fr_tr rfl (fr_tr rfl fr_rf hF111) hF139), n143d, n143f, (Int32.ofInt 0), rfl, rfl, in_w 0 2 (in_c 0 rfl) rfl, n143, n143a, n143b⟩)
                            · skip
                              exact n_eq c122 (in_c 3 rfl) (in_c 1 rfl) rfl
                        · skip
                          have i115x4 := z_eq 0 0 c115x4 i111b rfl
                          refine g_iconst 0 8 (gd rfl) rfl rfl ?_
                          refine g_goto 22 (gd rfl) rfl ?_
                          refine g_ireturn (gd rfl) rfl rfl (hp115 _ _ ?_)
                          show GG _ _ _ _ _ _ _ _ [.int (Int32.ofInt 0)] _ _ _
                          refine g_calls (As := [.int (Int32.ofInt 0)]) (r := []) 121 (gd rfl) rfl rfl rfl rfl rfl (Nat.le_of_ble_eq_true rfl) (mc := 0) (ms := 0) (Nat.zero_le _) (Nat.zero_le _) (P := fun v u => _) ?_ (fun v u h => h)
                          intro po118 xx118 hp118 hx118
                          refine g_enter2 (k := 398) (N := 300) (by first | exact dq1 hd rfl | exact dq0 hd rfl | exact dq2 hd rfl | exact dq3 hd rfl | omega) rfl (Nat.le_of_ble_eq_true rfl) ?_
                          refine g_iload_n 1 (gd rfl) rfl rfl ?_
                          refine g_bipush 42 3 (gd rfl) rfl rfl ?_
                          refine g_cmp_ne 6 10 (gd rfl) rfl rfl (fun c118x3 => ?_) (fun c118x3 => ?_)
                          · skip
                            refine g_iload_n 11 (gd rfl) rfl rfl ?_
                            refine g_bipush 43 13 (gd rfl) rfl rfl ?_
                            refine g_cmp_eq 16 22 (gd rfl) rfl rfl (fun c118x13 => ?_) (fun c118x13 => ?_)
                            · skip
                              exact n_eq c118x13 (in_c 0 rfl) (in_c 43 rfl) rfl
                            · skip
                              refine g_iload_n 17 (gd rfl) rfl rfl ?_
                              refine g_bipush 45 19 (gd rfl) rfl rfl ?_
                              refine g_cmp_ne 22 26 (gd rfl) rfl rfl (fun c118x19 => ?_) (fun c118x19 => ?_)
                              · skip
                                refine g_iload_n 27 (gd rfl) rfl rfl ?_
                                refine g_bipush 60 29 (gd rfl) rfl rfl ?_
                                refine g_cmp_eq 32 38 (gd rfl) rfl rfl (fun c118x29 => ?_) (fun c118x29 => ?_)
                                · skip
                                  exact n_eq c118x29 (in_c 0 rfl) (in_c 60 rfl) rfl
                                · skip
                                  refine g_iload_n 33 (gd rfl) rfl rfl ?_
                                  refine g_bipush 61 35 (gd rfl) rfl rfl ?_
                                  refine g_cmp_ne 38 42 (gd rfl) rfl rfl (fun c118x35 => ?_) (fun c118x35 => ?_)
                                  · skip
                                    refine g_iconst 0 43 (gd rfl) rfl rfl ?_
                                    refine g_ireturn (gd rfl) rfl rfl (hp118 _ _ ?_)
                                    show GG _ _ _ _ _ _ _ _ [.int (Int32.ofInt 0)] _ _ _
                                    refine g_iconst 1 122 (gd rfl) rfl rfl ?_
                                    refine g_cmp_ne 125 134 (gd rfl) rfl rfl (fun c122 => ?_) (fun c122 => ?_)
                                    · skip
                                      refine g_aload_n 135 (gd rfl) rfl rfl ?_
                                      refine g_aload_n 136 (gd rfl) rfl rfl ?_
                                      refine g_getI 139 (gd rfl) rfl rfl rfl (fun z136 e136 => ?_)
                                      have q136 : u_109_30 = z136 := (fr_F (e_109_30) hF111 rfl).trans e136.symm
                                      subst q136
                                      have n139 : (z111b).toInt ≤ 199 := by have a0 := in_u i76x35; have a1 := in_u ro_109_29; have a2 := in_u i12; have a3 := in_u ((inv_F hI 0 200 rfl e_109_111)); have a4 := in_u ((inv_F hI 0 400 rfl e_109_109)); have a5 := in_u h1; have a6 := in_u ((in_c 1 rfl)); have a7 := in_u i115x4; have a8 := in_u i111a; omega
                                      refine g_callv (X := _) (As := [.int u_109_30]) (r := []) (b := A 109) (q := 109) 142 (gd rfl) rfl rfl rfl rfl rfl (ww_o rfl) (Nat.le_of_ble_eq_true rfl) (Nat.zero_le _) (Nat.zero_le _) (k_396 (by first | exact dq1 hd rfl | exact dq0 hd rfl | exact dq2 hd rfl | exact dq3 hd rfl | omega) hI111 e111a n139) (fun e u h => h) (fun v u h => ?_)
                                      obtain ⟨s139, hI139, hF139, n139a, rfl, rfl, p139⟩ := h
                                      obtain ⟨z139a, e139⟩ : ∃ w, w = s139.2.2.1 109 111 := ⟨_, rfl⟩
                                      have i139a := inv_F hI139 0 200 rfl e139
                                      rw [← (show z111b = s111.2.2.1 109 111 from e111a)] at n139a
                                      rw [← (show z139a = s139.2.2.1 109 111 from e139)] at n139a
                                      show GG _ _ _ _ _ _ _ _ [] _ _ _
                                      refine g_iconst 0 143 (gd rfl) rfl rfl ?_
                                      have n143 : ((Int32.ofInt 0)).toInt = 0 → PR s s139 1 0 := by intro hR; first | (exfalso; revert hR; decide) | exact pr_tr p91 (pr_hold (hF99.1 187 rfl) (hF99.1 188 rfl) (hF99.2.2.1 109 109 rfl) (hF99.2.2.1 109 23 rfl) p99 (by rw [← e99, ← e91a]; exact n99a) (inv_F hI91 0 200 rfl rfl).1 (Or.inr ⟨by first | (have hi := i76x3; unfold In at hi; omega) | (have hi := i76x13; unfold In at hi; omega) | (have hi := i76x19; unfold In at hi; omega) | (have hi := i76x29; unfold In at hi; omega) | (have hi := i76x35; unfold In at hi; omega), rfl⟩)) | exact pr_tr p111 (pr_hold (hF139.1 187 rfl) (hF139.1 188 rfl) (hF139.2.2.1 109 109 rfl) (hF139.2.2.1 109 23 rfl) p139 (by rw [← e139, ← e111a]; exact n139a) (inv_F hI111 0 200 rfl rfl).1 (Or.inr ⟨by first | (have hi := i76x3; unfold In at hi; omega) | (have hi := i76x13; unfold In at hi; omega) | (have hi := i76x19; unfold In at hi; omega) | (have hi := i76x29; unfold In at hi; omega) | (have hi := i76x35; unfold In at hi; omega), rfl⟩)) | exact pr_tr p111 (pr_tr (b := 1) (pr_flt (hF131.1 187 rfl) (hF131.1 188 rfl) (hF131.2.2.1 109 109 rfl) (by rw [← e131]; omega)) (pr_hold (hF139.1 187 rfl) (hF139.1 188 rfl) (hF139.2.2.1 109 109 rfl) (hF139.2.2.1 109 23 rfl) p139 (by rw [← e139, ← (show z111b = s131.2.2.1 109 111 from fr_F e111a hF131 rfl)]; exact n139a) (inv_F hI131 0 200 rfl rfl).1 (Or.inr ⟨by first | (have hi := i76x3; unfold In at hi; omega) | (have hi := i76x13; unfold In at hi; omega) | (have hi := i76x19; unfold In at hi; omega) | (have hi := i76x29; unfold In at hi; omega) | (have hi := i76x35; unfold In at hi; omega), rfl⟩)))
                                      have n143a : ((Int32.ofInt 0)).toInt ≠ 0 → PR s s139 1 1 := by intro hR; first | (exact absurd rfl hR) | exact p26 | exact pr_tr p26 (pr_flt (hF59.1 187 rfl) (hF59.1 188 rfl) (hF59.2.2.1 109 109 rfl) (by rw [← e59]; omega)) | exact pr_tr p163 (pr_flt (hF181.1 187 rfl) (hF181.1 188 rfl) (hF181.2.2.1 109 109 rfl) (by rw [← e181]; omega)) | exact pr_flt (hF202.1 187 rfl) (hF202.1 188 rfl) (hF202.2.2.1 109 109 rfl) (by rw [← e202]; omega) | exact pr_tr p163 (pr_tr (pr_drop (x := z167x21) (b := z167x20) (hF187.1 187 rfl) (hF187.1 188 rfl) (hF187.2.2.1 109 109 rfl) (hF187.2.2.1 109 23 rfl) (hF187.1 190 rfl) (by rw [← e187]; have a0 := in_u i76x35; have a1 := in_u ro_109_29; have a2 := in_u i12; have a3 := in_u ((inv_F hI 0 200 rfl e_109_111)); have a4 := in_u ((inv_F hI 0 400 rfl e_109_109)); have a5 := in_u h1; have a6 := in_u ((in_c 1 rfl)); have a7 := in_u i139a; have a8 := in_u i111a; omega) (by rw [← e163a]; have a0 := in_u i76x35; have a1 := in_u ro_109_29; have a2 := in_u i12; have a3 := in_u ((inv_F hI 0 200 rfl e_109_111)); have a4 := in_u ((inv_F hI 0 400 rfl e_109_109)); have a5 := in_u h1; have a6 := in_u ((in_c 1 rfl)); have a7 := in_u i139a; have a8 := in_u i111a; omega) i167x20.1 e167x21 (Or.inr (c172.trans rfl))) p191)
                                      have n143b : (s.2.2.1 109 28).toInt = 0 → ((Int32.ofInt 0)).toInt = 2 := by rw [← e_109_28]; intro h0; first | rfl | (exfalso; have a0 := in_u i76x35; have a1 := in_u ro_109_29; have a2 := in_u i12; have a3 := in_u ((inv_F hI 0 200 rfl e_109_111)); have a4 := in_u ((inv_F hI 0 400 rfl e_109_109)); have a5 := in_u h1; have a6 := in_u ((in_c 1 rfl)); have a7 := in_u i139a; have a8 := in_u i111a; omega)
                                      have n143c : (z111a).toInt + (z139a).toInt ≤ (u_109_109).toInt + (u_109_111).toInt + 1 := by have a0 := in_u i76x35; have a1 := in_u ro_109_29; have a2 := in_u i12; have a3 := in_u ((inv_F hI 0 200 rfl e_109_111)); have a4 := in_u ((inv_F hI 0 400 rfl e_109_109)); have a5 := in_u h1; have a6 := in_u ((in_c 1 rfl)); have a7 := in_u i139a; have a8 := in_u i111a; omega
                                      have n143d : (s139.2.2.1 109 109).toInt + (s139.2.2.1 109 111).toInt ≤ (s.2.2.1 109 109).toInt + (s.2.2.1 109 111).toInt + 1 := by have b0 : z111a = s139.2.2.1 109 109 := fr_F (e111) hF139 rfl; have b1 : z139a = s139.2.2.1 109 111 := e139; first | (rw [← b0, ← b1, ← e_109_109, ← e_109_111]; exact n143c) | (rw [← b0, ← b1]; exact n143c)
                                      have n143e : (u_109_28).toInt = 0 → (z111a).toInt + (z139a).toInt = (u_109_109).toInt + (u_109_111).toInt := by have a0 := in_u i76x35; have a1 := in_u ro_109_29; have a2 := in_u i12; have a3 := in_u ((inv_F hI 0 200 rfl e_109_111)); have a4 := in_u ((inv_F hI 0 400 rfl e_109_109)); have a5 := in_u h1; have a6 := in_u ((in_c 1 rfl)); have a7 := in_u i139a; have a8 := in_u i111a; omega
                                      have n143f : (s.2.2.1 109 28).toInt = 0 → (s139.2.2.1 109 109).toInt + (s139.2.2.1 109 111).toInt = (s.2.2.1 109 109).toInt + (s.2.2.1 109 111).toInt := by have b0 : z111a = s139.2.2.1 109 109 := fr_F (e111) hF139 rfl; have b1 : z139a = s139.2.2.1 109 111 := e139; first | (rw [← b0, ← b1, ← e_109_28, ← e_109_109, ← e_109_111]; exact n143e) | (rw [← b0, ← b1]; exact n143e)
                                      exact g_ireturn (gd rfl) rfl rfl (hP _ _ ⟨s139, hI139, (fr_tr rfl (fr_tr rfl fr_rf hF111) hF139), n143d, n143f, (Int32.ofInt 0), rfl, rfl, in_w 0 2 (in_c 0 rfl) rfl, n143, n143a, n143b⟩)
                                    · skip
                                      exact n_eq c122 (in_c 0 rfl) (in_c 1 rfl) rfl
                                  · skip
                                    exact n_eq c118x35 (in_c 0 rfl) (in_c 61 rfl) rfl
                              · skip
                                exact n_eq c118x19 (in_c 0 rfl) (in_c 45 rfl) rfl
                          · skip
                            exact n_eq c118x3 (in_c 0 rfl) (in_c 42 rfl) rfl
                    · skip
                      exact n_lt c86 (in_c 1 rfl) (in_c 1 rfl) rfl
              · skip
                have i76x19 := r_eq1 45 45 c76x19 (i_rng u_109_30) (in_c 45 rfl) rfl
                refine g_iconst 2 23 (gd rfl) rfl rfl ?_
                refine g_goto 43 (gd rfl) rfl ?_
                refine g_ireturn (gd rfl) rfl rfl (hp76 _ _ ?_)
                show GG _ _ _ _ _ _ _ _ [.int (Int32.ofInt 2)] _ _ _
                refine g_goto 83 (gd rfl) rfl ?_
                refine g_istore_n 84 (gd rfl) rfl (Nat.le_of_ble_eq_true rfl) ?_
                refine g_iload_n 85 (gd rfl) rfl rfl ?_
                refine g_iconst 1 86 (gd rfl) rfl rfl ?_
                refine g_cmp_le 89 104 (gd rfl) rfl rfl (fun c86 => ?_) (fun c86 => ?_)
                · skip
                  exact n_le c86 (in_c 2 rfl) (in_c 1 rfl) rfl
                · skip
                  refine g_aload_n 90 (gd rfl) rfl rfl ?_
                  refine g_iload_n 91 (gd rfl) rfl rfl ?_
                  have n91 : (u_109_109).toInt + (u_109_111).toInt ≤ 120 := by have a0 := in_u i76x19; have a1 := in_u ro_109_29; have a2 := in_u i12; have a3 := in_u ((inv_F hI 0 200 rfl e_109_111)); have a4 := in_u ((inv_F hI 0 400 rfl e_109_109)); have a5 := in_u h1; have a6 := in_u ((in_c 2 rfl)); omega
                  refine g_callv (X := _) (As := [.int (Int32.ofInt 2)]) (r := []) (b := A 109) (q := 109) 94 (gd rfl) rfl rfl rfl rfl rfl (ww_o rfl) (Nat.le_of_ble_eq_true rfl) (Nat.zero_le _) (Nat.zero_le _) (k_399 (by first | exact dq1 hd rfl | exact dq0 hd rfl | exact dq2 hd rfl | exact dq3 hd rfl | omega) hI (in_w 1 3 (in_c 2 rfl) rfl) e_109_109 e_109_111 n91) (fun e u h => h) (fun v u h => ?_)
                  obtain ⟨s91, hI91, hF91, n91a, rfl, rfl, p91⟩ := h
                  obtain ⟨z91a, e91⟩ : ∃ w, w = s91.2.2.1 109 109 := ⟨_, rfl⟩
                  have i91a := inv_F hI91 0 400 rfl e91
                  obtain ⟨z91b, e91a⟩ : ∃ w, w = s91.2.2.1 109 111 := ⟨_, rfl⟩
                  have i91b := inv_F hI91 0 200 rfl e91a
                  rw [← (show u_109_109 = s.2.2.1 109 109 from e_109_109)] at n91a
                  rw [← (show u_109_111 = s.2.2.1 109 111 from e_109_111)] at n91a
                  rw [← (show z91a = s91.2.2.1 109 109 from e91)] at n91a
                  rw [← (show z91b = s91.2.2.1 109 111 from e91a)] at n91a
                  show GG _ _ _ _ _ _ _ _ [] _ _ _
                  refine g_aload_n 95 (gd rfl) rfl rfl ?_
                  refine g_aload_n 96 (gd rfl) rfl rfl ?_
                  refine g_getI 99 (gd rfl) rfl rfl rfl (fun z96 e96 => ?_)
                  have q96 : u_109_30 = z96 := (fr_F (e_109_30) hF91 rfl).trans e96.symm
                  subst q96
                  have n99 : (z91b).toInt ≤ 199 := by have a0 := in_u i76x19; have a1 := in_u ro_109_29; have a2 := in_u i12; have a3 := in_u ((inv_F hI 0 200 rfl e_109_111)); have a4 := in_u ((inv_F hI 0 400 rfl e_109_109)); have a5 := in_u h1; have a6 := in_u ((in_c 2 rfl)); have a7 := in_u i91b; have a8 := in_u i91a; omega
                  refine g_callv (X := _) (As := [.int u_109_30]) (r := []) (b := A 109) (q := 109) 102 (gd rfl) rfl rfl rfl rfl rfl (ww_o rfl) (Nat.le_of_ble_eq_true rfl) (Nat.zero_le _) (Nat.zero_le _) (k_396 (by first | exact dq1 hd rfl | exact dq0 hd rfl | exact dq2 hd rfl | exact dq3 hd rfl | omega) hI91 e91a n99) (fun e u h => h) (fun v u h => ?_)
                  obtain ⟨s99, hI99, hF99, n99a, rfl, rfl, p99⟩ := h
                  obtain ⟨z99a, e99⟩ : ∃ w, w = s99.2.2.1 109 111 := ⟨_, rfl⟩
                  have i99a := inv_F hI99 0 200 rfl e99
                  rw [← (show z91b = s91.2.2.1 109 111 from e91a)] at n99a
                  rw [← (show z99a = s99.2.2.1 109 111 from e99)] at n99a
                  show GG _ _ _ _ _ _ _ _ [] _ _ _
                  refine g_iconst 0 103 (gd rfl) rfl rfl ?_
                  have n103 : ((Int32.ofInt 0)).toInt = 0 → PR s s99 1 0 := by intro hR; first | (exfalso; revert hR; decide) | exact pr_tr p91 (pr_hold (hF99.1 187 rfl) (hF99.1 188 rfl) (hF99.2.2.1 109 109 rfl) (hF99.2.2.1 109 23 rfl) p99 (by rw [← e99, ← e91a]; exact n99a) (inv_F hI91 0 200 rfl rfl).1 (Or.inr ⟨by first | (have hi := i76x3; unfold In at hi; omega) | (have hi := i76x13; unfold In at hi; omega) | (have hi := i76x19; unfold In at hi; omega) | (have hi := i76x29; unfold In at hi; omega) | (have hi := i76x35; unfold In at hi; omega), rfl⟩)) | exact pr_tr p111 (pr_hold (hF139.1 187 rfl) (hF139.1 188 rfl) (hF139.2.2.1 109 109 rfl) (hF139.2.2.1 109 23 rfl) p139 (by rw [← e139, ← e111a]; exact n139a) (inv_F hI111 0 200 rfl rfl).1 (Or.inr ⟨by first | (have hi := i76x3; unfold In at hi; omega) | (have hi := i76x13; unfold In at hi; omega) | (have hi := i76x19; unfold In at hi; omega) | (have hi := i76x29; unfold In at hi; omega) | (have hi := i76x35; unfold In at hi; omega), rfl⟩)) | exact pr_tr p111 (pr_tr (b := 1) (pr_flt (hF131.1 187 rfl) (hF131.1 188 rfl) (hF131.2.2.1 109 109 rfl) (by rw [← e131]; omega)) (pr_hold (hF139.1 187 rfl) (hF139.1 188 rfl) (hF139.2.2.1 109 109 rfl) (hF139.2.2.1 109 23 rfl) p139 (by rw [← e139, ← (show z111b = s131.2.2.1 109 111 from fr_F e111a hF131 rfl)]; exact n139a) (inv_F hI131 0 200 rfl rfl).1 (Or.inr ⟨by first | (have hi := i76x3; unfold In at hi; omega) | (have hi := i76x13; unfold In at hi; omega) | (have hi := i76x19; unfold In at hi; omega) | (have hi := i76x29; unfold In at hi; omega) | (have hi := i76x35; unfold In at hi; omega), rfl⟩)))
                  have n103a : ((Int32.ofInt 0)).toInt ≠ 0 → PR s s99 1 1 := by intro hR; first | (exact absurd rfl hR) | exact p26 | exact pr_tr p26 (pr_flt (hF59.1 187 rfl) (hF59.1 188 rfl) (hF59.2.2.1 109 109 rfl) (by rw [← e59]; omega)) | exact pr_tr p163 (pr_flt (hF181.1 187 rfl) (hF181.1 188 rfl) (hF181.2.2.1 109 109 rfl) (by rw [← e181]; omega)) | exact pr_flt (hF202.1 187 rfl) (hF202.1 188 rfl) (hF202.2.2.1 109 109 rfl) (by rw [← e202]; omega) | exact pr_tr p163 (pr_tr (pr_drop (x := z167x21) (b := z167x20) (hF187.1 187 rfl) (hF187.1 188 rfl) (hF187.2.2.1 109 109 rfl) (hF187.2.2.1 109 23 rfl) (hF187.1 190 rfl) (by rw [← e187]; have a0 := in_u i76x19; have a1 := in_u ro_109_29; have a2 := in_u i12; have a3 := in_u ((inv_F hI 0 200 rfl e_109_111)); have a4 := in_u ((inv_F hI 0 400 rfl e_109_109)); have a5 := in_u h1; have a6 := in_u ((in_c 2 rfl)); have a7 := in_u i99a; have a8 := in_u i91a; omega) (by rw [← e163a]; have a0 := in_u i76x19; have a1 := in_u ro_109_29; have a2 := in_u i12; have a3 := in_u ((inv_F hI 0 200 rfl e_109_111)); have a4 := in_u ((inv_F hI 0 400 rfl e_109_109)); have a5 := in_u h1; have a6 := in_u ((in_c 2 rfl)); have a7 := in_u i99a; have a8 := in_u i91a; omega) i167x20.1 e167x21 (Or.inr (c172.trans rfl))) p191)
                  have n103b : (s.2.2.1 109 28).toInt = 0 → ((Int32.ofInt 0)).toInt = 2 := by rw [← e_109_28]; intro h0; first | rfl | (exfalso; have a0 := in_u i76x19; have a1 := in_u ro_109_29; have a2 := in_u i12; have a3 := in_u ((inv_F hI 0 200 rfl e_109_111)); have a4 := in_u ((inv_F hI 0 400 rfl e_109_109)); have a5 := in_u h1; have a6 := in_u ((in_c 2 rfl)); have a7 := in_u i99a; have a8 := in_u i91a; omega)
                  have n103c : (z91a).toInt + (z99a).toInt ≤ (u_109_109).toInt + (u_109_111).toInt + 1 := by have a0 := in_u i76x19; have a1 := in_u ro_109_29; have a2 := in_u i12; have a3 := in_u ((inv_F hI 0 200 rfl e_109_111)); have a4 := in_u ((inv_F hI 0 400 rfl e_109_109)); have a5 := in_u h1; have a6 := in_u ((in_c 2 rfl)); have a7 := in_u i99a; have a8 := in_u i91a; omega
                  have n103d : (s99.2.2.1 109 109).toInt + (s99.2.2.1 109 111).toInt ≤ (s.2.2.1 109 109).toInt + (s.2.2.1 109 111).toInt + 1 := by have b0 : z91a = s99.2.2.1 109 109 := fr_F (e91) hF99 rfl; have b1 : z99a = s99.2.2.1 109 111 := e99; first | (rw [← b0, ← b1, ← e_109_109, ← e_109_111]; exact n103c) | (rw [← b0, ← b1]; exact n103c)
                  have n103e : (u_109_28).toInt = 0 → (z91a).toInt + (z99a).toInt = (u_109_109).toInt + (u_109_111).toInt := by have a0 := in_u i76x19; have a1 := in_u ro_109_29; have a2 := in_u i12; have a3 := in_u ((inv_F hI 0 200 rfl e_109_111)); have a4 := in_u ((inv_F hI 0 400 rfl e_109_109)); have a5 := in_u h1; have a6 := in_u ((in_c 2 rfl)); have a7 := in_u i99a; have a8 := in_u i91a; omega
                  have n103f : (s.2.2.1 109 28).toInt = 0 → (s99.2.2.1 109 109).toInt + (s99.2.2.1 109 111).toInt = (s.2.2.1 109 109).toInt + (s.2.2.1 109 111).toInt := by have b0 : z91a = s99.2.2.1 109 109 := fr_F (e91) hF99 rfl; have b1 : z99a = s99.2.2.1 109 111 := e99; first | (rw [← b0, ← b1, ← e_109_28, ← e_109_109, ← e_109_111]; exact n103e) | (rw [← b0, ← b1]; exact n103e)
                  exact g_ireturn (gd rfl) rfl rfl (hP _ _ ⟨s99, hI99, (fr_tr rfl (fr_tr rfl fr_rf hF91) hF99), n103d, n103f, (Int32.ofInt 0), rfl, rfl, in_w 0 2 (in_c 0 rfl) rfl, n103, n103a, n103b⟩)
          · skip
            have i76x3 := r_eq1 42 42 c76x3 (i_rng u_109_30) (in_c 42 rfl) rfl
            refine g_iconst 3 7 (gd rfl) rfl rfl ?_
            refine g_goto 43 (gd rfl) rfl ?_
            refine g_ireturn (gd rfl) rfl rfl (hp76 _ _ ?_)
            show GG _ _ _ _ _ _ _ _ [.int (Int32.ofInt 3)] _ _ _
            refine g_goto 83 (gd rfl) rfl ?_
            refine g_istore_n 84 (gd rfl) rfl (Nat.le_of_ble_eq_true rfl) ?_
            refine g_iload_n 85 (gd rfl) rfl rfl ?_
            refine g_iconst 1 86 (gd rfl) rfl rfl ?_
            refine g_cmp_le 89 104 (gd rfl) rfl rfl (fun c86 => ?_) (fun c86 => ?_)
            · skip
              exact n_le c86 (in_c 3 rfl) (in_c 1 rfl) rfl
            · skip
              refine g_aload_n 90 (gd rfl) rfl rfl ?_
              refine g_iload_n 91 (gd rfl) rfl rfl ?_
              have n91 : (u_109_109).toInt + (u_109_111).toInt ≤ 120 := by have a0 := in_u i76x3; have a1 := in_u ro_109_29; have a2 := in_u i12; have a3 := in_u ((inv_F hI 0 200 rfl e_109_111)); have a4 := in_u ((inv_F hI 0 400 rfl e_109_109)); have a5 := in_u h1; have a6 := in_u ((in_c 3 rfl)); omega
              refine g_callv (X := _) (As := [.int (Int32.ofInt 3)]) (r := []) (b := A 109) (q := 109) 94 (gd rfl) rfl rfl rfl rfl rfl (ww_o rfl) (Nat.le_of_ble_eq_true rfl) (Nat.zero_le _) (Nat.zero_le _) (k_399 (by first | exact dq1 hd rfl | exact dq0 hd rfl | exact dq2 hd rfl | exact dq3 hd rfl | omega) hI (in_w 1 3 (in_c 3 rfl) rfl) e_109_109 e_109_111 n91) (fun e u h => h) (fun v u h => ?_)
              obtain ⟨s91, hI91, hF91, n91a, rfl, rfl, p91⟩ := h
              obtain ⟨z91a, e91⟩ : ∃ w, w = s91.2.2.1 109 109 := ⟨_, rfl⟩
              have i91a := inv_F hI91 0 400 rfl e91
              obtain ⟨z91b, e91a⟩ : ∃ w, w = s91.2.2.1 109 111 := ⟨_, rfl⟩
              have i91b := inv_F hI91 0 200 rfl e91a
              rw [← (show u_109_109 = s.2.2.1 109 109 from e_109_109)] at n91a
              rw [← (show u_109_111 = s.2.2.1 109 111 from e_109_111)] at n91a
              rw [← (show z91a = s91.2.2.1 109 109 from e91)] at n91a
              rw [← (show z91b = s91.2.2.1 109 111 from e91a)] at n91a
              show GG _ _ _ _ _ _ _ _ [] _ _ _
              refine g_aload_n 95 (gd rfl) rfl rfl ?_
              refine g_aload_n 96 (gd rfl) rfl rfl ?_
              refine g_getI 99 (gd rfl) rfl rfl rfl (fun z96 e96 => ?_)
              have q96 : u_109_30 = z96 := (fr_F (e_109_30) hF91 rfl).trans e96.symm
              subst q96
              have n99 : (z91b).toInt ≤ 199 := by have a0 := in_u i76x3; have a1 := in_u ro_109_29; have a2 := in_u i12; have a3 := in_u ((inv_F hI 0 200 rfl e_109_111)); have a4 := in_u ((inv_F hI 0 400 rfl e_109_109)); have a5 := in_u h1; have a6 := in_u ((in_c 3 rfl)); have a7 := in_u i91b; have a8 := in_u i91a; omega
              refine g_callv (X := _) (As := [.int u_109_30]) (r := []) (b := A 109) (q := 109) 102 (gd rfl) rfl rfl rfl rfl rfl (ww_o rfl) (Nat.le_of_ble_eq_true rfl) (Nat.zero_le _) (Nat.zero_le _) (k_396 (by first | exact dq1 hd rfl | exact dq0 hd rfl | exact dq2 hd rfl | exact dq3 hd rfl | omega) hI91 e91a n99) (fun e u h => h) (fun v u h => ?_)
              obtain ⟨s99, hI99, hF99, n99a, rfl, rfl, p99⟩ := h
              obtain ⟨z99a, e99⟩ : ∃ w, w = s99.2.2.1 109 111 := ⟨_, rfl⟩
              have i99a := inv_F hI99 0 200 rfl e99
              rw [← (show z91b = s91.2.2.1 109 111 from e91a)] at n99a
              rw [← (show z99a = s99.2.2.1 109 111 from e99)] at n99a
              show GG _ _ _ _ _ _ _ _ [] _ _ _
              refine g_iconst 0 103 (gd rfl) rfl rfl ?_
              have n103 : ((Int32.ofInt 0)).toInt = 0 → PR s s99 1 0 := by intro hR; first | (exfalso; revert hR; decide) | exact pr_tr p91 (pr_hold (hF99.1 187 rfl) (hF99.1 188 rfl) (hF99.2.2.1 109 109 rfl) (hF99.2.2.1 109 23 rfl) p99 (by rw [← e99, ← e91a]; exact n99a) (inv_F hI91 0 200 rfl rfl).1 (Or.inr ⟨by first | (have hi := i76x3; unfold In at hi; omega) | (have hi := i76x13; unfold In at hi; omega) | (have hi := i76x19; unfold In at hi; omega) | (have hi := i76x29; unfold In at hi; omega) | (have hi := i76x35; unfold In at hi; omega), rfl⟩)) | exact pr_tr p111 (pr_hold (hF139.1 187 rfl) (hF139.1 188 rfl) (hF139.2.2.1 109 109 rfl) (hF139.2.2.1 109 23 rfl) p139 (by rw [← e139, ← e111a]; exact n139a) (inv_F hI111 0 200 rfl rfl).1 (Or.inr ⟨by first | (have hi := i76x3; unfold In at hi; omega) | (have hi := i76x13; unfold In at hi; omega) | (have hi := i76x19; unfold In at hi; omega) | (have hi := i76x29; unfold In at hi; omega) | (have hi := i76x35; unfold In at hi; omega), rfl⟩)) | exact pr_tr p111 (pr_tr (b := 1) (pr_flt (hF131.1 187 rfl) (hF131.1 188 rfl) (hF131.2.2.1 109 109 rfl) (by rw [← e131]; omega)) (pr_hold (hF139.1 187 rfl) (hF139.1 188 rfl) (hF139.2.2.1 109 109 rfl) (hF139.2.2.1 109 23 rfl) p139 (by rw [← e139, ← (show z111b = s131.2.2.1 109 111 from fr_F e111a hF131 rfl)]; exact n139a) (inv_F hI131 0 200 rfl rfl).1 (Or.inr ⟨by first | (have hi := i76x3; unfold In at hi; omega) | (have hi := i76x13; unfold In at hi; omega) | (have hi := i76x19; unfold In at hi; omega) | (have hi := i76x29; unfold In at hi; omega) | (have hi := i76x35; unfold In at hi; omega), rfl⟩)))
              have n103a : ((Int32.ofInt 0)).toInt ≠ 0 → PR s s99 1 1 := by intro hR; first | (exact absurd rfl hR) | exact p26 | exact pr_tr p26 (pr_flt (hF59.1 187 rfl) (hF59.1 188 rfl) (hF59.2.2.1 109 109 rfl) (by rw [← e59]; omega)) | exact pr_tr p163 (pr_flt (hF181.1 187 rfl) (hF181.1 188 rfl) (hF181.2.2.1 109 109 rfl) (by rw [← e181]; omega)) | exact pr_flt (hF202.1 187 rfl) (hF202.1 188 rfl) (hF202.2.2.1 109 109 rfl) (by rw [← e202]; omega) | exact pr_tr p163 (pr_tr (pr_drop (x := z167x21) (b := z167x20) (hF187.1 187 rfl) (hF187.1 188 rfl) (hF187.2.2.1 109 109 rfl) (hF187.2.2.1 109 23 rfl) (hF187.1 190 rfl) (by rw [← e187]; have a0 := in_u i76x3; have a1 := in_u ro_109_29; have a2 := in_u i12; have a3 := in_u ((inv_F hI 0 200 rfl e_109_111)); have a4 := in_u ((inv_F hI 0 400 rfl e_109_109)); have a5 := in_u h1; have a6 := in_u ((in_c 3 rfl)); have a7 := in_u i99a; have a8 := in_u i91a; omega) (by rw [← e163a]; have a0 := in_u i76x3; have a1 := in_u ro_109_29; have a2 := in_u i12; have a3 := in_u ((inv_F hI 0 200 rfl e_109_111)); have a4 := in_u ((inv_F hI 0 400 rfl e_109_109)); have a5 := in_u h1; have a6 := in_u ((in_c 3 rfl)); have a7 := in_u i99a; have a8 := in_u i91a; omega) i167x20.1 e167x21 (Or.inr (c172.trans rfl))) p191)
              have n103b : (s.2.2.1 109 28).toInt = 0 → ((Int32.ofInt 0)).toInt = 2 := by rw [← e_109_28]; intro h0; first | rfl | (exfalso; have a0 := in_u i76x3; have a1 := in_u ro_109_29; have a2 := in_u i12; have a3 := in_u ((inv_F hI 0 200 rfl e_109_111)); have a4 := in_u ((inv_F hI 0 400 rfl e_109_109)); have a5 := in_u h1; have a6 := in_u ((in_c 3 rfl)); have a7 := in_u i99a; have a8 := in_u i91a; omega)
              have n103c : (z91a).toInt + (z99a).toInt ≤ (u_109_109).toInt + (u_109_111).toInt + 1 := by have a0 := in_u i76x3; have a1 := in_u ro_109_29; have a2 := in_u i12; have a3 := in_u ((inv_F hI 0 200 rfl e_109_111)); have a4 := in_u ((inv_F hI 0 400 rfl e_109_109)); have a5 := in_u h1; have a6 := in_u ((in_c 3 rfl)); have a7 := in_u i99a; have a8 := in_u i91a; omega
              have n103d : (s99.2.2.1 109 109).toInt + (s99.2.2.1 109 111).toInt ≤ (s.2.2.1 109 109).toInt + (s.2.2.1 109 111).toInt + 1 := by have b0 : z91a = s99.2.2.1 109 109 := fr_F (e91) hF99 rfl; have b1 : z99a = s99.2.2.1 109 111 := e99; first | (rw [← b0, ← b1, ← e_109_109, ← e_109_111]; exact n103c) | (rw [← b0, ← b1]; exact n103c)
              have n103e : (u_109_28).toInt = 0 → (z91a).toInt + (z99a).toInt = (u_109_109).toInt + (u_109_111).toInt := by have a0 := in_u i76x3; have a1 := in_u ro_109_29; have a2 := in_u i12; have a3 := in_u ((inv_F hI 0 200 rfl e_109_111)); have a4 := in_u ((inv_F hI 0 400 rfl e_109_109)); have a5 := in_u h1; have a6 := in_u ((in_c 3 rfl)); have a7 := in_u i99a; have a8 := in_u i91a; omega
              have n103f : (s.2.2.1 109 28).toInt = 0 → (s99.2.2.1 109 109).toInt + (s99.2.2.1 109 111).toInt = (s.2.2.1 109 109).toInt + (s.2.2.1 109 111).toInt := by have b0 : z91a = s99.2.2.1 109 109 := fr_F (e91) hF99 rfl; have b1 : z99a = s99.2.2.1 109 111 := e99; first | (rw [← b0, ← b1, ← e_109_28, ← e_109_109, ← e_109_111]; exact n103e) | (rw [← b0, ← b1]; exact n103e)
              exact g_ireturn (gd rfl) rfl rfl (hP _ _ ⟨s99, hI99, (fr_tr rfl (fr_tr rfl fr_rf hF91) hF99), n103d, n103f, (Int32.ofInt 0), rfl, rfl, in_w 0 2 (in_c 0 rfl) rfl, n103, n103a, n103b⟩)
      · skip
        have i21 := r_eq1 59 59 c21 (i_rng u_109_30) (in_c 59 rfl) rfl
        refine g_aload_n 25 (gd rfl) rfl rfl ?_
        refine g_iconst 1 26 (gd rfl) rfl rfl ?_
        have n26 : (u_109_109).toInt + (u_109_111).toInt ≤ 120 := by have a0 := in_u i21; have a1 := in_u ro_109_29; have a2 := in_u i12; have a3 := in_u ((inv_F hI 0 200 rfl e_109_111)); have a4 := in_u ((inv_F hI 0 400 rfl e_109_109)); have a5 := in_u h1; omega
        refine g_callv (X := _) (As := [.int (Int32.ofInt 1)]) (r := []) (b := A 109) (q := 109) 29 (gd rfl) rfl rfl rfl rfl rfl (ww_o rfl) (Nat.le_of_ble_eq_true rfl) (Nat.zero_le _) (Nat.zero_le _) (k_399 (by first | exact dq1 hd rfl | exact dq0 hd rfl | exact dq2 hd rfl | exact dq3 hd rfl | omega) hI (in_w 1 3 (in_c 1 rfl) rfl) e_109_109 e_109_111 n26) (fun e u h => h) (fun v u h => ?_)
        obtain ⟨s26, hI26, hF26, n26a, rfl, rfl, p26⟩ := h
        obtain ⟨z26a, e26⟩ : ∃ w, w = s26.2.2.1 109 109 := ⟨_, rfl⟩
        have i26a := inv_F hI26 0 400 rfl e26
        obtain ⟨z26b, e26a⟩ : ∃ w, w = s26.2.2.1 109 111 := ⟨_, rfl⟩
        have i26b := inv_F hI26 0 200 rfl e26a
        rw [← (show u_109_109 = s.2.2.1 109 109 from e_109_109)] at n26a
        rw [← (show u_109_111 = s.2.2.1 109 111 from e_109_111)] at n26a
        rw [← (show z26a = s26.2.2.1 109 109 from e26)] at n26a
        rw [← (show z26b = s26.2.2.1 109 111 from e26a)] at n26a
        show GG _ _ _ _ _ _ _ _ [] _ _ _
        refine g_aload_n 30 (gd rfl) rfl rfl ?_
        refine g_getI 33 (gd rfl) rfl rfl rfl (fun z30 e30 => ?_)
        have q30 : z26b = z30 := (e26a).trans e30.symm
        subst q30
        refine g_if_gt 36 53 (gd rfl) rfl rfl (fun c33 => ?_) (fun c33 => ?_)
        · skip
          have i33 := z_gt 1 200 c33 i26b rfl
          refine g_aload_n 54 (gd rfl) rfl rfl ?_
          refine g_iconst 2 55 (gd rfl) rfl rfl ?_
          refine g_aload_n 56 (gd rfl) rfl rfl ?_
          refine g_getI 59 (gd rfl) rfl rfl rfl (fun z56 e56 => ?_)
          have q56 : u_109_29 = z56 := (fr_F (e_109_29) hF26 rfl).trans e56.symm
          subst q56
          refine g_callv (X := _) (As := [.int (Int32.ofInt 2), .int u_109_29]) (r := []) (b := A 109) (q := 109) 62 (gd rfl) rfl rfl rfl rfl rfl (ww_o rfl) (Nat.le_of_ble_eq_true rfl) (Nat.zero_le _) (Nat.zero_le _) (k_298 (by first | exact dq1 hd rfl | exact dq0 hd rfl | exact dq2 hd rfl | exact dq3 hd rfl | omega) hI26 (in_w 1 5 (in_c 2 rfl) rfl)) (fun e u h => h) (fun v u h => ?_)
          obtain ⟨s59, hI59, hF59, n59, rfl, rfl⟩ := h
          obtain ⟨z59a, e59⟩ : ∃ w, w = s59.2.2.1 109 23 := ⟨_, rfl⟩
          have i59a := inv_F hI59 0 9 rfl e59
          rw [← (show z59a = s59.2.2.1 109 23 from e59)] at n59
          show GG _ _ _ _ _ _ _ _ [] _ _ _
          refine g_iconst 2 63 (gd rfl) rfl rfl ?_
          have n63 : ((Int32.ofInt 2)).toInt = 0 → PR s s59 1 0 := by intro hR; first | (exfalso; revert hR; decide) | exact pr_tr p91 (pr_hold (hF99.1 187 rfl) (hF99.1 188 rfl) (hF99.2.2.1 109 109 rfl) (hF99.2.2.1 109 23 rfl) p99 (by rw [← e99, ← e91a]; exact n99a) (inv_F hI91 0 200 rfl rfl).1 (Or.inr ⟨by first | (have hi := i76x3; unfold In at hi; omega) | (have hi := i76x13; unfold In at hi; omega) | (have hi := i76x19; unfold In at hi; omega) | (have hi := i76x29; unfold In at hi; omega) | (have hi := i76x35; unfold In at hi; omega), rfl⟩)) | exact pr_tr p111 (pr_hold (hF139.1 187 rfl) (hF139.1 188 rfl) (hF139.2.2.1 109 109 rfl) (hF139.2.2.1 109 23 rfl) p139 (by rw [← e139, ← e111a]; exact n139a) (inv_F hI111 0 200 rfl rfl).1 (Or.inr ⟨by first | (have hi := i76x3; unfold In at hi; omega) | (have hi := i76x13; unfold In at hi; omega) | (have hi := i76x19; unfold In at hi; omega) | (have hi := i76x29; unfold In at hi; omega) | (have hi := i76x35; unfold In at hi; omega), rfl⟩)) | exact pr_tr p111 (pr_tr (b := 1) (pr_flt (hF131.1 187 rfl) (hF131.1 188 rfl) (hF131.2.2.1 109 109 rfl) (by rw [← e131]; omega)) (pr_hold (hF139.1 187 rfl) (hF139.1 188 rfl) (hF139.2.2.1 109 109 rfl) (hF139.2.2.1 109 23 rfl) p139 (by rw [← e139, ← (show z111b = s131.2.2.1 109 111 from fr_F e111a hF131 rfl)]; exact n139a) (inv_F hI131 0 200 rfl rfl).1 (Or.inr ⟨by first | (have hi := i76x3; unfold In at hi; omega) | (have hi := i76x13; unfold In at hi; omega) | (have hi := i76x19; unfold In at hi; omega) | (have hi := i76x29; unfold In at hi; omega) | (have hi := i76x35; unfold In at hi; omega), rfl⟩)))
          have n63a : ((Int32.ofInt 2)).toInt ≠ 0 → PR s s59 1 1 := by intro hR; first | (exact absurd rfl hR) | exact p26 | exact pr_tr p26 (pr_flt (hF59.1 187 rfl) (hF59.1 188 rfl) (hF59.2.2.1 109 109 rfl) (by rw [← e59]; omega)) | exact pr_tr p163 (pr_flt (hF181.1 187 rfl) (hF181.1 188 rfl) (hF181.2.2.1 109 109 rfl) (by rw [← e181]; omega)) | exact pr_flt (hF202.1 187 rfl) (hF202.1 188 rfl) (hF202.2.2.1 109 109 rfl) (by rw [← e202]; omega) | exact pr_tr p163 (pr_tr (pr_drop (x := z167x21) (b := z167x20) (hF187.1 187 rfl) (hF187.1 188 rfl) (hF187.2.2.1 109 109 rfl) (hF187.2.2.1 109 23 rfl) (hF187.1 190 rfl) (by rw [← e187]; have a0 := in_u i21; have a1 := in_u ro_109_29; have a2 := in_u i12; have a3 := in_u ((inv_F hI 0 200 rfl e_109_111)); have a4 := in_u ((inv_F hI 0 400 rfl e_109_109)); have a5 := in_u h1; have a6 := in_u i59a; have a7 := in_u i33; have a8 := in_u i26a; omega) (by rw [← e163a]; have a0 := in_u i21; have a1 := in_u ro_109_29; have a2 := in_u i12; have a3 := in_u ((inv_F hI 0 200 rfl e_109_111)); have a4 := in_u ((inv_F hI 0 400 rfl e_109_109)); have a5 := in_u h1; have a6 := in_u i59a; have a7 := in_u i33; have a8 := in_u i26a; omega) i167x20.1 e167x21 (Or.inr (c172.trans rfl))) p191)
          have n63b : (s.2.2.1 109 28).toInt = 0 → ((Int32.ofInt 2)).toInt = 2 := by rw [← e_109_28]; intro h0; first | rfl | (exfalso; have a0 := in_u i21; have a1 := in_u ro_109_29; have a2 := in_u i12; have a3 := in_u ((inv_F hI 0 200 rfl e_109_111)); have a4 := in_u ((inv_F hI 0 400 rfl e_109_109)); have a5 := in_u h1; have a6 := in_u i59a; have a7 := in_u i33; have a8 := in_u i26a; omega)
          have n63c : (z26a).toInt + (z26b).toInt ≤ (u_109_109).toInt + (u_109_111).toInt + 1 := by have a0 := in_u i21; have a1 := in_u ro_109_29; have a2 := in_u i12; have a3 := in_u ((inv_F hI 0 200 rfl e_109_111)); have a4 := in_u ((inv_F hI 0 400 rfl e_109_109)); have a5 := in_u h1; have a6 := in_u i59a; have a7 := in_u i33; have a8 := in_u i26a; omega
          have n63d : (s59.2.2.1 109 109).toInt + (s59.2.2.1 109 111).toInt ≤ (s.2.2.1 109 109).toInt + (s.2.2.1 109 111).toInt + 1 := by have b0 : z26a = s59.2.2.1 109 109 := fr_F (e26) hF59 rfl; have b1 : z26b = s59.2.2.1 109 111 := fr_F (e26a) hF59 rfl; first | (rw [← b0, ← b1, ← e_109_109, ← e_109_111]; exact n63c) | (rw [← b0, ← b1]; exact n63c)
          have n63e : (u_109_28).toInt = 0 → (z26a).toInt + (z26b).toInt = (u_109_109).toInt + (u_109_111).toInt := by have a0 := in_u i21; have a1 := in_u ro_109_29; have a2 := in_u i12; have a3 := in_u ((inv_F hI 0 200 rfl e_109_111)); have a4 := in_u ((inv_F hI 0 400 rfl e_109_109)); have a5 := in_u h1; have a6 := in_u i59a; have a7 := in_u i33; have a8 := in_u i26a; omega
          have n63f : (s.2.2.1 109 28).toInt = 0 → (s59.2.2.1 109 109).toInt + (s59.2.2.1 109 111).toInt = (s.2.2.1 109 109).toInt + (s.2.2.1 109 111).toInt := by have b0 : z26a = s59.2.2.1 109 109 := fr_F (e26) hF59 rfl; have b1 : z26b = s59.2.2.1 109 111 := fr_F (e26a) hF59 rfl; first | (rw [← b0, ← b1, ← e_109_28, ← e_109_109, ← e_109_111]; exact n63e) | (rw [← b0, ← b1]; exact n63e)
          exact g_ireturn (gd rfl) rfl rfl (hP _ _ ⟨s59, hI59, (fr_tr rfl (fr_tr rfl fr_rf hF26) hF59), n63d, n63f, (Int32.ofInt 2), rfl, rfl, in_w 0 2 (in_c 2 rfl) rfl, n63, n63a, n63b⟩)
        · skip
          have i33 := z_le 0 0 c33 i26b rfl
          refine g_iload_n 37 (gd rfl) rfl rfl ?_
          refine g_aload_n 38 (gd rfl) rfl rfl ?_
          refine g_getI 41 (gd rfl) rfl rfl rfl (fun z38 e38 => ?_)
          have q38 : u_109_28 = z38 := (fr_F (e_109_28) hF26 rfl).trans e38.symm
          subst q38
          refine g_iconst 3 42 (gd rfl) rfl rfl ?_
          refine g_cmp_ne 45 49 (gd rfl) rfl rfl (fun c42 => ?_) (fun c42 => ?_)
          · skip
            exact n_ne c42 i12 (in_c 3 rfl) rfl
          · skip
            refine g_iconst 1 46 (gd rfl) rfl rfl ?_
            refine g_goto 50 (gd rfl) rfl ?_
            refine g_cmp_eq 53 62 (gd rfl) rfl rfl (fun c50 => ?_) (fun c50 => ?_)
            · skip
              have i50 := r_eq1 1 1 c50 h1 (in_c 1 rfl) rfl
              refine g_iconst 2 63 (gd rfl) rfl rfl ?_
              have n63 : ((Int32.ofInt 2)).toInt = 0 → PR s s26 1 0 := by intro hR; first | (exfalso; revert hR; decide) | exact pr_tr p91 (pr_hold (hF99.1 187 rfl) (hF99.1 188 rfl) (hF99.2.2.1 109 109 rfl) (hF99.2.2.1 109 23 rfl) p99 (by rw [← e99, ← e91a]; exact n99a) (inv_F hI91 0 200 rfl rfl).1 (Or.inr ⟨by first | (have hi := i76x3; unfold In at hi; omega) | (have hi := i76x13; unfold In at hi; omega) | (have hi := i76x19; unfold In at hi; omega) | (have hi := i76x29; unfold In at hi; omega) | (have hi := i76x35; unfold In at hi; omega), rfl⟩)) | exact pr_tr p111 (pr_hold (hF139.1 187 rfl) (hF139.1 188 rfl) (hF139.2.2.1 109 109 rfl) (hF139.2.2.1 109 23 rfl) p139 (by rw [← e139, ← e111a]; exact n139a) (inv_F hI111 0 200 rfl rfl).1 (Or.inr ⟨by first | (have hi := i76x3; unfold In at hi; omega) | (have hi := i76x13; unfold In at hi; omega) | (have hi := i76x19; unfold In at hi; omega) | (have hi := i76x29; unfold In at hi; omega) | (have hi := i76x35; unfold In at hi; omega), rfl⟩)) | exact pr_tr p111 (pr_tr (b := 1) (pr_flt (hF131.1 187 rfl) (hF131.1 188 rfl) (hF131.2.2.1 109 109 rfl) (by rw [← e131]; omega)) (pr_hold (hF139.1 187 rfl) (hF139.1 188 rfl) (hF139.2.2.1 109 109 rfl) (hF139.2.2.1 109 23 rfl) p139 (by rw [← e139, ← (show z111b = s131.2.2.1 109 111 from fr_F e111a hF131 rfl)]; exact n139a) (inv_F hI131 0 200 rfl rfl).1 (Or.inr ⟨by first | (have hi := i76x3; unfold In at hi; omega) | (have hi := i76x13; unfold In at hi; omega) | (have hi := i76x19; unfold In at hi; omega) | (have hi := i76x29; unfold In at hi; omega) | (have hi := i76x35; unfold In at hi; omega), rfl⟩)))
              have n63a : ((Int32.ofInt 2)).toInt ≠ 0 → PR s s26 1 1 := by intro hR; first | (exact absurd rfl hR) | exact p26 | exact pr_tr p26 (pr_flt (hF59.1 187 rfl) (hF59.1 188 rfl) (hF59.2.2.1 109 109 rfl) (by rw [← e59]; omega)) | exact pr_tr p163 (pr_flt (hF181.1 187 rfl) (hF181.1 188 rfl) (hF181.2.2.1 109 109 rfl) (by rw [← e181]; omega)) | exact pr_flt (hF202.1 187 rfl) (hF202.1 188 rfl) (hF202.2.2.1 109 109 rfl) (by rw [← e202]; omega) | exact pr_tr p163 (pr_tr (pr_drop (x := z167x21) (b := z167x20) (hF187.1 187 rfl) (hF187.1 188 rfl) (hF187.2.2.1 109 109 rfl) (hF187.2.2.1 109 23 rfl) (hF187.1 190 rfl) (by rw [← e187]; have a0 := in_u i21; have a1 := in_u ro_109_29; have a2 := in_u i12; have a3 := in_u ((inv_F hI 0 200 rfl e_109_111)); have a4 := in_u ((inv_F hI 0 400 rfl e_109_109)); have a5 := in_u i50; have a6 := in_u i33; have a7 := in_u i26a; omega) (by rw [← e163a]; have a0 := in_u i21; have a1 := in_u ro_109_29; have a2 := in_u i12; have a3 := in_u ((inv_F hI 0 200 rfl e_109_111)); have a4 := in_u ((inv_F hI 0 400 rfl e_109_109)); have a5 := in_u i50; have a6 := in_u i33; have a7 := in_u i26a; omega) i167x20.1 e167x21 (Or.inr (c172.trans rfl))) p191)
              have n63b : (s.2.2.1 109 28).toInt = 0 → ((Int32.ofInt 2)).toInt = 2 := by rw [← e_109_28]; intro h0; first | rfl | (exfalso; have a0 := in_u i21; have a1 := in_u ro_109_29; have a2 := in_u i12; have a3 := in_u ((inv_F hI 0 200 rfl e_109_111)); have a4 := in_u ((inv_F hI 0 400 rfl e_109_109)); have a5 := in_u i50; have a6 := in_u i33; have a7 := in_u i26a; omega)
              have n63c : (z26a).toInt + (z26b).toInt ≤ (u_109_109).toInt + (u_109_111).toInt + 1 := by have a0 := in_u i21; have a1 := in_u ro_109_29; have a2 := in_u i12; have a3 := in_u ((inv_F hI 0 200 rfl e_109_111)); have a4 := in_u ((inv_F hI 0 400 rfl e_109_109)); have a5 := in_u i50; have a6 := in_u i33; have a7 := in_u i26a; omega
              have n63d : (s26.2.2.1 109 109).toInt + (s26.2.2.1 109 111).toInt ≤ (s.2.2.1 109 109).toInt + (s.2.2.1 109 111).toInt + 1 := by have b0 : z26a = s26.2.2.1 109 109 := e26; have b1 : z26b = s26.2.2.1 109 111 := e26a; first | (rw [← b0, ← b1, ← e_109_109, ← e_109_111]; exact n63c) | (rw [← b0, ← b1]; exact n63c)
              have n63e : (u_109_28).toInt = 0 → (z26a).toInt + (z26b).toInt = (u_109_109).toInt + (u_109_111).toInt := by have a0 := in_u i21; have a1 := in_u ro_109_29; have a2 := in_u i12; have a3 := in_u ((inv_F hI 0 200 rfl e_109_111)); have a4 := in_u ((inv_F hI 0 400 rfl e_109_109)); have a5 := in_u i50; have a6 := in_u i33; have a7 := in_u i26a; omega
              have n63f : (s.2.2.1 109 28).toInt = 0 → (s26.2.2.1 109 109).toInt + (s26.2.2.1 109 111).toInt = (s.2.2.1 109 109).toInt + (s.2.2.1 109 111).toInt := by have b0 : z26a = s26.2.2.1 109 109 := e26; have b1 : z26b = s26.2.2.1 109 111 := e26a; first | (rw [← b0, ← b1, ← e_109_28, ← e_109_109, ← e_109_111]; exact n63e) | (rw [← b0, ← b1]; exact n63e)
              exact g_ireturn (gd rfl) rfl rfl (hP _ _ ⟨s26, hI26, (fr_tr rfl fr_rf hF26), n63d, n63f, (Int32.ofInt 2), rfl, rfl, in_w 0 2 (in_c 2 rfl) rfl, n63, n63a, n63b⟩)
            · skip
              have i50 := r_ne1 0 0 c50 h1 (in_c 1 rfl) rfl
              refine g_aload_n 54 (gd rfl) rfl rfl ?_
              refine g_iconst 2 55 (gd rfl) rfl rfl ?_
              refine g_aload_n 56 (gd rfl) rfl rfl ?_
              refine g_getI 59 (gd rfl) rfl rfl rfl (fun z56 e56 => ?_)
              have q56 : u_109_29 = z56 := (fr_F (e_109_29) hF26 rfl).trans e56.symm
              subst q56
              refine g_callv (X := _) (As := [.int (Int32.ofInt 2), .int u_109_29]) (r := []) (b := A 109) (q := 109) 62 (gd rfl) rfl rfl rfl rfl rfl (ww_o rfl) (Nat.le_of_ble_eq_true rfl) (Nat.zero_le _) (Nat.zero_le _) (k_298 (by first | exact dq1 hd rfl | exact dq0 hd rfl | exact dq2 hd rfl | exact dq3 hd rfl | omega) hI26 (in_w 1 5 (in_c 2 rfl) rfl)) (fun e u h => h) (fun v u h => ?_)
              obtain ⟨s59, hI59, hF59, n59, rfl, rfl⟩ := h
              obtain ⟨z59a, e59⟩ : ∃ w, w = s59.2.2.1 109 23 := ⟨_, rfl⟩
              have i59a := inv_F hI59 0 9 rfl e59
              rw [← (show z59a = s59.2.2.1 109 23 from e59)] at n59
              show GG _ _ _ _ _ _ _ _ [] _ _ _
              refine g_iconst 2 63 (gd rfl) rfl rfl ?_
              have n63 : ((Int32.ofInt 2)).toInt = 0 → PR s s59 1 0 := by intro hR; first | (exfalso; revert hR; decide) | exact pr_tr p91 (pr_hold (hF99.1 187 rfl) (hF99.1 188 rfl) (hF99.2.2.1 109 109 rfl) (hF99.2.2.1 109 23 rfl) p99 (by rw [← e99, ← e91a]; exact n99a) (inv_F hI91 0 200 rfl rfl).1 (Or.inr ⟨by first | (have hi := i76x3; unfold In at hi; omega) | (have hi := i76x13; unfold In at hi; omega) | (have hi := i76x19; unfold In at hi; omega) | (have hi := i76x29; unfold In at hi; omega) | (have hi := i76x35; unfold In at hi; omega), rfl⟩)) | exact pr_tr p111 (pr_hold (hF139.1 187 rfl) (hF139.1 188 rfl) (hF139.2.2.1 109 109 rfl) (hF139.2.2.1 109 23 rfl) p139 (by rw [← e139, ← e111a]; exact n139a) (inv_F hI111 0 200 rfl rfl).1 (Or.inr ⟨by first | (have hi := i76x3; unfold In at hi; omega) | (have hi := i76x13; unfold In at hi; omega) | (have hi := i76x19; unfold In at hi; omega) | (have hi := i76x29; unfold In at hi; omega) | (have hi := i76x35; unfold In at hi; omega), rfl⟩)) | exact pr_tr p111 (pr_tr (b := 1) (pr_flt (hF131.1 187 rfl) (hF131.1 188 rfl) (hF131.2.2.1 109 109 rfl) (by rw [← e131]; omega)) (pr_hold (hF139.1 187 rfl) (hF139.1 188 rfl) (hF139.2.2.1 109 109 rfl) (hF139.2.2.1 109 23 rfl) p139 (by rw [← e139, ← (show z111b = s131.2.2.1 109 111 from fr_F e111a hF131 rfl)]; exact n139a) (inv_F hI131 0 200 rfl rfl).1 (Or.inr ⟨by first | (have hi := i76x3; unfold In at hi; omega) | (have hi := i76x13; unfold In at hi; omega) | (have hi := i76x19; unfold In at hi; omega) | (have hi := i76x29; unfold In at hi; omega) | (have hi := i76x35; unfold In at hi; omega), rfl⟩)))
              have n63a : ((Int32.ofInt 2)).toInt ≠ 0 → PR s s59 1 1 := by intro hR; first | (exact absurd rfl hR) | exact p26 | exact pr_tr p26 (pr_flt (hF59.1 187 rfl) (hF59.1 188 rfl) (hF59.2.2.1 109 109 rfl) (by rw [← e59]; omega)) | exact pr_tr p163 (pr_flt (hF181.1 187 rfl) (hF181.1 188 rfl) (hF181.2.2.1 109 109 rfl) (by rw [← e181]; omega)) | exact pr_flt (hF202.1 187 rfl) (hF202.1 188 rfl) (hF202.2.2.1 109 109 rfl) (by rw [← e202]; omega) | exact pr_tr p163 (pr_tr (pr_drop (x := z167x21) (b := z167x20) (hF187.1 187 rfl) (hF187.1 188 rfl) (hF187.2.2.1 109 109 rfl) (hF187.2.2.1 109 23 rfl) (hF187.1 190 rfl) (by rw [← e187]; have a0 := in_u i21; have a1 := in_u ro_109_29; have a2 := in_u i12; have a3 := in_u ((inv_F hI 0 200 rfl e_109_111)); have a4 := in_u ((inv_F hI 0 400 rfl e_109_109)); have a5 := in_u i50; have a6 := in_u i59a; have a7 := in_u i33; have a8 := in_u i26a; omega) (by rw [← e163a]; have a0 := in_u i21; have a1 := in_u ro_109_29; have a2 := in_u i12; have a3 := in_u ((inv_F hI 0 200 rfl e_109_111)); have a4 := in_u ((inv_F hI 0 400 rfl e_109_109)); have a5 := in_u i50; have a6 := in_u i59a; have a7 := in_u i33; have a8 := in_u i26a; omega) i167x20.1 e167x21 (Or.inr (c172.trans rfl))) p191)
              have n63b : (s.2.2.1 109 28).toInt = 0 → ((Int32.ofInt 2)).toInt = 2 := by rw [← e_109_28]; intro h0; first | rfl | (exfalso; have a0 := in_u i21; have a1 := in_u ro_109_29; have a2 := in_u i12; have a3 := in_u ((inv_F hI 0 200 rfl e_109_111)); have a4 := in_u ((inv_F hI 0 400 rfl e_109_109)); have a5 := in_u i50; have a6 := in_u i59a; have a7 := in_u i33; have a8 := in_u i26a; omega)
              have n63c : (z26a).toInt + (z26b).toInt ≤ (u_109_109).toInt + (u_109_111).toInt + 1 := by have a0 := in_u i21; have a1 := in_u ro_109_29; have a2 := in_u i12; have a3 := in_u ((inv_F hI 0 200 rfl e_109_111)); have a4 := in_u ((inv_F hI 0 400 rfl e_109_109)); have a5 := in_u i50; have a6 := in_u i59a; have a7 := in_u i33; have a8 := in_u i26a; omega
              have n63d : (s59.2.2.1 109 109).toInt + (s59.2.2.1 109 111).toInt ≤ (s.2.2.1 109 109).toInt + (s.2.2.1 109 111).toInt + 1 := by have b0 : z26a = s59.2.2.1 109 109 := fr_F (e26) hF59 rfl; have b1 : z26b = s59.2.2.1 109 111 := fr_F (e26a) hF59 rfl; first | (rw [← b0, ← b1, ← e_109_109, ← e_109_111]; exact n63c) | (rw [← b0, ← b1]; exact n63c)
              have n63e : (u_109_28).toInt = 0 → (z26a).toInt + (z26b).toInt = (u_109_109).toInt + (u_109_111).toInt := by have a0 := in_u i21; have a1 := in_u ro_109_29; have a2 := in_u i12; have a3 := in_u ((inv_F hI 0 200 rfl e_109_111)); have a4 := in_u ((inv_F hI 0 400 rfl e_109_109)); have a5 := in_u i50; have a6 := in_u i59a; have a7 := in_u i33; have a8 := in_u i26a; omega
              have n63f : (s.2.2.1 109 28).toInt = 0 → (s59.2.2.1 109 109).toInt + (s59.2.2.1 109 111).toInt = (s.2.2.1 109 109).toInt + (s.2.2.1 109 111).toInt := by have b0 : z26a = s59.2.2.1 109 109 := fr_F (e26) hF59 rfl; have b1 : z26b = s59.2.2.1 109 111 := fr_F (e26a) hF59 rfl; first | (rw [← b0, ← b1, ← e_109_28, ← e_109_109, ← e_109_111]; exact n63e) | (rw [← b0, ← b1]; exact n63e)
              exact g_ireturn (gd rfl) rfl rfl (hP _ _ ⟨s59, hI59, (fr_tr rfl (fr_tr rfl fr_rf hF26) hF59), n63d, n63f, (Int32.ofInt 2), rfl, rfl, in_w 0 2 (in_c 2 rfl) rfl, n63, n63a, n63b⟩)
