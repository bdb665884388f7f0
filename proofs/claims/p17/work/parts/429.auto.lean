section
/-! methods, by vc.py -/
def fm_363 : FM := ([153, 154, 157, 158, 159], [155, 156], [(109, 0)], [])
/-- GraphHouseModel.tree -/
theorem k_363 {Z : AmZ} {A : Nat → Nat} {s : GS} {ex : va_W} {d : Nat} {X : AmX} {x1 : Int32} (hd : 4 ≤ d) (hI : Inv s)  : GC Z d 363 [.ref (A 109), .int x1] (WW Z A s ++ ex) 0 0 (fun v u => ∃ t : GS, Inv t ∧ Fr fm_363 s t ∧ ∃ z : Int64, v = some (.long z) ∧ u = WW Z A t ++ ex) X := by
  intro post xp hP hX
  obtain ⟨u_109_19, e_109_19⟩ : ∃ w, w = s.2.2.1 109 19 := ⟨_, rfl⟩
  have ro_109_19 := inv_F hI 0 160 rfl e_109_19
  obtain ⟨u_109_20, e_109_20⟩ : ∃ w, w = s.2.2.1 109 20 := ⟨_, rfl⟩
  have ro_109_20 := inv_F hI 0 32 rfl e_109_20
  have ct105 : ∀ (k105 : Nat) (sc105 : GS) (y105_2 : Int32) (y105_3 : Int32) (y105_4 : Int32) (y105_5 : Int64), Inv sc105 → Fr fm_363 s sc105 → (In x1 0 31) → (In y105_2 0 160) → (In y105_3 0 32) → (In y105_4 0 31) → ((y105_4).toInt < (y105_3).toInt) → (0 ≤ (y105_4).toInt) → (0 ≤ (y105_2).toInt) → (EE sc105 (y105_2).toInt (y105_3).toInt) → (y105_3).toInt < (k105 : Int) → GG Z (d - 1) 363 post (gx xp) (1 + k105 * 357304) 105 (fun j => xlook j [(0, .ref (A 109)), (1, .int x1), (2, .int y105_2), (3, .int y105_3), (4, .int y105_4), (5, .long y105_5)]) [] (WW Z A sc105 ++ ex) 0 0 := by
    intro k105
    induction k105 with
    | zero => intro sc105 y105_2 y105_3 y105_4 y105_5 hIc105 hFc105 j105_1 j105_2 j105_3 j105_4 n105_0 n105_1 n105_2 g105_0 mm105; exfalso; have a0 := j105_1; unfold In at a0; have a1 := oa2 ro_109_20 ro_109_19; have a3 := j105_4; unfold In at a3; have a4 := j105_3; unfold In at a4; have a5 := j105_2; unfold In at a5; omega
    | succ k105 ih105 =>
      intro sc105 y105_2 y105_3 y105_4 y105_5 hIc105 hFc105 j105_1 j105_2 j105_3 j105_4 n105_0 n105_1 n105_2 g105_0 mm105
      refine gg_w (M := 1 + k105 * 357304 + 357304) gws ?_
      have ct348 : ∀ (k348 : Nat) (sc348 : GS) (y348_5 : Int64) (y348_7 : Int32) (y348_8 : Int32), Inv sc348 → Fr fm_363 s sc348 → (In y105_3 2 32) → (In y348_7 0 32) → (In y348_8 0 160) → ((y105_4).toInt < (y105_3).toInt) → (0 ≤ (y105_4).toInt) → (0 ≤ (y105_2).toInt) → ((y348_7).toInt < (y105_3).toInt) → (∀ k : Nat, (k : Int) < (y105_3).toInt → 0 ≤ (sc348.1 158 k).toInt ∧ (sc348.1 158 k).toInt < (y348_7).toInt) → (EE sc348 (y348_8).toInt (y348_7).toInt) → (∀ e : Nat, (y348_8).toInt ≤ (e : Int) → (e : Int) < (y105_2).toInt → (sc348.1 153 e).toInt < (y105_3).toInt ∧ (sc348.1 154 e).toInt < (y105_3).toInt) → 160 - (y348_8).toInt < (k348 : Int) → GG Z (d - 1) 363 post (gx xp) (1 + k105 * 357304 + 1 + k348 * 900) 348 (fun j => xlook j [(0, .ref (A 109)), (1, .int x1), (2, .int y105_2), (3, .int y105_3), (4, .int y105_4), (5, .long y348_5), (7, .int y348_7), (8, .int y348_8)]) [] (WW Z A sc348 ++ ex) 0 0 := by
        intro k348
        induction k348 with
        | zero => intro sc348 y348_5 y348_7 y348_8 hIc348 hFc348 j348_3 j348_7 j348_8 n348_0 n348_1 n348_2 n348_3 g348_0 g348_1 g348_2 mm348; exact m_no mm348 j348_8 rfl
        | succ k348 ih348 =>
          intro sc348 y348_5 y348_7 y348_8 hIc348 hFc348 j348_3 j348_7 j348_8 n348_0 n348_1 n348_2 n348_3 g348_0 g348_1 g348_2 mm348
          refine gg_w (M := 1 + k105 * 357304 + 1 + k348 * 900 + 900) gws ?_
          refine g_iload 350 (gd rfl) rfl rfl ?_
          refine g_iload_n 351 (gd rfl) rfl rfl ?_
          refine g_cmp_ge 354 442 (gd rfl) rfl rfl (fun c351 => ?_) (fun c351 => ?_)
          · skip
            refine g_aload_n 443 (gd rfl) rfl rfl ?_
            refine g_getA (q2 := 158) 446 (gd rfl) rfl rfl rfl rfl ?_
            refine g_iload 448 (gd rfl) rfl rfl ?_
            refine g_iaload 449 (gd rfl) rfl (n := 32) rfl (in_ix j105_4 rfl) (fun z448 e448 => ?_)
            have i449 : In z448 0 31 := by have hR := g348_0 y105_4.toNatClampNeg (by show ((y105_4.toInt.toNat : Nat) : Int) < _; have a0 := oa8 j105_4 j348_3 j105_2 j105_1 ro_109_20 ro_109_19 j348_8 j348_7; omega); rw [← e448] at hR; exact ⟨hR.1, by have a0 := oa8 j105_4 j348_3 j105_2 j105_1 ro_109_20 ro_109_19 j348_8 j348_7; omega⟩
            have hz448 : (z448).toInt < y348_7.toInt := (by have hR := g348_0 y105_4.toNatClampNeg (by show ((y105_4.toInt.toNat : Nat) : Int) < _; have a0 := oa8 j105_4 j348_3 j105_2 j105_1 ro_109_20 ro_109_19 j348_8 j348_7; omega); rw [← e448] at hR; exact hR.2)
            refine g_istore 451 (gd rfl) rfl (Nat.le_of_ble_eq_true rfl) ?_
            refine g_iload 453 (gd rfl) rfl rfl ?_
            refine g_istore_n 454 (gd rfl) rfl (Nat.le_of_ble_eq_true rfl) ?_
            refine g_goto 105 (gd rfl) rfl ?_
            have n105 : (z448).toInt < (y348_7).toInt := by have a0 := oa9 j105_4 j348_3 j105_2 j105_1 ro_109_20 ro_109_19 j348_8 j348_7 i449; omega
            have n105a : 0 ≤ (z448).toInt := by have a0 := oa9 j105_4 j348_3 j105_2 j105_1 ro_109_20 ro_109_19 j348_8 j348_7 i449; omega
            have n105b : 0 ≤ (y105_2).toInt := by first | exact n105_2 | (have a0 := oa9 j105_4 j348_3 j105_2 j105_1 ro_109_20 ro_109_19 j348_8 j348_7 i449; omega)
            have n105c : EE sc348 (y105_2).toInt (y348_7).toInt := by first | exact fun e he => g348_1 e (by have a0 := oa9 j105_4 j348_3 j105_2 j105_1 ro_109_20 ro_109_19 j348_8 j348_7 i449; omega) | exact g18_0
            have m105 : (y348_7).toInt < ((k105 : Nat) : Int) := by have a0 := oa9 j105_4 j348_3 j105_2 j105_1 ro_109_20 ro_109_19 j348_8 j348_7 i449; omega
            exact gg_w (by first | exact Nat.le_add_right _ _ | exact gw2 | exact gw3 | exact gwe rfl | exact gwf rfl | exact gwg rfl | exact gwh rfl | omega) (gg_f (gf_cons rfl (gf_cons rfl (gf_cons rfl (gf_cons rfl (gf_cons rfl (gf_cons rfl gf_nil)))))) (ih105  sc348 y105_2 y348_7 z448 y348_5 hIc348 hFc348 (in_w 0 31 j105_1 rfl) (in_w 0 160 j105_2 rfl) (in_w 0 32 j348_7 rfl) (in_w 0 31 i449 rfl) n105 n105a n105b n105c m105))
          · skip
            have i351 := r_lt1 0 159 c351 j348_8 j105_2 rfl
            have i351a := r_lt2 1 160 c351 j348_8 j105_2 rfl
            refine g_aload_n 355 (gd rfl) rfl rfl ?_
            refine g_getA (q2 := 154) 358 (gd rfl) rfl rfl rfl rfl ?_
            refine g_iload 360 (gd rfl) rfl rfl ?_
            refine g_iaload 361 (gd rfl) rfl (n := 160) rfl (in_ix i351 rfl) (fun z360 e360 => ?_)
            have i360 := inv_I hIc348 (n := 160) (t := 0) 0 31 rfl (in_ix i351 rfl) rfl e360
            refine g_istore 363 (gd rfl) rfl (Nat.le_of_ble_eq_true rfl) ?_
            refine g_aload_n 364 (gd rfl) rfl rfl ?_
            refine g_getA (q2 := 155) 367 (gd rfl) rfl rfl rfl rfl ?_
            refine g_iload 369 (gd rfl) rfl rfl ?_
            refine g_dup2 370 (gd rfl) rfl rfl rfl ?_
            refine g_laload 371 (gd rfl) rfl (n := 160) rfl (in_ix i351 rfl) (fun z370 e370 => ?_)
            refine g_aload_n 372 (gd rfl) rfl rfl ?_
            refine g_getA (q2 := 153) 375 (gd rfl) rfl rfl rfl rfl ?_
            refine g_iload 377 (gd rfl) rfl rfl ?_
            refine g_iaload 378 (gd rfl) rfl (n := 160) rfl (in_ix i351 rfl) (fun z377 e377 => ?_)
            have i377 := inv_I hIc348 (n := 160) (t := 0) 0 31 rfl (in_ix i351 rfl) rfl e377
            refine g_iload 380 (gd rfl) rfl rfl ?_
            refine g_cmp_eq 383 400 (gd rfl) rfl rfl (fun c380 => ?_) (fun c380 => ?_)
            · skip
              refine g_lconst 0 401 (gd rfl) rfl rfl ?_
              refine g_lsub 402 (gd rfl) rfl (fun z401 e401 => ?_)
              refine g_lastore 403 (gd rfl) rfl (n := 160) rfl (in_ix i351 rfl) ?_
              have hI402 := inv_sL (q := 155) (j := y348_8.toNatClampNeg) (x := z401) hIc348 rfl (l_rng z401)
              refine g_aload_n 404 (gd rfl) rfl rfl ?_
              refine g_getA (q2 := 153) 407 (gd rfl) rfl rfl rfl rfl ?_
              refine g_iload 409 (gd rfl) rfl rfl ?_
              refine g_aload_n 410 (gd rfl) rfl rfl ?_
              refine g_getA (q2 := 158) 413 (gd rfl) rfl rfl rfl rfl ?_
              refine g_aload_n 414 (gd rfl) rfl rfl ?_
              refine g_getA (q2 := 153) 417 (gd rfl) rfl rfl rfl rfl ?_
              refine g_iload 419 (gd rfl) rfl rfl ?_
              refine g_iaload 420 (gd rfl) rfl (n := 160) rfl (in_ix i351 rfl) (fun z419 e419 => ?_)
              have q419 : z377 = z419 := (sL_I (e377)).trans e419.symm
              subst q419
              refine g_iaload 421 (gd rfl) rfl (n := 32) rfl (in_ix i377 rfl) (fun z420 e420 => ?_)
              have i421 : In z420 0 31 := by have hE := (g348_2 y348_8.toNatClampNeg (by show _ ≤ ((y348_8.toInt.toNat : Nat) : Int); have a0 := oa9 j105_4 j348_3 i351a j105_1 ro_109_20 ro_109_19 i351 j348_7 i360; omega) (by show ((y348_8.toInt.toNat : Nat) : Int) < _; have a0 := oa9 j105_4 j348_3 i351a j105_1 ro_109_20 ro_109_19 i351 j348_7 i360; omega)).1; rw [← e377] at hE; have hR := g348_0 z377.toNatClampNeg (by show ((z377.toInt.toNat : Nat) : Int) < _; have hz := i377; unfold In at hz; omega); rw [show sc348.1 158 z377.toNatClampNeg = z420 from e420.symm] at hR; exact ⟨hR.1, by have a0 := oa9 j105_4 j348_3 i351a j105_1 ro_109_20 ro_109_19 i351 j348_7 i360; omega⟩
              have hz420 : (z420).toInt < y348_7.toInt := (by have hE := (g348_2 y348_8.toNatClampNeg (by show _ ≤ ((y348_8.toInt.toNat : Nat) : Int); have a0 := oa9 j105_4 j348_3 i351a j105_1 ro_109_20 ro_109_19 i351 j348_7 i360; omega) (by show ((y348_8.toInt.toNat : Nat) : Int) < _; have a0 := oa9 j105_4 j348_3 i351a j105_1 ro_109_20 ro_109_19 i351 j348_7 i360; omega)).1; rw [← e377] at hE; have hR := g348_0 z377.toNatClampNeg (by show ((z377.toInt.toNat : Nat) : Int) < _; have hz := i377; unfold In at hz; omega); rw [show sc348.1 158 z377.toNatClampNeg = z420 from e420.symm] at hR; exact hR.2)
              refine g_iastore 422 (gd rfl) rfl (n := 160) rfl (in_ix i351 rfl) ?_
              have hI421 := inv_sI (q := 153) (j := y348_8.toNatClampNeg) hI402 rfl (in_w 0 31 i421 rfl)
              refine g_aload_n 423 (gd rfl) rfl rfl ?_
              refine g_getA (q2 := 154) 426 (gd rfl) rfl rfl rfl rfl ?_
              refine g_iload 428 (gd rfl) rfl rfl ?_
              refine g_aload_n 429 (gd rfl) rfl rfl ?_
              refine g_getA (q2 := 158) 432 (gd rfl) rfl rfl rfl rfl ?_
              refine g_iload 434 (gd rfl) rfl rfl ?_
              refine g_iaload 435 (gd rfl) rfl (n := 32) rfl (in_ix i360 rfl) (fun z434 e434 => ?_)
              have i435 : In z434 0 31 := by have hE := (g348_2 y348_8.toNatClampNeg (by show _ ≤ ((y348_8.toInt.toNat : Nat) : Int); have a0 := oa9 j105_4 j348_3 i351a j105_1 ro_109_20 ro_109_19 i351 j348_7 i360; omega) (by show ((y348_8.toInt.toNat : Nat) : Int) < _; have a0 := oa9 j105_4 j348_3 i351a j105_1 ro_109_20 ro_109_19 i351 j348_7 i360; omega)).2; rw [← e360] at hE; have hR := g348_0 z360.toNatClampNeg (by show ((z360.toInt.toNat : Nat) : Int) < _; have hz := i360; unfold In at hz; omega); rw [show sc348.1 158 z360.toNatClampNeg = z434 from (by have h := e434; rw [sI_p rfl] at h; exact h.symm)] at hR; exact ⟨hR.1, by have a0 := oa9 j105_4 j348_3 i351a j105_1 ro_109_20 ro_109_19 i351 j348_7 i360; omega⟩
              have hz434 : (z434).toInt < y348_7.toInt := (by have hE := (g348_2 y348_8.toNatClampNeg (by show _ ≤ ((y348_8.toInt.toNat : Nat) : Int); have a0 := oa9 j105_4 j348_3 i351a j105_1 ro_109_20 ro_109_19 i351 j348_7 i360; omega) (by show ((y348_8.toInt.toNat : Nat) : Int) < _; have a0 := oa9 j105_4 j348_3 i351a j105_1 ro_109_20 ro_109_19 i351 j348_7 i360; omega)).2; rw [← e360] at hE; have hR := g348_0 z360.toNatClampNeg (by show ((z360.toInt.toNat : Nat) : Int) < _; have hz := i360; unfold In at hz; omega); rw [show sc348.1 158 z360.toNatClampNeg = z434 from (by have h := e434; rw [sI_p rfl] at h; exact h.symm)] at hR; exact hR.2)
              refine g_iastore 436 (gd rfl) rfl (n := 160) rfl (in_ix i351 rfl) ?_
              have hI435 := inv_sI (q := 154) (j := y348_8.toNatClampNeg) hI421 rfl (in_w 0 31 i435 rfl)
              refine g_iinc 439 (gd rfl) rfl rfl (Nat.le_of_ble_eq_true rfl) (fun z436 e436 => ?_)
              have i436 := in_add 1 160 e436 i351 (in_c 1 rfl) rfl rfl
              refine g_goto 348 (gd rfl) rfl ?_
              have n348 : (y105_4).toInt < (y105_3).toInt := by first | exact n105_0 | (have a0 := oa10 j105_4 j348_3 i351a j105_1 ro_109_20 ro_109_19 i351 j348_7 i360 i436; have a10 := t_add e436 i351 (in_c 1 rfl) rfl; have a11 := in_u ((in_c 1 rfl)); omega)
              have n348a : 0 ≤ (y105_4).toInt := by first | exact n105_1 | (have a0 := oa10 j105_4 j348_3 i351a j105_1 ro_109_20 ro_109_19 i351 j348_7 i360 i436; have a10 := t_add e436 i351 (in_c 1 rfl) rfl; have a11 := in_u ((in_c 1 rfl)); omega)
              have n348b : 0 ≤ (y105_2).toInt := by first | exact n105_2 | (have a0 := oa10 j105_4 j348_3 i351a j105_1 ro_109_20 ro_109_19 i351 j348_7 i360 i436; have a10 := t_add e436 i351 (in_c 1 rfl) rfl; have a11 := in_u ((in_c 1 rfl)); omega)
              have n348c : (y348_7).toInt < (y105_3).toInt := by first | exact n348_3 | (have a0 := oa10 j105_4 j348_3 i351a j105_1 ro_109_20 ro_109_19 i351 j348_7 i360 i436; have a10 := t_add e436 i351 (in_c 1 rfl) rfl; have a11 := in_u ((in_c 1 rfl)); omega)
              have n348d : ∀ k : Nat, (k : Int) < (y105_3).toInt → 0 ≤ ((sI (sI (sL sc348 155 y348_8.toNatClampNeg z401) 153 y348_8.toNatClampNeg z420) 154 y348_8.toNatClampNeg z434).1 158 k).toInt ∧ ((sI (sI (sL sc348 155 y348_8.toNatClampNeg z401) 153 y348_8.toNatClampNeg z420) 154 y348_8.toNatClampNeg z434).1 158 k).toInt < (y348_7).toInt := by first | exact p331b | (intro k hk; rw [sI_p rfl, sI_p rfl]; exact g348_0 k hk)
              have n348e : EE (sI (sI (sL sc348 155 y348_8.toNatClampNeg z401) 153 y348_8.toNatClampNeg z420) 154 y348_8.toNatClampNeg z434) (z436).toInt (y348_7).toInt := by first | exact ee_s g348_1 (y := y348_8) (z := z420) (w := z434) (by simp [sL, sI]) (by simp [sL, sI]) (by have a0 := oa10 j105_4 j348_3 i351a j105_1 ro_109_20 ro_109_19 i351 j348_7 i360 i436; have a10 := t_add e436 i351 (in_c 1 rfl) rfl; have a11 := in_u ((in_c 1 rfl)); omega) rfl hz420 hz434 (by have a0 := oa10 j105_4 j348_3 i351a j105_1 ro_109_20 ro_109_19 i351 j348_7 i360 i436; have a10 := t_add e436 i351 (in_c 1 rfl) rfl; have a11 := in_u ((in_c 1 rfl)); omega) | exact ee_0 (by decide)
              have n348f : ∀ e : Nat, (z436).toInt ≤ (e : Int) → (e : Int) < (y105_2).toInt → ((sI (sI (sL sc348 155 y348_8.toNatClampNeg z401) 153 y348_8.toNatClampNeg z420) 154 y348_8.toNatClampNeg z434).1 153 e).toInt < (y105_3).toInt ∧ ((sI (sI (sL sc348 155 y348_8.toNatClampNeg z401) 153 y348_8.toNatClampNeg z420) 154 y348_8.toNatClampNeg z434).1 154 e).toInt < (y105_3).toInt := by first | (intro e h1 h2; rw [hF331.1 153 rfl, hF331.1 154 rfl]; exact g252_0 e h2) | (intro e h1 h2; have q1 : ((sI (sI (sL sc348 155 y348_8.toNatClampNeg z401) 153 y348_8.toNatClampNeg z420) 154 y348_8.toNatClampNeg z434)).1 153 = upd (sc348.1 153) y348_8.toNatClampNeg z420 := (by simp [sL, sI]); have q2 : ((sI (sI (sL sc348 155 y348_8.toNatClampNeg z401) 153 y348_8.toNatClampNeg z420) 154 y348_8.toNatClampNeg z434)).1 154 = upd (sc348.1 154) y348_8.toNatClampNeg z434 := (by simp [sL, sI]); have e8 : y348_8.toNatClampNeg = y348_8.toInt.toNat := rfl; have hne : e ≠ y348_8.toNatClampNeg := (by have a0 := oa10 j105_4 j348_3 i351a j105_1 ro_109_20 ro_109_19 i351 j348_7 i360 i436; have a10 := t_add e436 i351 (in_c 1 rfl) rfl; have a11 := in_u ((in_c 1 rfl)); omega); rw [q1, q2]; unfold upd; rw [if_neg hne, if_neg hne]; exact g348_2 e (by have a0 := oa10 j105_4 j348_3 i351a j105_1 ro_109_20 ro_109_19 i351 j348_7 i360 i436; have a10 := t_add e436 i351 (in_c 1 rfl) rfl; have a11 := in_u ((in_c 1 rfl)); omega) h2)
              exact gg_w (by first | exact Nat.le_add_right _ _ | exact gw2 | exact gw3 | exact gwe rfl | exact gwf rfl | exact gwg rfl | exact gwh rfl | omega) (gg_f (gf_cons rfl (gf_cons rfl (gf_cons rfl (gf_cons rfl (gf_cons rfl (gf_cons rfl (gf_cons rfl (gf_cons rfl gf_nil)))))))) (ih348 (sI (sI (sL sc348 155 y348_8.toNatClampNeg z401) 153 y348_8.toNatClampNeg z420) 154 y348_8.toNatClampNeg z434) y348_5 y348_7 z436 hI435 (fr_sI rfl (fr_sI rfl (fr_sL rfl hFc348))) (in_w 2 32 j348_3 rfl) (in_w 0 32 j348_7 rfl) (in_w 0 160 i436 rfl) n348 n348a n348b n348c n348d n348e n348f (m_up mm348 (t_add e436 i351 (in_c 1 rfl) rfl) (in_w 1 1 (in_c 1 rfl) rfl))))
            · skip
              refine g_iload 385 (gd rfl) rfl rfl ?_
              refine g_iload 387 (gd rfl) rfl rfl ?_
              refine g_cmp_eq 390 400 (gd rfl) rfl rfl (fun c387 => ?_) (fun c387 => ?_)
              · skip
                refine g_lconst 0 401 (gd rfl) rfl rfl ?_
                refine g_lsub 402 (gd rfl) rfl (fun z401 e401 => ?_)
                refine g_lastore 403 (gd rfl) rfl (n := 160) rfl (in_ix i351 rfl) ?_
                have hI402 := inv_sL (q := 155) (j := y348_8.toNatClampNeg) (x := z401) hIc348 rfl (l_rng z401)
                refine g_aload_n 404 (gd rfl) rfl rfl ?_
                refine g_getA (q2 := 153) 407 (gd rfl) rfl rfl rfl rfl ?_
                refine g_iload 409 (gd rfl) rfl rfl ?_
                refine g_aload_n 410 (gd rfl) rfl rfl ?_
                refine g_getA (q2 := 158) 413 (gd rfl) rfl rfl rfl rfl ?_
                refine g_aload_n 414 (gd rfl) rfl rfl ?_
                refine g_getA (q2 := 153) 417 (gd rfl) rfl rfl rfl rfl ?_
                refine g_iload 419 (gd rfl) rfl rfl ?_
                refine g_iaload 420 (gd rfl) rfl (n := 160) rfl (in_ix i351 rfl) (fun z419 e419 => ?_)
                have q419 : z377 = z419 := (sL_I (e377)).trans e419.symm
                subst q419
                refine g_iaload 421 (gd rfl) rfl (n := 32) rfl (in_ix i377 rfl) (fun z420 e420 => ?_)
                have i421 : In z420 0 31 := by have hE := (g348_2 y348_8.toNatClampNeg (by show _ ≤ ((y348_8.toInt.toNat : Nat) : Int); have a0 := oa9 j105_4 j348_3 i351a j105_1 ro_109_20 ro_109_19 i351 j348_7 i360; omega) (by show ((y348_8.toInt.toNat : Nat) : Int) < _; have a0 := oa9 j105_4 j348_3 i351a j105_1 ro_109_20 ro_109_19 i351 j348_7 i360; omega)).1; rw [← e377] at hE; have hR := g348_0 z377.toNatClampNeg (by show ((z377.toInt.toNat : Nat) : Int) < _; have hz := i377; unfold In at hz; omega); rw [show sc348.1 158 z377.toNatClampNeg = z420 from e420.symm] at hR; exact ⟨hR.1, by have a0 := oa9 j105_4 j348_3 i351a j105_1 ro_109_20 ro_109_19 i351 j348_7 i360; omega⟩
                have hz420 : (z420).toInt < y348_7.toInt := (by have hE := (g348_2 y348_8.toNatClampNeg (by show _ ≤ ((y348_8.toInt.toNat : Nat) : Int); have a0 := oa9 j105_4 j348_3 i351a j105_1 ro_109_20 ro_109_19 i351 j348_7 i360; omega) (by show ((y348_8.toInt.toNat : Nat) : Int) < _; have a0 := oa9 j105_4 j348_3 i351a j105_1 ro_109_20 ro_109_19 i351 j348_7 i360; omega)).1; rw [← e377] at hE; have hR := g348_0 z377.toNatClampNeg (by show ((z377.toInt.toNat : Nat) : Int) < _; have hz := i377; unfold In at hz; omega); rw [show sc348.1 158 z377.toNatClampNeg = z420 from e420.symm] at hR; exact hR.2)
                refine g_iastore 422 (gd rfl) rfl (n := 160) rfl (in_ix i351 rfl) ?_
                have hI421 := inv_sI (q := 153) (j := y348_8.toNatClampNeg) hI402 rfl (in_w 0 31 i421 rfl)
                refine g_aload_n 423 (gd rfl) rfl rfl ?_
                refine g_getA (q2 := 154) 426 (gd rfl) rfl rfl rfl rfl ?_
                refine g_iload 428 (gd rfl) rfl rfl ?_
                refine g_aload_n 429 (gd rfl) rfl rfl ?_
                refine g_getA (q2 := 158) 432 (gd rfl) rfl rfl rfl rfl ?_
                refine g_iload 434 (gd rfl) rfl rfl ?_
                refine g_iaload 435 (gd rfl) rfl (n := 32) rfl (in_ix i360 rfl) (fun z434 e434 => ?_)
                have i435 : In z434 0 31 := by have hE := (g348_2 y348_8.toNatClampNeg (by show _ ≤ ((y348_8.toInt.toNat : Nat) : Int); have a0 := oa9 j105_4 j348_3 i351a j105_1 ro_109_20 ro_109_19 i351 j348_7 i360; omega) (by show ((y348_8.toInt.toNat : Nat) : Int) < _; have a0 := oa9 j105_4 j348_3 i351a j105_1 ro_109_20 ro_109_19 i351 j348_7 i360; omega)).2; rw [← e360] at hE; have hR := g348_0 z360.toNatClampNeg (by show ((z360.toInt.toNat : Nat) : Int) < _; have hz := i360; unfold In at hz; omega); rw [show sc348.1 158 z360.toNatClampNeg = z434 from (by have h := e434; rw [sI_p rfl] at h; exact h.symm)] at hR; exact ⟨hR.1, by have a0 := oa9 j105_4 j348_3 i351a j105_1 ro_109_20 ro_109_19 i351 j348_7 i360; omega⟩
                have hz434 : (z434).toInt < y348_7.toInt := (by have hE := (g348_2 y348_8.toNatClampNeg (by show _ ≤ ((y348_8.toInt.toNat : Nat) : Int); have a0 := oa9 j105_4 j348_3 i351a j105_1 ro_109_20 ro_109_19 i351 j348_7 i360; omega) (by show ((y348_8.toInt.toNat : Nat) : Int) < _; have a0 := oa9 j105_4 j348_3 i351a j105_1 ro_109_20 ro_109_19 i351 j348_7 i360; omega)).2; rw [← e360] at hE; have hR := g348_0 z360.toNatClampNeg (by show ((z360.toInt.toNat : Nat) : Int) < _; have hz := i360; unfold In at hz; omega); rw [show sc348.1 158 z360.toNatClampNeg = z434 from (by have h := e434; rw [sI_p rfl] at h; exact h.symm)] at hR; exact hR.2)
                refine g_iastore 436 (gd rfl) rfl (n := 160) rfl (in_ix i351 rfl) ?_
                have hI435 := inv_sI (q := 154) (j := y348_8.toNatClampNeg) hI421 rfl (in_w 0 31 i435 rfl)
                refine g_iinc 439 (gd rfl) rfl rfl (Nat.le_of_ble_eq_true rfl) (fun z436 e436 => ?_)
                have i436 := in_add 1 160 e436 i351 (in_c 1 rfl) rfl rfl
                refine g_goto 348 (gd rfl) rfl ?_
                have n348 : (y105_4).toInt < (y105_3).toInt := by first | exact n105_0 | (have a0 := oa10 j105_4 j348_3 i351a j105_1 ro_109_20 ro_109_19 i351 j348_7 i360 i436; have a10 := t_add e436 i351 (in_c 1 rfl) rfl; have a11 := in_u ((in_c 1 rfl)); omega)
                have n348a : 0 ≤ (y105_4).toInt := by first | exact n105_1 | (have a0 := oa10 j105_4 j348_3 i351a j105_1 ro_109_20 ro_109_19 i351 j348_7 i360 i436; have a10 := t_add e436 i351 (in_c 1 rfl) rfl; have a11 := in_u ((in_c 1 rfl)); omega)
                have n348b : 0 ≤ (y105_2).toInt := by first | exact n105_2 | (have a0 := oa10 j105_4 j348_3 i351a j105_1 ro_109_20 ro_109_19 i351 j348_7 i360 i436; have a10 := t_add e436 i351 (in_c 1 rfl) rfl; have a11 := in_u ((in_c 1 rfl)); omega)
                have n348c : (y348_7).toInt < (y105_3).toInt := by first | exact n348_3 | (have a0 := oa10 j105_4 j348_3 i351a j105_1 ro_109_20 ro_109_19 i351 j348_7 i360 i436; have a10 := t_add e436 i351 (in_c 1 rfl) rfl; have a11 := in_u ((in_c 1 rfl)); omega)
                have n348d : ∀ k : Nat, (k : Int) < (y105_3).toInt → 0 ≤ ((sI (sI (sL sc348 155 y348_8.toNatClampNeg z401) 153 y348_8.toNatClampNeg z420) 154 y348_8.toNatClampNeg z434).1 158 k).toInt ∧ ((sI (sI (sL sc348 155 y348_8.toNatClampNeg z401) 153 y348_8.toNatClampNeg z420) 154 y348_8.toNatClampNeg z434).1 158 k).toInt < (y348_7).toInt := by first | exact p331b | (intro k hk; rw [sI_p rfl, sI_p rfl]; exact g348_0 k hk)
                have n348e : EE (sI (sI (sL sc348 155 y348_8.toNatClampNeg z401) 153 y348_8.toNatClampNeg z420) 154 y348_8.toNatClampNeg z434) (z436).toInt (y348_7).toInt := by first | exact ee_s g348_1 (y := y348_8) (z := z420) (w := z434) (by simp [sL, sI]) (by simp [sL, sI]) (by have a0 := oa10 j105_4 j348_3 i351a j105_1 ro_109_20 ro_109_19 i351 j348_7 i360 i436; have a10 := t_add e436 i351 (in_c 1 rfl) rfl; have a11 := in_u ((in_c 1 rfl)); omega) rfl hz420 hz434 (by have a0 := oa10 j105_4 j348_3 i351a j105_1 ro_109_20 ro_109_19 i351 j348_7 i360 i436; have a10 := t_add e436 i351 (in_c 1 rfl) rfl; have a11 := in_u ((in_c 1 rfl)); omega) | exact ee_0 (by decide)
                have n348f : ∀ e : Nat, (z436).toInt ≤ (e : Int) → (e : Int) < (y105_2).toInt → ((sI (sI (sL sc348 155 y348_8.toNatClampNeg z401) 153 y348_8.toNatClampNeg z420) 154 y348_8.toNatClampNeg z434).1 153 e).toInt < (y105_3).toInt ∧ ((sI (sI (sL sc348 155 y348_8.toNatClampNeg z401) 153 y348_8.toNatClampNeg z420) 154 y348_8.toNatClampNeg z434).1 154 e).toInt < (y105_3).toInt := by first | (intro e h1 h2; rw [hF331.1 153 rfl, hF331.1 154 rfl]; exact g252_0 e h2) | (intro e h1 h2; have q1 : ((sI (sI (sL sc348 155 y348_8.toNatClampNeg z401) 153 y348_8.toNatClampNeg z420) 154 y348_8.toNatClampNeg z434)).1 153 = upd (sc348.1 153) y348_8.toNatClampNeg z420 := (by simp [sL, sI]); have q2 : ((sI (sI (sL sc348 155 y348_8.toNatClampNeg z401) 153 y348_8.toNatClampNeg z420) 154 y348_8.toNatClampNeg z434)).1 154 = upd (sc348.1 154) y348_8.toNatClampNeg z434 := (by simp [sL, sI]); have e8 : y348_8.toNatClampNeg = y348_8.toInt.toNat := rfl; have hne : e ≠ y348_8.toNatClampNeg := (by have a0 := oa10 j105_4 j348_3 i351a j105_1 ro_109_20 ro_109_19 i351 j348_7 i360 i436; have a10 := t_add e436 i351 (in_c 1 rfl) rfl; have a11 := in_u ((in_c 1 rfl)); omega); rw [q1, q2]; unfold upd; rw [if_neg hne, if_neg hne]; exact g348_2 e (by have a0 := oa10 j105_4 j348_3 i351a j105_1 ro_109_20 ro_109_19 i351 j348_7 i360 i436; have a10 := t_add e436 i351 (in_c 1 rfl) rfl; have a11 := in_u ((in_c 1 rfl)); omega) h2)
                exact gg_w (by first | exact Nat.le_add_right _ _ | exact gw2 | exact gw3 | exact gwe rfl | exact gwf rfl | exact gwg rfl | exact gwh rfl | omega) (gg_f (gf_cons rfl (gf_cons rfl (gf_cons rfl (gf_cons rfl (gf_cons rfl (gf_cons rfl (gf_cons rfl (gf_cons rfl gf_nil)))))))) (ih348 (sI (sI (sL sc348 155 y348_8.toNatClampNeg z401) 153 y348_8.toNatClampNeg z420) 154 y348_8.toNatClampNeg z434) y348_5 y348_7 z436 hI435 (fr_sI rfl (fr_sI rfl (fr_sL rfl hFc348))) (in_w 2 32 j348_3 rfl) (in_w 0 32 j348_7 rfl) (in_w 0 160 i436 rfl) n348 n348a n348b n348c n348d n348e n348f (m_up mm348 (t_add e436 i351 (in_c 1 rfl) rfl) (in_w 1 1 (in_c 1 rfl) rfl))))
              · skip
                refine g_aload_n 391 (gd rfl) rfl rfl ?_
                refine g_getA (q2 := 156) 394 (gd rfl) rfl rfl rfl rfl ?_
                refine g_iload 396 (gd rfl) rfl rfl ?_
                refine g_laload 397 (gd rfl) rfl (n := 32) rfl (in_ix i360 rfl) (fun z396 e396 => ?_)
                refine g_goto 401 (gd rfl) rfl ?_
                refine g_lsub 402 (gd rfl) rfl (fun z401 e401 => ?_)
                refine g_lastore 403 (gd rfl) rfl (n := 160) rfl (in_ix i351 rfl) ?_
                have hI402 := inv_sL (q := 155) (j := y348_8.toNatClampNeg) (x := z401) hIc348 rfl (l_rng z401)
                refine g_aload_n 404 (gd rfl) rfl rfl ?_
                refine g_getA (q2 := 153) 407 (gd rfl) rfl rfl rfl rfl ?_
                refine g_iload 409 (gd rfl) rfl rfl ?_
                refine g_aload_n 410 (gd rfl) rfl rfl ?_
                refine g_getA (q2 := 158) 413 (gd rfl) rfl rfl rfl rfl ?_
                refine g_aload_n 414 (gd rfl) rfl rfl ?_
                refine g_getA (q2 := 153) 417 (gd rfl) rfl rfl rfl rfl ?_
                refine g_iload 419 (gd rfl) rfl rfl ?_
                refine g_iaload 420 (gd rfl) rfl (n := 160) rfl (in_ix i351 rfl) (fun z419 e419 => ?_)
                have q419 : z377 = z419 := (sL_I (e377)).trans e419.symm
                subst q419
                refine g_iaload 421 (gd rfl) rfl (n := 32) rfl (in_ix i377 rfl) (fun z420 e420 => ?_)
                have i421 : In z420 0 31 := by have hE := (g348_2 y348_8.toNatClampNeg (by show _ ≤ ((y348_8.toInt.toNat : Nat) : Int); have a0 := oa9 j105_4 j348_3 i351a j105_1 ro_109_20 ro_109_19 i351 j348_7 i360; omega) (by show ((y348_8.toInt.toNat : Nat) : Int) < _; have a0 := oa9 j105_4 j348_3 i351a j105_1 ro_109_20 ro_109_19 i351 j348_7 i360; omega)).1; rw [← e377] at hE; have hR := g348_0 z377.toNatClampNeg (by show ((z377.toInt.toNat : Nat) : Int) < _; have hz := i377; unfold In at hz; omega); rw [show sc348.1 158 z377.toNatClampNeg = z420 from e420.symm] at hR; exact ⟨hR.1, by have a0 := oa9 j105_4 j348_3 i351a j105_1 ro_109_20 ro_109_19 i351 j348_7 i360; omega⟩
                have hz420 : (z420).toInt < y348_7.toInt := (by have hE := (g348_2 y348_8.toNatClampNeg (by show _ ≤ ((y348_8.toInt.toNat : Nat) : Int); have a0 := oa9 j105_4 j348_3 i351a j105_1 ro_109_20 ro_109_19 i351 j348_7 i360; omega) (by show ((y348_8.toInt.toNat : Nat) : Int) < _; have a0 := oa9 j105_4 j348_3 i351a j105_1 ro_109_20 ro_109_19 i351 j348_7 i360; omega)).1; rw [← e377] at hE; have hR := g348_0 z377.toNatClampNeg (by show ((z377.toInt.toNat : Nat) : Int) < _; have hz := i377; unfold In at hz; omega); rw [show sc348.1 158 z377.toNatClampNeg = z420 from e420.symm] at hR; exact hR.2)
                refine g_iastore 422 (gd rfl) rfl (n := 160) rfl (in_ix i351 rfl) ?_
                have hI421 := inv_sI (q := 153) (j := y348_8.toNatClampNeg) hI402 rfl (in_w 0 31 i421 rfl)
                refine g_aload_n 423 (gd rfl) rfl rfl ?_
                refine g_getA (q2 := 154) 426 (gd rfl) rfl rfl rfl rfl ?_
                refine g_iload 428 (gd rfl) rfl rfl ?_
                refine g_aload_n 429 (gd rfl) rfl rfl ?_
                refine g_getA (q2 := 158) 432 (gd rfl) rfl rfl rfl rfl ?_
                refine g_iload 434 (gd rfl) rfl rfl ?_
                refine g_iaload 435 (gd rfl) rfl (n := 32) rfl (in_ix i360 rfl) (fun z434 e434 => ?_)
                have i435 : In z434 0 31 := by have hE := (g348_2 y348_8.toNatClampNeg (by show _ ≤ ((y348_8.toInt.toNat : Nat) : Int); have a0 := oa9 j105_4 j348_3 i351a j105_1 ro_109_20 ro_109_19 i351 j348_7 i360; omega) (by show ((y348_8.toInt.toNat : Nat) : Int) < _; have a0 := oa9 j105_4 j348_3 i351a j105_1 ro_109_20 ro_109_19 i351 j348_7 i360; omega)).2; rw [← e360] at hE; have hR := g348_0 z360.toNatClampNeg (by show ((z360.toInt.toNat : Nat) : Int) < _; have hz := i360; unfold In at hz; omega); rw [show sc348.1 158 z360.toNatClampNeg = z434 from (by have h := e434; rw [sI_p rfl] at h; exact h.symm)] at hR; exact ⟨hR.1, by have a0 := oa9 j105_4 j348_3 i351a j105_1 ro_109_20 ro_109_19 i351 j348_7 i360; omega⟩
                have hz434 : (z434).toInt < y348_7.toInt := (by have hE := (g348_2 y348_8.toNatClampNeg (by show _ ≤ ((y348_8.toInt.toNat : Nat) : Int); have a0 := oa9 j105_4 j348_3 i351a j105_1 ro_109_20 ro_109_19 i351 j348_7 i360; omega) (by show ((y348_8.toInt.toNat : Nat) : Int) < _; have a0 := oa9 j105_4 j348_3 i351a j105_1 ro_109_20 ro_109_19 i351 j348_7 i360; omega)).2; rw [← e360] at hE; have hR := g348_0 z360.toNatClampNeg (by show ((z360.toInt.toNat : Nat) : Int) < _; have hz := i360; unfold In at hz; omega); rw [show sc348.1 158 z360.toNatClampNeg = z434 from (by have h := e434; rw [sI_p rfl] at h; exact h.symm)] at hR; exact hR.2)
                refine g_iastore 436 (gd rfl) rfl (n := 160) rfl (in_ix i351 rfl) ?_
                have hI435 := inv_sI (q := 154) (j := y348_8.toNatClampNeg) hI421 rfl (in_w 0 31 i435 rfl)
                refine g_iinc 439 (gd rfl) rfl rfl (Nat.le_of_ble_eq_true rfl) (fun z436 e436 => ?_)
                have i436 := in_add 1 160 e436 i351 (in_c 1 rfl) rfl rfl
                refine g_goto 348 (gd rfl) rfl ?_
                have n348 : (y105_4).toInt < (y105_3).toInt := by first | exact n105_0 | (have a0 := oa10 j105_4 j348_3 i351a j105_1 ro_109_20 ro_109_19 i351 j348_7 i360 i436; have a10 := t_add e436 i351 (in_c 1 rfl) rfl; have a11 := in_u ((in_c 1 rfl)); omega)
                have n348a : 0 ≤ (y105_4).toInt := by first | exact n105_1 | (have a0 := oa10 j105_4 j348_3 i351a j105_1 ro_109_20 ro_109_19 i351 j348_7 i360 i436; have a10 := t_add e436 i351 (in_c 1 rfl) rfl; have a11 := in_u ((in_c 1 rfl)); omega)
                have n348b : 0 ≤ (y105_2).toInt := by first | exact n105_2 | (have a0 := oa10 j105_4 j348_3 i351a j105_1 ro_109_20 ro_109_19 i351 j348_7 i360 i436; have a10 := t_add e436 i351 (in_c 1 rfl) rfl; have a11 := in_u ((in_c 1 rfl)); omega)
                have n348c : (y348_7).toInt < (y105_3).toInt := by first | exact n348_3 | (have a0 := oa10 j105_4 j348_3 i351a j105_1 ro_109_20 ro_109_19 i351 j348_7 i360 i436; have a10 := t_add e436 i351 (in_c 1 rfl) rfl; have a11 := in_u ((in_c 1 rfl)); omega)
                have n348d : ∀ k : Nat, (k : Int) < (y105_3).toInt → 0 ≤ ((sI (sI (sL sc348 155 y348_8.toNatClampNeg z401) 153 y348_8.toNatClampNeg z420) 154 y348_8.toNatClampNeg z434).1 158 k).toInt ∧ ((sI (sI (sL sc348 155 y348_8.toNatClampNeg z401) 153 y348_8.toNatClampNeg z420) 154 y348_8.toNatClampNeg z434).1 158 k).toInt < (y348_7).toInt := by first | exact p331b | (intro k hk; rw [sI_p rfl, sI_p rfl]; exact g348_0 k hk)
                have n348e : EE (sI (sI (sL sc348 155 y348_8.toNatClampNeg z401) 153 y348_8.toNatClampNeg z420) 154 y348_8.toNatClampNeg z434) (z436).toInt (y348_7).toInt := by first | exact ee_s g348_1 (y := y348_8) (z := z420) (w := z434) (by simp [sL, sI]) (by simp [sL, sI]) (by have a0 := oa10 j105_4 j348_3 i351a j105_1 ro_109_20 ro_109_19 i351 j348_7 i360 i436; have a10 := t_add e436 i351 (in_c 1 rfl) rfl; have a11 := in_u ((in_c 1 rfl)); omega) rfl hz420 hz434 (by have a0 := oa10 j105_4 j348_3 i351a j105_1 ro_109_20 ro_109_19 i351 j348_7 i360 i436; have a10 := t_add e436 i351 (in_c 1 rfl) rfl; have a11 := in_u ((in_c 1 rfl)); omega) | exact ee_0 (by decide)
                have n348f : ∀ e : Nat, (z436).toInt ≤ (e : Int) → (e : Int) < (y105_2).toInt → ((sI (sI (sL sc348 155 y348_8.toNatClampNeg z401) 153 y348_8.toNatClampNeg z420) 154 y348_8.toNatClampNeg z434).1 153 e).toInt < (y105_3).toInt ∧ ((sI (sI (sL sc348 155 y348_8.toNatClampNeg z401) 153 y348_8.toNatClampNeg z420) 154 y348_8.toNatClampNeg z434).1 154 e).toInt < (y105_3).toInt := by first | (intro e h1 h2; rw [hF331.1 153 rfl, hF331.1 154 rfl]; exact g252_0 e h2) | (intro e h1 h2; have q1 : ((sI (sI (sL sc348 155 y348_8.toNatClampNeg z401) 153 y348_8.toNatClampNeg z420) 154 y348_8.toNatClampNeg z434)).1 153 = upd (sc348.1 153) y348_8.toNatClampNeg z420 := (by simp [sL, sI]); have q2 : ((sI (sI (sL sc348 155 y348_8.toNatClampNeg z401) 153 y348_8.toNatClampNeg z420) 154 y348_8.toNatClampNeg z434)).1 154 = upd (sc348.1 154) y348_8.toNatClampNeg z434 := (by simp [sL, sI]); have e8 : y348_8.toNatClampNeg = y348_8.toInt.toNat := rfl; have hne : e ≠ y348_8.toNatClampNeg := (by have a0 := oa10 j105_4 j348_3 i351a j105_1 ro_109_20 ro_109_19 i351 j348_7 i360 i436; have a10 := t_add e436 i351 (in_c 1 rfl) rfl; have a11 := in_u ((in_c 1 rfl)); omega); rw [q1, q2]; unfold upd; rw [if_neg hne, if_neg hne]; exact g348_2 e (by have a0 := oa10 j105_4 j348_3 i351a j105_1 ro_109_20 ro_109_19 i351 j348_7 i360 i436; have a10 := t_add e436 i351 (in_c 1 rfl) rfl; have a11 := in_u ((in_c 1 rfl)); omega) h2)
                exact gg_w (by first | exact Nat.le_add_right _ _ | exact gw2 | exact gw3 | exact gwe rfl | exact gwf rfl | exact gwg rfl | exact gwh rfl | omega) (gg_f (gf_cons rfl (gf_cons rfl (gf_cons rfl (gf_cons rfl (gf_cons rfl (gf_cons rfl (gf_cons rfl (gf_cons rfl gf_nil)))))))) (ih348 (sI (sI (sL sc348 155 y348_8.toNatClampNeg z401) 153 y348_8.toNatClampNeg z420) 154 y348_8.toNatClampNeg z434) y348_5 y348_7 z436 hI435 (fr_sI rfl (fr_sI rfl (fr_sL rfl hFc348))) (in_w 2 32 j348_3 rfl) (in_w 0 32 j348_7 rfl) (in_w 0 160 i436 rfl) n348 n348a n348b n348c n348d n348e n348f (m_up mm348 (t_add e436 i351 (in_c 1 rfl) rfl) (in_w 1 1 (in_c 1 rfl) rfl))))
      have ct252 : ∀ (k252 : Nat) (sc252 : GS) (y252_5 : Int64) (y252_7 : Int32), Inv sc252 → Fr fm_363 s sc252 → (In y105_3 2 32) → (In y252_7 0 32) → ((y105_4).toInt < (y105_3).toInt) → (0 ≤ (y105_4).toInt) → (0 ≤ (y105_2).toInt) → (EE sc252 (y105_2).toInt (y105_3).toInt) → (∀ v : Nat, (v : Int) < (y105_3).toInt → (sc252.1 157 v).toInt < (y105_2).toInt) → (∀ v : Nat, (v : Int) < (y252_7).toInt → (v : Int) ≠ (y105_4).toInt → 0 ≤ (sc252.1 157 v).toInt) → 32 - (y252_7).toInt < (k252 : Int) → GG Z (d - 1) 363 post (gx xp) (1 + k105 * 357304 + 144902 + k252 * 900) 252 (fun j => xlook j [(0, .ref (A 109)), (1, .int x1), (2, .int y105_2), (3, .int y105_3), (4, .int y105_4), (5, .long y252_5), (7, .int y252_7)]) [] (WW Z A sc252 ++ ex) 0 0 := by
        intro k252
        induction k252 with
        | zero => intro sc252 y252_5 y252_7 hIc252 hFc252 j252_3 j252_7 n252_0 n252_1 n252_2 g252_0 g252_1 g252_2 mm252; exact m_no mm252 j252_7 rfl
        | succ k252 ih252 =>
          intro sc252 y252_5 y252_7 hIc252 hFc252 j252_3 j252_7 n252_0 n252_1 n252_2 g252_0 g252_1 g252_2 mm252
          refine gg_w (M := 1 + k105 * 357304 + 144902 + k252 * 900 + 900) gws ?_
          refine g_iload 254 (gd rfl) rfl rfl ?_
          refine g_iload_n 255 (gd rfl) rfl rfl ?_
          refine g_cmp_ge 258 327 (gd rfl) rfl rfl (fun c255 => ?_) (fun c255 => ?_)
          · skip
            have i255 := r_le2 2 32 c255 j252_3 j252_7 rfl
            refine g_aload_n 328 (gd rfl) rfl rfl ?_
            refine g_iload_n 329 (gd rfl) rfl rfl ?_
            refine g_iload 331 (gd rfl) rfl rfl ?_
            have p331 : TP sc252 (y105_3).toInt (y105_4).toInt := by intro v hv hne; have h1 := g252_2 v (by have a0 := oa7 j105_4 j252_3 j105_2 j105_1 ro_109_20 ro_109_19 i255; omega) hne; have h2 := g252_1 v hv; exact ⟨h1, (g252_0 (sc252.1 157 v).toNatClampNeg (by show (((sc252.1 157 v).toInt.toNat : Nat) : Int) < _; omega)).1⟩
            refine g_callv (X := _) (As := [.int y105_3, .int y105_4]) (r := []) (b := A 109) (q := 109) 334 (gd rfl) rfl rfl rfl rfl rfl (ww_o rfl) (Nat.le_of_ble_eq_true rfl) (Nat.zero_le _) (Nat.zero_le _) (k_364 (by first | exact dq1 hd rfl | exact dq0 hd rfl | exact dq2 hd rfl | exact dq3 hd rfl | omega) hIc252 (in_w 1 32 j252_3 rfl) (in_w 0 31 j105_4 rfl) p331) (fun e u h => h) (fun v u h => ?_)
            obtain ⟨s331, hI331, hF331, z331, rfl, rfl, i331, p331a, p331b⟩ := h
            show GG _ _ _ _ _ _ _ _ [.int z331] _ _ _
            refine g_istore 336 (gd rfl) rfl (Nat.le_of_ble_eq_true rfl) ?_
            refine g_iload 338 (gd rfl) rfl rfl ?_
            refine g_iload_n 339 (gd rfl) rfl rfl ?_
            refine g_cmp_ne 342 345 (gd rfl) rfl rfl (fun c339 => ?_) (fun c339 => ?_)
            · skip
              refine g_iconst 0 346 (gd rfl) rfl rfl ?_
              refine g_istore 348 (gd rfl) rfl (Nat.le_of_ble_eq_true rfl) ?_
              have n348 : (y105_4).toInt < (y105_3).toInt := by first | exact n105_0 | (have a0 := oa9 j105_4 j252_3 j105_2 j105_1 ro_109_20 ro_109_19 i255 ((in_c 0 rfl)) i331; omega)
              have n348a : 0 ≤ (y105_4).toInt := by first | exact n105_1 | (have a0 := oa9 j105_4 j252_3 j105_2 j105_1 ro_109_20 ro_109_19 i255 ((in_c 0 rfl)) i331; omega)
              have n348b : 0 ≤ (y105_2).toInt := by first | exact n105_2 | (have a0 := oa9 j105_4 j252_3 j105_2 j105_1 ro_109_20 ro_109_19 i255 ((in_c 0 rfl)) i331; omega)
              have n348c : (z331).toInt < (y105_3).toInt := by have a0 := oa9 j105_4 j252_3 j105_2 j105_1 ro_109_20 ro_109_19 i255 ((in_c 0 rfl)) i331; omega
              have n348d : ∀ k : Nat, (k : Int) < (y105_3).toInt → 0 ≤ (s331.1 158 k).toInt ∧ (s331.1 158 k).toInt < (z331).toInt := by first | exact p331b | (intro k hk; rw [sI_p rfl, sI_p rfl]; exact g348_0 k hk)
              have n348e : EE s331 ((Int32.ofInt 0)).toInt (z331).toInt := by first | exact ee_s g348_1 (y := y348_8) (z := z420) (w := z434) (by simp [sL, sI]) (by simp [sL, sI]) (by have a0 := oa9 j105_4 j252_3 j105_2 j105_1 ro_109_20 ro_109_19 i255 ((in_c 0 rfl)) i331; omega) rfl hz420 hz434 (by have a0 := oa9 j105_4 j252_3 j105_2 j105_1 ro_109_20 ro_109_19 i255 ((in_c 0 rfl)) i331; omega) | exact ee_0 (by decide)
              have n348f : ∀ e : Nat, ((Int32.ofInt 0)).toInt ≤ (e : Int) → (e : Int) < (y105_2).toInt → (s331.1 153 e).toInt < (y105_3).toInt ∧ (s331.1 154 e).toInt < (y105_3).toInt := by first | (intro e h1 h2; rw [hF331.1 153 rfl, hF331.1 154 rfl]; exact g252_0 e h2) | (intro e h1 h2; have q1 : (s331).1 153 = upd (sc348.1 153) y348_8.toNatClampNeg z420 := (by simp [sL, sI]); have q2 : (s331).1 154 = upd (sc348.1 154) y348_8.toNatClampNeg z434 := (by simp [sL, sI]); have e8 : y348_8.toNatClampNeg = y348_8.toInt.toNat := rfl; have hne : e ≠ y348_8.toNatClampNeg := (by have a0 := oa9 j105_4 j252_3 j105_2 j105_1 ro_109_20 ro_109_19 i255 ((in_c 0 rfl)) i331; omega); rw [q1, q2]; unfold upd; rw [if_neg hne, if_neg hne]; exact g348_2 e (by have a0 := oa9 j105_4 j252_3 j105_2 j105_1 ro_109_20 ro_109_19 i255 ((in_c 0 rfl)) i331; omega) h2)
              exact gg_w (by first | exact Nat.le_add_right _ _ | exact gw2 | exact gw3 | exact gwe rfl | exact gwf rfl | exact gwg rfl | exact gwh rfl | omega) (gg_f (gf_cons rfl (gf_cons rfl (gf_cons rfl (gf_cons rfl (gf_cons rfl (gf_cons rfl (gf_cons rfl (gf_cons rfl gf_nil)))))))) (ct348 161 s331 y252_5 z331 (Int32.ofInt 0) hI331 (fr_tr rfl hFc252 hF331) (in_w 2 32 j252_3 rfl) (in_w 0 32 i331 rfl) (in_w 0 160 (in_c 0 rfl) rfl) n348 n348a n348b n348c n348d n348e n348f (m_in 161 (in_w 0 160 (in_c 0 rfl) rfl) rfl)))
            · skip
              have i339 := r_eq1 2 32 c339 i331 j252_3 rfl
              refine g_lload 344 (gd rfl) rfl rfl ?_
              exact g_lreturn (gd rfl) rfl (hP _ _ ⟨s331, hI331, (fr_tr rfl hFc252 hF331), y252_5, rfl, rfl⟩)
          · skip
            have i255 := r_lt1 0 31 c255 j252_7 j252_3 rfl
            refine g_iload 260 (gd rfl) rfl rfl ?_
            refine g_iload 262 (gd rfl) rfl rfl ?_
            refine g_cmp_eq 265 279 (gd rfl) rfl rfl (fun c262 => ?_) (fun c262 => ?_)
            · skip
              refine g_aload_n 280 (gd rfl) rfl rfl ?_
              refine g_getA (q2 := 156) 283 (gd rfl) rfl rfl rfl rfl ?_
              refine g_iload 285 (gd rfl) rfl rfl ?_
              refine g_iload 287 (gd rfl) rfl rfl ?_
              refine g_iload 289 (gd rfl) rfl rfl ?_
              refine g_cmp_ne 292 296 (gd rfl) rfl rfl (fun c289 => ?_) (fun c289 => ?_)
              · skip
                refine g_aload_n 297 (gd rfl) rfl rfl ?_
                refine g_getA (q2 := 155) 300 (gd rfl) rfl rfl rfl rfl ?_
                refine g_aload_n 301 (gd rfl) rfl rfl ?_
                refine g_getA (q2 := 157) 304 (gd rfl) rfl rfl rfl rfl ?_
                refine g_iload 306 (gd rfl) rfl rfl ?_
                refine g_iaload 307 (gd rfl) rfl (n := 32) rfl (in_ix i255 rfl) (fun z306 e306 => ?_)
                have i306 := inv_I hIc252 (n := 32) (t := 0) (-1) 159 rfl (in_ix i255 rfl) rfl e306
                have i307 : In z306 0 159 := by first | (exfalso; have a0 := oa7 j105_4 j252_3 j105_2 j105_1 ro_109_20 ro_109_19 i255; omega) | exact ⟨by have a0 := oa7 j105_4 j252_3 j105_2 j105_1 ro_109_20 ro_109_19 i255; omega, by have a0 := oa7 j105_4 j252_3 j105_2 j105_1 ro_109_20 ro_109_19 i255; omega⟩
                refine g_laload 308 (gd rfl) rfl (n := 160) rfl (in_ix i307 rfl) (fun z307 e307 => ?_)
                refine g_lastore 309 (gd rfl) rfl (n := 32) rfl (in_ix i255 rfl) ?_
                have hI308 := inv_sL (q := 156) (j := y252_7.toNatClampNeg) (x := z307) hIc252 rfl (l_rng z307)
                refine g_lload 311 (gd rfl) rfl rfl ?_
                refine g_aload_n 312 (gd rfl) rfl rfl ?_
                refine g_getA (q2 := 156) 315 (gd rfl) rfl rfl rfl rfl ?_
                refine g_iload 317 (gd rfl) rfl rfl ?_
                refine g_laload 318 (gd rfl) rfl (n := 32) rfl (in_ix i255 rfl) (fun z317 e317 => ?_)
                refine g_ladd 319 (gd rfl) rfl (fun z318 e318 => ?_)
                refine g_lstore 321 (gd rfl) rfl (Nat.le_of_ble_eq_true rfl) ?_
                refine g_iinc 324 (gd rfl) rfl rfl (Nat.le_of_ble_eq_true rfl) (fun z321 e321 => ?_)
                have i321 := in_add 1 32 e321 i255 (in_c 1 rfl) rfl rfl
                refine g_goto 252 (gd rfl) rfl ?_
                have n252 : (y105_4).toInt < (y105_3).toInt := by first | exact n105_0 | (have a0 := oa8 j105_4 j252_3 j105_2 j105_1 ro_109_20 ro_109_19 i255 i321; have a8 := t_add e321 i255 (in_c 1 rfl) rfl; have a9 := in_u ((in_c 1 rfl)); omega)
                have n252a : 0 ≤ (y105_4).toInt := by first | exact n105_1 | (have a0 := oa8 j105_4 j252_3 j105_2 j105_1 ro_109_20 ro_109_19 i255 i321; have a8 := t_add e321 i255 (in_c 1 rfl) rfl; have a9 := in_u ((in_c 1 rfl)); omega)
                have n252b : 0 ≤ (y105_2).toInt := by first | exact n105_2 | (have a0 := oa8 j105_4 j252_3 j105_2 j105_1 ro_109_20 ro_109_19 i255 i321; have a8 := t_add e321 i255 (in_c 1 rfl) rfl; have a9 := in_u ((in_c 1 rfl)); omega)
                have n252c : EE (sL sc252 156 y252_7.toNatClampNeg z307) (y105_2).toInt (y105_3).toInt := by first | exact g136_0 | exact ee_cg g252_0 rfl rfl
                have n252d : ∀ v : Nat, (v : Int) < (y105_3).toInt → ((sL sc252 156 y252_7.toNatClampNeg z307).1 157 v).toInt < (y105_2).toInt := by first | exact g136_1 | exact g252_1
                have n252e : ∀ v : Nat, (v : Int) < (z321).toInt → (v : Int) ≠ (y105_4).toInt → 0 ≤ ((sL sc252 156 y252_7.toNatClampNeg z307).1 157 v).toInt := by first | (intro v hv; exfalso; have h0 : (Int32.ofInt 0).toInt = 0 := rfl; omega) | (intro v hv hne; by_cases c : (v : Int) < y252_7.toInt; exact g252_2 v c hne; (have ev : v = y252_7.toNatClampNeg := (by show v = y252_7.toInt.toNat; have a0 := oa8 j105_4 j252_3 j105_2 j105_1 ro_109_20 ro_109_19 i255 i321; have a8 := t_add e321 i255 (in_c 1 rfl) rfl; have a9 := in_u ((in_c 1 rfl)); omega); first | (exfalso; have a0 := oa8 j105_4 j252_3 j105_2 j105_1 ro_109_20 ro_109_19 i255 i321; have a8 := t_add e321 i255 (in_c 1 rfl) rfl; have a9 := in_u ((in_c 1 rfl)); omega) | (show 0 ≤ (sc252.1 157 v).toInt; rw [ev, ← e271]; exact i272.1)))
                exact gg_w (by first | exact Nat.le_add_right _ _ | exact gw2 | exact gw3 | exact gwe rfl | exact gwf rfl | exact gwg rfl | exact gwh rfl | omega) (gg_f (gf_cons rfl (gf_cons rfl (gf_cons rfl (gf_cons rfl (gf_cons rfl (gf_cons rfl (gf_cons rfl gf_nil))))))) (ih252 (sL sc252 156 y252_7.toNatClampNeg z307) z318 z321 hI308 (fr_sL rfl hFc252) (in_w 2 32 j252_3 rfl) (in_w 0 32 i321 rfl) n252 n252a n252b n252c n252d n252e (m_up mm252 (t_add e321 i255 (in_c 1 rfl) rfl) (in_w 1 1 (in_c 1 rfl) rfl))))
              · skip
                refine g_lconst 0 293 (gd rfl) rfl rfl ?_
                refine g_goto 308 (gd rfl) rfl ?_
                refine g_lastore 309 (gd rfl) rfl (n := 32) rfl (in_ix i255 rfl) ?_
                have hI308 := inv_sL (q := 156) (j := y252_7.toNatClampNeg) (x := (Int64.ofInt 0)) hIc252 rfl (l_rng (Int64.ofInt 0))
                refine g_lload 311 (gd rfl) rfl rfl ?_
                refine g_aload_n 312 (gd rfl) rfl rfl ?_
                refine g_getA (q2 := 156) 315 (gd rfl) rfl rfl rfl rfl ?_
                refine g_iload 317 (gd rfl) rfl rfl ?_
                refine g_laload 318 (gd rfl) rfl (n := 32) rfl (in_ix i255 rfl) (fun z317 e317 => ?_)
                refine g_ladd 319 (gd rfl) rfl (fun z318 e318 => ?_)
                refine g_lstore 321 (gd rfl) rfl (Nat.le_of_ble_eq_true rfl) ?_
                refine g_iinc 324 (gd rfl) rfl rfl (Nat.le_of_ble_eq_true rfl) (fun z321 e321 => ?_)
                have i321 := in_add 1 32 e321 i255 (in_c 1 rfl) rfl rfl
                refine g_goto 252 (gd rfl) rfl ?_
                have n252 : (y105_4).toInt < (y105_3).toInt := by first | exact n105_0 | (have a0 := oa8 j105_4 j252_3 j105_2 j105_1 ro_109_20 ro_109_19 i255 i321; have a8 := t_add e321 i255 (in_c 1 rfl) rfl; have a9 := in_u ((in_c 1 rfl)); omega)
                have n252a : 0 ≤ (y105_4).toInt := by first | exact n105_1 | (have a0 := oa8 j105_4 j252_3 j105_2 j105_1 ro_109_20 ro_109_19 i255 i321; have a8 := t_add e321 i255 (in_c 1 rfl) rfl; have a9 := in_u ((in_c 1 rfl)); omega)
                have n252b : 0 ≤ (y105_2).toInt := by first | exact n105_2 | (have a0 := oa8 j105_4 j252_3 j105_2 j105_1 ro_109_20 ro_109_19 i255 i321; have a8 := t_add e321 i255 (in_c 1 rfl) rfl; have a9 := in_u ((in_c 1 rfl)); omega)
                have n252c : EE (sL sc252 156 y252_7.toNatClampNeg (Int64.ofInt 0)) (y105_2).toInt (y105_3).toInt := by first | exact g136_0 | exact ee_cg g252_0 rfl rfl
                have n252d : ∀ v : Nat, (v : Int) < (y105_3).toInt → ((sL sc252 156 y252_7.toNatClampNeg (Int64.ofInt 0)).1 157 v).toInt < (y105_2).toInt := by first | exact g136_1 | exact g252_1
                have n252e : ∀ v : Nat, (v : Int) < (z321).toInt → (v : Int) ≠ (y105_4).toInt → 0 ≤ ((sL sc252 156 y252_7.toNatClampNeg (Int64.ofInt 0)).1 157 v).toInt := by first | (intro v hv; exfalso; have h0 : (Int32.ofInt 0).toInt = 0 := rfl; omega) | (intro v hv hne; by_cases c : (v : Int) < y252_7.toInt; exact g252_2 v c hne; (have ev : v = y252_7.toNatClampNeg := (by show v = y252_7.toInt.toNat; have a0 := oa8 j105_4 j252_3 j105_2 j105_1 ro_109_20 ro_109_19 i255 i321; have a8 := t_add e321 i255 (in_c 1 rfl) rfl; have a9 := in_u ((in_c 1 rfl)); omega); first | (exfalso; have a0 := oa8 j105_4 j252_3 j105_2 j105_1 ro_109_20 ro_109_19 i255 i321; have a8 := t_add e321 i255 (in_c 1 rfl) rfl; have a9 := in_u ((in_c 1 rfl)); omega) | (show 0 ≤ (sc252.1 157 v).toInt; rw [ev, ← e271]; exact i272.1)))
                exact gg_w (by first | exact Nat.le_add_right _ _ | exact gw2 | exact gw3 | exact gwe rfl | exact gwf rfl | exact gwg rfl | exact gwh rfl | omega) (gg_f (gf_cons rfl (gf_cons rfl (gf_cons rfl (gf_cons rfl (gf_cons rfl (gf_cons rfl (gf_cons rfl gf_nil))))))) (ih252 (sL sc252 156 y252_7.toNatClampNeg (Int64.ofInt 0)) z318 z321 hI308 (fr_sL rfl hFc252) (in_w 2 32 j252_3 rfl) (in_w 0 32 i321 rfl) n252 n252a n252b n252c n252d n252e (m_up mm252 (t_add e321 i255 (in_c 1 rfl) rfl) (in_w 1 1 (in_c 1 rfl) rfl))))
            · skip
              refine g_aload_n 266 (gd rfl) rfl rfl ?_
              refine g_getA (q2 := 157) 269 (gd rfl) rfl rfl rfl rfl ?_
              refine g_iload 271 (gd rfl) rfl rfl ?_
              refine g_iaload 272 (gd rfl) rfl (n := 32) rfl (in_ix i255 rfl) (fun z271 e271 => ?_)
              have i271 := inv_I hIc252 (n := 32) (t := 0) (-1) 159 rfl (in_ix i255 rfl) rfl e271
              refine g_if_ge 275 279 (gd rfl) rfl rfl (fun c272 => ?_) (fun c272 => ?_)
              · skip
                have i272 := z_ge 0 159 c272 i271 rfl
                refine g_aload_n 280 (gd rfl) rfl rfl ?_
                refine g_getA (q2 := 156) 283 (gd rfl) rfl rfl rfl rfl ?_
                refine g_iload 285 (gd rfl) rfl rfl ?_
                refine g_iload 287 (gd rfl) rfl rfl ?_
                refine g_iload 289 (gd rfl) rfl rfl ?_
                refine g_cmp_ne 292 296 (gd rfl) rfl rfl (fun c289 => ?_) (fun c289 => ?_)
                · skip
                  refine g_aload_n 297 (gd rfl) rfl rfl ?_
                  refine g_getA (q2 := 155) 300 (gd rfl) rfl rfl rfl rfl ?_
                  refine g_aload_n 301 (gd rfl) rfl rfl ?_
                  refine g_getA (q2 := 157) 304 (gd rfl) rfl rfl rfl rfl ?_
                  refine g_iload 306 (gd rfl) rfl rfl ?_
                  refine g_iaload 307 (gd rfl) rfl (n := 32) rfl (in_ix i255 rfl) (fun z306 e306 => ?_)
                  have q306 : z271 = z306 := (e271).trans e306.symm
                  subst q306
                  refine g_laload 308 (gd rfl) rfl (n := 160) rfl (in_ix i272 rfl) (fun z307 e307 => ?_)
                  refine g_lastore 309 (gd rfl) rfl (n := 32) rfl (in_ix i255 rfl) ?_
                  have hI308 := inv_sL (q := 156) (j := y252_7.toNatClampNeg) (x := z307) hIc252 rfl (l_rng z307)
                  refine g_lload 311 (gd rfl) rfl rfl ?_
                  refine g_aload_n 312 (gd rfl) rfl rfl ?_
                  refine g_getA (q2 := 156) 315 (gd rfl) rfl rfl rfl rfl ?_
                  refine g_iload 317 (gd rfl) rfl rfl ?_
                  refine g_laload 318 (gd rfl) rfl (n := 32) rfl (in_ix i255 rfl) (fun z317 e317 => ?_)
                  refine g_ladd 319 (gd rfl) rfl (fun z318 e318 => ?_)
                  refine g_lstore 321 (gd rfl) rfl (Nat.le_of_ble_eq_true rfl) ?_
                  refine g_iinc 324 (gd rfl) rfl rfl (Nat.le_of_ble_eq_true rfl) (fun z321 e321 => ?_)
                  have i321 := in_add 1 32 e321 i255 (in_c 1 rfl) rfl rfl
                  refine g_goto 252 (gd rfl) rfl ?_
                  have n252 : (y105_4).toInt < (y105_3).toInt := by first | exact n105_0 | (have a0 := oa8 j105_4 j252_3 j105_2 j105_1 ro_109_20 ro_109_19 i255 i321; have a8 := t_add e321 i255 (in_c 1 rfl) rfl; have a9 := in_u ((in_c 1 rfl)); omega)
                  have n252a : 0 ≤ (y105_4).toInt := by first | exact n105_1 | (have a0 := oa8 j105_4 j252_3 j105_2 j105_1 ro_109_20 ro_109_19 i255 i321; have a8 := t_add e321 i255 (in_c 1 rfl) rfl; have a9 := in_u ((in_c 1 rfl)); omega)
                  have n252b : 0 ≤ (y105_2).toInt := by first | exact n105_2 | (have a0 := oa8 j105_4 j252_3 j105_2 j105_1 ro_109_20 ro_109_19 i255 i321; have a8 := t_add e321 i255 (in_c 1 rfl) rfl; have a9 := in_u ((in_c 1 rfl)); omega)
                  have n252c : EE (sL sc252 156 y252_7.toNatClampNeg z307) (y105_2).toInt (y105_3).toInt := by first | exact g136_0 | exact ee_cg g252_0 rfl rfl
                  have n252d : ∀ v : Nat, (v : Int) < (y105_3).toInt → ((sL sc252 156 y252_7.toNatClampNeg z307).1 157 v).toInt < (y105_2).toInt := by first | exact g136_1 | exact g252_1
                  have n252e : ∀ v : Nat, (v : Int) < (z321).toInt → (v : Int) ≠ (y105_4).toInt → 0 ≤ ((sL sc252 156 y252_7.toNatClampNeg z307).1 157 v).toInt := by first | (intro v hv; exfalso; have h0 : (Int32.ofInt 0).toInt = 0 := rfl; omega) | (intro v hv hne; by_cases c : (v : Int) < y252_7.toInt; exact g252_2 v c hne; (have ev : v = y252_7.toNatClampNeg := (by show v = y252_7.toInt.toNat; have a0 := oa8 j105_4 j252_3 j105_2 j105_1 ro_109_20 ro_109_19 i255 i321; have a8 := t_add e321 i255 (in_c 1 rfl) rfl; have a9 := in_u ((in_c 1 rfl)); omega); first | (exfalso; have a0 := oa8 j105_4 j252_3 j105_2 j105_1 ro_109_20 ro_109_19 i255 i321; have a8 := t_add e321 i255 (in_c 1 rfl) rfl; have a9 := in_u ((in_c 1 rfl)); omega) | (show 0 ≤ (sc252.1 157 v).toInt; rw [ev, ← e271]; exact i272.1)))
                  exact gg_w (by first | exact Nat.le_add_right _ _ | exact gw2 | exact gw3 | exact gwe rfl | exact gwf rfl | exact gwg rfl | exact gwh rfl | omega) (gg_f (gf_cons rfl (gf_cons rfl (gf_cons rfl (gf_cons rfl (gf_cons rfl (gf_cons rfl (gf_cons rfl gf_nil))))))) (ih252 (sL sc252 156 y252_7.toNatClampNeg z307) z318 z321 hI308 (fr_sL rfl hFc252) (in_w 2 32 j252_3 rfl) (in_w 0 32 i321 rfl) n252 n252a n252b n252c n252d n252e (m_up mm252 (t_add e321 i255 (in_c 1 rfl) rfl) (in_w 1 1 (in_c 1 rfl) rfl))))
                · skip
                  refine g_lconst 0 293 (gd rfl) rfl rfl ?_
                  refine g_goto 308 (gd rfl) rfl ?_
                  refine g_lastore 309 (gd rfl) rfl (n := 32) rfl (in_ix i255 rfl) ?_
                  have hI308 := inv_sL (q := 156) (j := y252_7.toNatClampNeg) (x := (Int64.ofInt 0)) hIc252 rfl (l_rng (Int64.ofInt 0))
                  refine g_lload 311 (gd rfl) rfl rfl ?_
                  refine g_aload_n 312 (gd rfl) rfl rfl ?_
                  refine g_getA (q2 := 156) 315 (gd rfl) rfl rfl rfl rfl ?_
                  refine g_iload 317 (gd rfl) rfl rfl ?_
                  refine g_laload 318 (gd rfl) rfl (n := 32) rfl (in_ix i255 rfl) (fun z317 e317 => ?_)
                  refine g_ladd 319 (gd rfl) rfl (fun z318 e318 => ?_)
                  refine g_lstore 321 (gd rfl) rfl (Nat.le_of_ble_eq_true rfl) ?_
                  refine g_iinc 324 (gd rfl) rfl rfl (Nat.le_of_ble_eq_true rfl) (fun z321 e321 => ?_)
                  have i321 := in_add 1 32 e321 i255 (in_c 1 rfl) rfl rfl
                  refine g_goto 252 (gd rfl) rfl ?_
                  have n252 : (y105_4).toInt < (y105_3).toInt := by first | exact n105_0 | (have a0 := oa8 j105_4 j252_3 j105_2 j105_1 ro_109_20 ro_109_19 i255 i321; have a8 := t_add e321 i255 (in_c 1 rfl) rfl; have a9 := in_u ((in_c 1 rfl)); omega)
                  have n252a : 0 ≤ (y105_4).toInt := by first | exact n105_1 | (have a0 := oa8 j105_4 j252_3 j105_2 j105_1 ro_109_20 ro_109_19 i255 i321; have a8 := t_add e321 i255 (in_c 1 rfl) rfl; have a9 := in_u ((in_c 1 rfl)); omega)
                  have n252b : 0 ≤ (y105_2).toInt := by first | exact n105_2 | (have a0 := oa8 j105_4 j252_3 j105_2 j105_1 ro_109_20 ro_109_19 i255 i321; have a8 := t_add e321 i255 (in_c 1 rfl) rfl; have a9 := in_u ((in_c 1 rfl)); omega)
                  have n252c : EE (sL sc252 156 y252_7.toNatClampNeg (Int64.ofInt 0)) (y105_2).toInt (y105_3).toInt := by first | exact g136_0 | exact ee_cg g252_0 rfl rfl
                  have n252d : ∀ v : Nat, (v : Int) < (y105_3).toInt → ((sL sc252 156 y252_7.toNatClampNeg (Int64.ofInt 0)).1 157 v).toInt < (y105_2).toInt := by first | exact g136_1 | exact g252_1
                  have n252e : ∀ v : Nat, (v : Int) < (z321).toInt → (v : Int) ≠ (y105_4).toInt → 0 ≤ ((sL sc252 156 y252_7.toNatClampNeg (Int64.ofInt 0)).1 157 v).toInt := by first | (intro v hv; exfalso; have h0 : (Int32.ofInt 0).toInt = 0 := rfl; omega) | (intro v hv hne; by_cases c : (v : Int) < y252_7.toInt; exact g252_2 v c hne; (have ev : v = y252_7.toNatClampNeg := (by show v = y252_7.toInt.toNat; have a0 := oa8 j105_4 j252_3 j105_2 j105_1 ro_109_20 ro_109_19 i255 i321; have a8 := t_add e321 i255 (in_c 1 rfl) rfl; have a9 := in_u ((in_c 1 rfl)); omega); first | (exfalso; have a0 := oa8 j105_4 j252_3 j105_2 j105_1 ro_109_20 ro_109_19 i255 i321; have a8 := t_add e321 i255 (in_c 1 rfl) rfl; have a9 := in_u ((in_c 1 rfl)); omega) | (show 0 ≤ (sc252.1 157 v).toInt; rw [ev, ← e271]; exact i272.1)))
                  exact gg_w (by first | exact Nat.le_add_right _ _ | exact gw2 | exact gw3 | exact gwe rfl | exact gwf rfl | exact gwg rfl | exact gwh rfl | omega) (gg_f (gf_cons rfl (gf_cons rfl (gf_cons rfl (gf_cons rfl (gf_cons rfl (gf_cons rfl (gf_cons rfl gf_nil))))))) (ih252 (sL sc252 156 y252_7.toNatClampNeg (Int64.ofInt 0)) z318 z321 hI308 (fr_sL rfl hFc252) (in_w 2 32 j252_3 rfl) (in_w 0 32 i321 rfl) n252 n252a n252b n252c n252d n252e (m_up mm252 (t_add e321 i255 (in_c 1 rfl) rfl) (in_w 1 1 (in_c 1 rfl) rfl))))
              · skip
                have i272 := z_lt (-1) (-1) c272 i271 rfl
                refine g_ldc2_w 9000000000000000 278 (gd rfl) rfl rfl ?_
                exact g_lreturn (gd rfl) rfl (hP _ _ ⟨sc252, hIc252, hFc252, (Int64.ofInt 9000000000000000), rfl, rfl⟩)
      have ct136 : ∀ (k136 : Nat) (sc136 : GS) (y136_7 : Int32), Inv sc136 → Fr fm_363 s sc136 → (In y105_3 2 32) → (In y136_7 0 160) → ((y105_4).toInt < (y105_3).toInt) → (0 ≤ (y105_4).toInt) → (0 ≤ (y105_2).toInt) → (EE sc136 (y105_2).toInt (y105_3).toInt) → (∀ v : Nat, (v : Int) < (y105_3).toInt → (sc136.1 157 v).toInt < (y105_2).toInt) → 160 - (y136_7).toInt < (k136 : Int) → GG Z (d - 1) 363 post (gx xp) (1 + k105 * 357304 + 174603 + k136 * 900) 136 (fun j => xlook j [(0, .ref (A 109)), (1, .int x1), (2, .int y105_2), (3, .int y105_3), (4, .int y105_4), (5, .long y105_5), (7, .int y136_7)]) [] (WW Z A sc136 ++ ex) 0 0 := by
        intro k136
        induction k136 with
        | zero => intro sc136 y136_7 hIc136 hFc136 j136_3 j136_7 n136_0 n136_1 n136_2 g136_0 g136_1 mm136; exact m_no mm136 j136_7 rfl
        | succ k136 ih136 =>
          intro sc136 y136_7 hIc136 hFc136 j136_3 j136_7 n136_0 n136_1 n136_2 g136_0 g136_1 mm136
          refine gg_w (M := 1 + k105 * 357304 + 174603 + k136 * 900 + 900) gws ?_
          refine g_iload 138 (gd rfl) rfl rfl ?_
          refine g_iload_n 139 (gd rfl) rfl rfl ?_
          refine g_cmp_ge 142 249 (gd rfl) rfl rfl (fun c139 => ?_) (fun c139 => ?_)
          · skip
            refine g_iconst 0 250 (gd rfl) rfl rfl ?_
            refine g_istore 252 (gd rfl) rfl (Nat.le_of_ble_eq_true rfl) ?_
            have n252 : (y105_4).toInt < (y105_3).toInt := by first | exact n105_0 | (have a0 := oa8 j105_4 j136_3 j105_2 j105_1 ro_109_20 ro_109_19 j136_7 ((in_c 0 rfl)); omega)
            have n252a : 0 ≤ (y105_4).toInt := by first | exact n105_1 | (have a0 := oa8 j105_4 j136_3 j105_2 j105_1 ro_109_20 ro_109_19 j136_7 ((in_c 0 rfl)); omega)
            have n252b : 0 ≤ (y105_2).toInt := by first | exact n105_2 | (have a0 := oa8 j105_4 j136_3 j105_2 j105_1 ro_109_20 ro_109_19 j136_7 ((in_c 0 rfl)); omega)
            have n252c : EE sc136 (y105_2).toInt (y105_3).toInt := by first | exact g136_0 | exact ee_cg g252_0 rfl rfl
            have n252d : ∀ v : Nat, (v : Int) < (y105_3).toInt → (sc136.1 157 v).toInt < (y105_2).toInt := by first | exact g136_1 | exact g252_1
            have n252e : ∀ v : Nat, (v : Int) < ((Int32.ofInt 0)).toInt → (v : Int) ≠ (y105_4).toInt → 0 ≤ (sc136.1 157 v).toInt := by first | (intro v hv; exfalso; have h0 : (Int32.ofInt 0).toInt = 0 := rfl; omega) | (intro v hv hne; by_cases c : (v : Int) < y252_7.toInt; exact g252_2 v c hne; (have ev : v = y252_7.toNatClampNeg := (by show v = y252_7.toInt.toNat; have a0 := oa8 j105_4 j136_3 j105_2 j105_1 ro_109_20 ro_109_19 j136_7 ((in_c 0 rfl)); omega); first | (exfalso; have a0 := oa8 j105_4 j136_3 j105_2 j105_1 ro_109_20 ro_109_19 j136_7 ((in_c 0 rfl)); omega) | (show 0 ≤ (sc252.1 157 v).toInt; rw [ev, ← e271]; exact i272.1)))
            exact gg_w (by first | exact Nat.le_add_right _ _ | exact gw2 | exact gw3 | exact gwe rfl | exact gwf rfl | exact gwg rfl | exact gwh rfl | omega) (gg_f (gf_cons rfl (gf_cons rfl (gf_cons rfl (gf_cons rfl (gf_cons rfl (gf_cons rfl (gf_cons rfl gf_nil))))))) (ct252 33 sc136 y105_5 (Int32.ofInt 0) hIc136 hFc136 (in_w 2 32 j136_3 rfl) (in_w 0 32 (in_c 0 rfl) rfl) n252 n252a n252b n252c n252d n252e (m_in 33 (in_w 0 32 (in_c 0 rfl) rfl) rfl)))
          · skip
            have i139 := r_lt1 0 159 c139 j136_7 j105_2 rfl
            have i139a := r_lt2 1 160 c139 j136_7 j105_2 rfl
            refine g_aload_n 143 (gd rfl) rfl rfl ?_
            refine g_getA (q2 := 153) 146 (gd rfl) rfl rfl rfl rfl ?_
            refine g_iload 148 (gd rfl) rfl rfl ?_
            refine g_iaload 149 (gd rfl) rfl (n := 160) rfl (in_ix i139 rfl) (fun z148 e148 => ?_)
            have i148 := inv_I hIc136 (n := 160) (t := 0) 0 31 rfl (in_ix i139 rfl) rfl e148
            refine g_aload_n 150 (gd rfl) rfl rfl ?_
            refine g_getA (q2 := 154) 153 (gd rfl) rfl rfl rfl rfl ?_
            refine g_iload 155 (gd rfl) rfl rfl ?_
            refine g_iaload 156 (gd rfl) rfl (n := 160) rfl (in_ix i139 rfl) (fun z155 e155 => ?_)
            have i155 := inv_I hIc136 (n := 160) (t := 0) 0 31 rfl (in_ix i139 rfl) rfl e155
            refine g_cmp_eq 159 206 (gd rfl) rfl rfl (fun c156 => ?_) (fun c156 => ?_)
            · skip
              refine g_iconst 0 207 (gd rfl) rfl rfl ?_
              refine g_istore 209 (gd rfl) rfl (Nat.le_of_ble_eq_true rfl) ?_
              refine g_aload_n 210 (gd rfl) rfl rfl ?_
              refine g_getA (q2 := 157) 213 (gd rfl) rfl rfl rfl rfl ?_
              refine g_aload_n 214 (gd rfl) rfl rfl ?_
              refine g_getA (q2 := 154) 217 (gd rfl) rfl rfl rfl rfl ?_
              refine g_iload 219 (gd rfl) rfl rfl ?_
              refine g_iaload 220 (gd rfl) rfl (n := 160) rfl (in_ix i139 rfl) (fun z219 e219 => ?_)
              have q219 : z155 = z219 := (e155).trans e219.symm
              subst q219
              refine g_iload 222 (gd rfl) rfl rfl ?_
              refine g_if_eq 225 230 (gd rfl) rfl rfl (fun c222 => ?_) (fun c222 => ?_)
              · skip
                refine g_aload_n 231 (gd rfl) rfl rfl ?_
                refine g_getA (q2 := 157) 234 (gd rfl) rfl rfl rfl rfl ?_
                refine g_aload_n 235 (gd rfl) rfl rfl ?_
                refine g_getA (q2 := 154) 238 (gd rfl) rfl rfl rfl rfl ?_
                refine g_iload 240 (gd rfl) rfl rfl ?_
                refine g_iaload 241 (gd rfl) rfl (n := 160) rfl (in_ix i139 rfl) (fun z240 e240 => ?_)
                have q240 : z155 = z240 := (e155).trans e240.symm
                subst q240
                refine g_iaload 242 (gd rfl) rfl (n := 32) rfl (in_ix i155 rfl) (fun z241 e241 => ?_)
                have i241 := inv_I hIc136 (n := 32) (t := 0) (-1) 159 rfl (in_ix i155 rfl) rfl e241
                refine g_iastore 243 (gd rfl) rfl (n := 32) rfl (in_ix i155 rfl) ?_
                have hI242 := inv_sI (q := 157) (j := z155.toNatClampNeg) hIc136 rfl (in_w (-1) 159 i241 rfl)
                refine g_iinc 246 (gd rfl) rfl rfl (Nat.le_of_ble_eq_true rfl) (fun z243 e243 => ?_)
                have i243 := in_add 1 160 e243 i139 (in_c 1 rfl) rfl rfl
                refine g_goto 136 (gd rfl) rfl ?_
                have n136 : (y105_4).toInt < (y105_3).toInt := by first | exact n105_0 | (have a0 := oa9 j105_4 j136_3 i139a j105_1 ro_109_20 ro_109_19 i139 ((in_c 0 rfl)) i243; have a9 := t_add e243 i139 (in_c 1 rfl) rfl; have a10 := in_u ((in_c 1 rfl)); omega)
                have n136a : 0 ≤ (y105_4).toInt := by first | exact n105_1 | (have a0 := oa9 j105_4 j136_3 i139a j105_1 ro_109_20 ro_109_19 i139 ((in_c 0 rfl)) i243; have a9 := t_add e243 i139 (in_c 1 rfl) rfl; have a10 := in_u ((in_c 1 rfl)); omega)
                have n136b : 0 ≤ (y105_2).toInt := by first | exact n105_2 | (have a0 := oa9 j105_4 j136_3 i139a j105_1 ro_109_20 ro_109_19 i139 ((in_c 0 rfl)) i243; have a9 := t_add e243 i139 (in_c 1 rfl) rfl; have a10 := in_u ((in_c 1 rfl)); omega)
                have n136c : EE (sI sc136 157 z155.toNatClampNeg z241) (y105_2).toInt (y105_3).toInt := by first | exact g113_0 | exact ee_cg g136_0 (sI_p rfl) (sI_p rfl)
                have n136d : ∀ v : Nat, (v : Int) < (y105_3).toInt → ((sI sc136 157 z155.toNatClampNeg z241).1 157 v).toInt < (y105_2).toInt := by first | (intro v hv; have h := g113_1 v (by have a0 := oa9 j105_4 j136_3 i139a j105_1 ro_109_20 ro_109_19 i139 ((in_c 0 rfl)) i243; have a9 := t_add e243 i139 (in_c 1 rfl) rfl; have a10 := in_u ((in_c 1 rfl)); omega); have a0 := oa9 j105_4 j136_3 i139a j105_1 ro_109_20 ro_109_19 i139 ((in_c 0 rfl)) i243; have a9 := t_add e243 i139 (in_c 1 rfl) rfl; have a10 := in_u ((in_c 1 rfl)); omega) | (intro v hv; rw [sI_q]; have hE := (g136_0 y136_7.toNatClampNeg (by show ((y136_7.toInt.toNat : Nat) : Int) < _; have a0 := oa9 j105_4 j136_3 i139a j105_1 ro_109_20 ro_109_19 i139 ((in_c 0 rfl)) i243; have a9 := t_add e243 i139 (in_c 1 rfl) rfl; have a10 := in_u ((in_c 1 rfl)); omega)).2; rw [← e155] at hE; exact up_lt (fun c => g136_1 v hv) (by first | (have a0 := oa9 j105_4 j136_3 i139a j105_1 ro_109_20 ro_109_19 i139 ((in_c 0 rfl)) i243; have a9 := t_add e243 i139 (in_c 1 rfl) rfl; have a10 := in_u ((in_c 1 rfl)); omega) | (rw [e241]; exact g136_1 z155.toNatClampNeg (by show ((z155.toInt.toNat : Nat) : Int) < _; have hz := i155; unfold In at hz; omega)) | (rw [e170]; exact g136_1 z155.toNatClampNeg (by show ((z155.toInt.toNat : Nat) : Int) < _; have hz := i155; unfold In at hz; omega))))
                exact gg_w (by first | exact Nat.le_add_right _ _ | exact gw2 | exact gw3 | exact gwe rfl | exact gwf rfl | exact gwg rfl | exact gwh rfl | omega) (gg_f (gf_cons rfl (gf_cons rfl (gf_cons rfl (gf_cons rfl (gf_cons rfl (gf_cons rfl (gf_cons rfl gf_nil))))))) (ih136 (sI sc136 157 z155.toNatClampNeg z241) z243 hI242 (fr_sI rfl hFc136) (in_w 2 32 j136_3 rfl) (in_w 0 160 i243 rfl) n136 n136a n136b n136c n136d (m_up mm136 (t_add e243 i139 (in_c 1 rfl) rfl) (in_w 1 1 (in_c 1 rfl) rfl))))
              · skip
                exact zn_ne c222 (in_c 0 rfl) rfl
            · skip
              refine g_aload_n 160 (gd rfl) rfl rfl ?_
              refine g_getA (q2 := 157) 163 (gd rfl) rfl rfl rfl rfl ?_
              refine g_aload_n 164 (gd rfl) rfl rfl ?_
              refine g_getA (q2 := 154) 167 (gd rfl) rfl rfl rfl rfl ?_
              refine g_iload 169 (gd rfl) rfl rfl ?_
              refine g_iaload 170 (gd rfl) rfl (n := 160) rfl (in_ix i139 rfl) (fun z169 e169 => ?_)
              have q169 : z155 = z169 := (e155).trans e169.symm
              subst q169
              refine g_iaload 171 (gd rfl) rfl (n := 32) rfl (in_ix i155 rfl) (fun z170 e170 => ?_)
              have i170 := inv_I hIc136 (n := 32) (t := 0) (-1) 159 rfl (in_ix i155 rfl) rfl e170
              refine g_if_lt 174 202 (gd rfl) rfl rfl (fun c171 => ?_) (fun c171 => ?_)
              · skip
                have i171 := z_lt (-1) (-1) c171 i170 rfl
                refine g_iconst 1 203 (gd rfl) rfl rfl ?_
                refine g_goto 207 (gd rfl) rfl ?_
                refine g_istore 209 (gd rfl) rfl (Nat.le_of_ble_eq_true rfl) ?_
                refine g_aload_n 210 (gd rfl) rfl rfl ?_
                refine g_getA (q2 := 157) 213 (gd rfl) rfl rfl rfl rfl ?_
                refine g_aload_n 214 (gd rfl) rfl rfl ?_
                refine g_getA (q2 := 154) 217 (gd rfl) rfl rfl rfl rfl ?_
                refine g_iload 219 (gd rfl) rfl rfl ?_
                refine g_iaload 220 (gd rfl) rfl (n := 160) rfl (in_ix i139 rfl) (fun z219 e219 => ?_)
                have q219 : z155 = z219 := (e155).trans e219.symm
                subst q219
                refine g_iload 222 (gd rfl) rfl rfl ?_
                refine g_if_eq 225 230 (gd rfl) rfl rfl (fun c222 => ?_) (fun c222 => ?_)
                · skip
                  exact zn_eq c222 (in_c 1 rfl) rfl
                · skip
                  refine g_iload 227 (gd rfl) rfl rfl ?_
                  refine g_goto 242 (gd rfl) rfl ?_
                  refine g_iastore 243 (gd rfl) rfl (n := 32) rfl (in_ix i155 rfl) ?_
                  have hI242 := inv_sI (q := 157) (j := z155.toNatClampNeg) hIc136 rfl (in_w (-1) 159 i139 rfl)
                  refine g_iinc 246 (gd rfl) rfl rfl (Nat.le_of_ble_eq_true rfl) (fun z243 e243 => ?_)
                  have i243 := in_add 1 160 e243 i139 (in_c 1 rfl) rfl rfl
                  refine g_goto 136 (gd rfl) rfl ?_
                  have n136 : (y105_4).toInt < (y105_3).toInt := by first | exact n105_0 | (have a0 := oa9 j105_4 j136_3 i139a j105_1 ro_109_20 ro_109_19 i139 ((in_c 1 rfl)) i243; have a9 := t_add e243 i139 (in_c 1 rfl) rfl; omega)
                  have n136a : 0 ≤ (y105_4).toInt := by first | exact n105_1 | (have a0 := oa9 j105_4 j136_3 i139a j105_1 ro_109_20 ro_109_19 i139 ((in_c 1 rfl)) i243; have a9 := t_add e243 i139 (in_c 1 rfl) rfl; omega)
                  have n136b : 0 ≤ (y105_2).toInt := by first | exact n105_2 | (have a0 := oa9 j105_4 j136_3 i139a j105_1 ro_109_20 ro_109_19 i139 ((in_c 1 rfl)) i243; have a9 := t_add e243 i139 (in_c 1 rfl) rfl; omega)
                  have n136c : EE (sI sc136 157 z155.toNatClampNeg y136_7) (y105_2).toInt (y105_3).toInt := by first | exact g113_0 | exact ee_cg g136_0 (sI_p rfl) (sI_p rfl)
                  have n136d : ∀ v : Nat, (v : Int) < (y105_3).toInt → ((sI sc136 157 z155.toNatClampNeg y136_7).1 157 v).toInt < (y105_2).toInt := by first | (intro v hv; have h := g113_1 v (by have a0 := oa9 j105_4 j136_3 i139a j105_1 ro_109_20 ro_109_19 i139 ((in_c 1 rfl)) i243; have a9 := t_add e243 i139 (in_c 1 rfl) rfl; omega); have a0 := oa9 j105_4 j136_3 i139a j105_1 ro_109_20 ro_109_19 i139 ((in_c 1 rfl)) i243; have a9 := t_add e243 i139 (in_c 1 rfl) rfl; omega) | (intro v hv; rw [sI_q]; have hE := (g136_0 y136_7.toNatClampNeg (by show ((y136_7.toInt.toNat : Nat) : Int) < _; have a0 := oa9 j105_4 j136_3 i139a j105_1 ro_109_20 ro_109_19 i139 ((in_c 1 rfl)) i243; have a9 := t_add e243 i139 (in_c 1 rfl) rfl; omega)).2; rw [← e155] at hE; exact up_lt (fun c => g136_1 v hv) (by first | (have a0 := oa9 j105_4 j136_3 i139a j105_1 ro_109_20 ro_109_19 i139 ((in_c 1 rfl)) i243; have a9 := t_add e243 i139 (in_c 1 rfl) rfl; omega) | (rw [e241]; exact g136_1 z155.toNatClampNeg (by show ((z155.toInt.toNat : Nat) : Int) < _; have hz := i155; unfold In at hz; omega)) | (rw [e170]; exact g136_1 z155.toNatClampNeg (by show ((z155.toInt.toNat : Nat) : Int) < _; have hz := i155; unfold In at hz; omega))))
                  exact gg_w (by first | exact Nat.le_add_right _ _ | exact gw2 | exact gw3 | exact gwe rfl | exact gwf rfl | exact gwg rfl | exact gwh rfl | omega) (gg_f (gf_cons rfl (gf_cons rfl (gf_cons rfl (gf_cons rfl (gf_cons rfl (gf_cons rfl (gf_cons rfl gf_nil))))))) (ih136 (sI sc136 157 z155.toNatClampNeg y136_7) z243 hI242 (fr_sI rfl hFc136) (in_w 2 32 j136_3 rfl) (in_w 0 160 i243 rfl) n136 n136a n136b n136c n136d (m_up mm136 (t_add e243 i139 (in_c 1 rfl) rfl) (in_w 1 1 (in_c 1 rfl) rfl))))
              · skip
                have i171 := z_ge 0 159 c171 i170 rfl
                refine g_aload_n 175 (gd rfl) rfl rfl ?_
                refine g_getA (q2 := 155) 178 (gd rfl) rfl rfl rfl rfl ?_
                refine g_iload 180 (gd rfl) rfl rfl ?_
                refine g_laload 181 (gd rfl) rfl (n := 160) rfl (in_ix i139 rfl) (fun z180 e180 => ?_)
                refine g_aload_n 182 (gd rfl) rfl rfl ?_
                refine g_getA (q2 := 155) 185 (gd rfl) rfl rfl rfl rfl ?_
                refine g_aload_n 186 (gd rfl) rfl rfl ?_
                refine g_getA (q2 := 157) 189 (gd rfl) rfl rfl rfl rfl ?_
                refine g_aload_n 190 (gd rfl) rfl rfl ?_
                refine g_getA (q2 := 154) 193 (gd rfl) rfl rfl rfl rfl ?_
                refine g_iload 195 (gd rfl) rfl rfl ?_
                refine g_iaload 196 (gd rfl) rfl (n := 160) rfl (in_ix i139 rfl) (fun z195 e195 => ?_)
                have q195 : z155 = z195 := (e155).trans e195.symm
                subst q195
                refine g_iaload 197 (gd rfl) rfl (n := 32) rfl (in_ix i155 rfl) (fun z196 e196 => ?_)
                have q196 : z170 = z196 := (e170).trans e196.symm
                subst q196
                refine g_laload 198 (gd rfl) rfl (n := 160) rfl (in_ix i171 rfl) (fun z197 e197 => ?_)
                refine g_lcmp 199 (gd rfl) rfl (fun z198 e198 => ?_)
                have i198 := lc_in e198
                refine g_if_ge 202 206 (gd rfl) rfl rfl (fun c199 => ?_) (fun c199 => ?_)
                · skip
                  have i199 := z_ge 0 1 c199 i198 rfl
                  have c199a := lc_ge e198 c199
                  refine g_iconst 0 207 (gd rfl) rfl rfl ?_
                  refine g_istore 209 (gd rfl) rfl (Nat.le_of_ble_eq_true rfl) ?_
                  refine g_aload_n 210 (gd rfl) rfl rfl ?_
                  refine g_getA (q2 := 157) 213 (gd rfl) rfl rfl rfl rfl ?_
                  refine g_aload_n 214 (gd rfl) rfl rfl ?_
                  refine g_getA (q2 := 154) 217 (gd rfl) rfl rfl rfl rfl ?_
                  refine g_iload 219 (gd rfl) rfl rfl ?_
                  refine g_iaload 220 (gd rfl) rfl (n := 160) rfl (in_ix i139 rfl) (fun z219 e219 => ?_)
                  have q219 : z155 = z219 := (e155).trans e219.symm
                  subst q219
                  refine g_iload 222 (gd rfl) rfl rfl ?_
                  refine g_if_eq 225 230 (gd rfl) rfl rfl (fun c222 => ?_) (fun c222 => ?_)
                  · skip
                    refine g_aload_n 231 (gd rfl) rfl rfl ?_
                    refine g_getA (q2 := 157) 234 (gd rfl) rfl rfl rfl rfl ?_
                    refine g_aload_n 235 (gd rfl) rfl rfl ?_
                    refine g_getA (q2 := 154) 238 (gd rfl) rfl rfl rfl rfl ?_
                    refine g_iload 240 (gd rfl) rfl rfl ?_
                    refine g_iaload 241 (gd rfl) rfl (n := 160) rfl (in_ix i139 rfl) (fun z240 e240 => ?_)
                    have q240 : z155 = z240 := (e155).trans e240.symm
                    subst q240
                    refine g_iaload 242 (gd rfl) rfl (n := 32) rfl (in_ix i155 rfl) (fun z241 e241 => ?_)
                    have q241 : z170 = z241 := (e170).trans e241.symm
                    subst q241
                    refine g_iastore 243 (gd rfl) rfl (n := 32) rfl (in_ix i155 rfl) ?_
                    have hI242 := inv_sI (q := 157) (j := z155.toNatClampNeg) hIc136 rfl (in_w (-1) 159 i171 rfl)
                    refine g_iinc 246 (gd rfl) rfl rfl (Nat.le_of_ble_eq_true rfl) (fun z243 e243 => ?_)
                    have i243 := in_add 1 160 e243 i139 (in_c 1 rfl) rfl rfl
                    refine g_goto 136 (gd rfl) rfl ?_
                    have n136 : (y105_4).toInt < (y105_3).toInt := by first | exact n105_0 | (have a0 := oa9 j105_4 j136_3 i139a j105_1 ro_109_20 ro_109_19 i139 ((in_c 0 rfl)) i243; have a9 := t_add e243 i139 (in_c 1 rfl) rfl; have a10 := in_u ((in_c 1 rfl)); omega)
                    have n136a : 0 ≤ (y105_4).toInt := by first | exact n105_1 | (have a0 := oa9 j105_4 j136_3 i139a j105_1 ro_109_20 ro_109_19 i139 ((in_c 0 rfl)) i243; have a9 := t_add e243 i139 (in_c 1 rfl) rfl; have a10 := in_u ((in_c 1 rfl)); omega)
                    have n136b : 0 ≤ (y105_2).toInt := by first | exact n105_2 | (have a0 := oa9 j105_4 j136_3 i139a j105_1 ro_109_20 ro_109_19 i139 ((in_c 0 rfl)) i243; have a9 := t_add e243 i139 (in_c 1 rfl) rfl; have a10 := in_u ((in_c 1 rfl)); omega)
                    have n136c : EE (sI sc136 157 z155.toNatClampNeg z170) (y105_2).toInt (y105_3).toInt := by first | exact g113_0 | exact ee_cg g136_0 (sI_p rfl) (sI_p rfl)
                    have n136d : ∀ v : Nat, (v : Int) < (y105_3).toInt → ((sI sc136 157 z155.toNatClampNeg z170).1 157 v).toInt < (y105_2).toInt := by first | (intro v hv; have h := g113_1 v (by have a0 := oa9 j105_4 j136_3 i139a j105_1 ro_109_20 ro_109_19 i139 ((in_c 0 rfl)) i243; have a9 := t_add e243 i139 (in_c 1 rfl) rfl; have a10 := in_u ((in_c 1 rfl)); omega); have a0 := oa9 j105_4 j136_3 i139a j105_1 ro_109_20 ro_109_19 i139 ((in_c 0 rfl)) i243; have a9 := t_add e243 i139 (in_c 1 rfl) rfl; have a10 := in_u ((in_c 1 rfl)); omega) | (intro v hv; rw [sI_q]; have hE := (g136_0 y136_7.toNatClampNeg (by show ((y136_7.toInt.toNat : Nat) : Int) < _; have a0 := oa9 j105_4 j136_3 i139a j105_1 ro_109_20 ro_109_19 i139 ((in_c 0 rfl)) i243; have a9 := t_add e243 i139 (in_c 1 rfl) rfl; have a10 := in_u ((in_c 1 rfl)); omega)).2; rw [← e155] at hE; exact up_lt (fun c => g136_1 v hv) (by first | (have a0 := oa9 j105_4 j136_3 i139a j105_1 ro_109_20 ro_109_19 i139 ((in_c 0 rfl)) i243; have a9 := t_add e243 i139 (in_c 1 rfl) rfl; have a10 := in_u ((in_c 1 rfl)); omega) | (rw [e241]; exact g136_1 z155.toNatClampNeg (by show ((z155.toInt.toNat : Nat) : Int) < _; have hz := i155; unfold In at hz; omega)) | (rw [e170]; exact g136_1 z155.toNatClampNeg (by show ((z155.toInt.toNat : Nat) : Int) < _; have hz := i155; unfold In at hz; omega))))
                    exact gg_w (by first | exact Nat.le_add_right _ _ | exact gw2 | exact gw3 | exact gwe rfl | exact gwf rfl | exact gwg rfl | exact gwh rfl | omega) (gg_f (gf_cons rfl (gf_cons rfl (gf_cons rfl (gf_cons rfl (gf_cons rfl (gf_cons rfl (gf_cons rfl gf_nil))))))) (ih136 (sI sc136 157 z155.toNatClampNeg z170) z243 hI242 (fr_sI rfl hFc136) (in_w 2 32 j136_3 rfl) (in_w 0 160 i243 rfl) n136 n136a n136b n136c n136d (m_up mm136 (t_add e243 i139 (in_c 1 rfl) rfl) (in_w 1 1 (in_c 1 rfl) rfl))))
                  · skip
                    exact zn_ne c222 (in_c 0 rfl) rfl
                · skip
                  have i199 := z_lt (-1) (-1) c199 i198 rfl
                  have c199a := lc_lt e198 c199
                  have i199a := lr_lt1 (-9223372036854775808) 9223372036854775806 c199a (l_rng z180) (l_rng z197) rfl
                  have i199b := lr_lt2 (-9223372036854775807) 9223372036854775807 c199a (l_rng z180) (l_rng z197) rfl
                  refine g_iconst 1 203 (gd rfl) rfl rfl ?_
                  refine g_goto 207 (gd rfl) rfl ?_
                  refine g_istore 209 (gd rfl) rfl (Nat.le_of_ble_eq_true rfl) ?_
                  refine g_aload_n 210 (gd rfl) rfl rfl ?_
                  refine g_getA (q2 := 157) 213 (gd rfl) rfl rfl rfl rfl ?_
                  refine g_aload_n 214 (gd rfl) rfl rfl ?_
                  refine g_getA (q2 := 154) 217 (gd rfl) rfl rfl rfl rfl ?_
                  refine g_iload 219 (gd rfl) rfl rfl ?_
                  refine g_iaload 220 (gd rfl) rfl (n := 160) rfl (in_ix i139 rfl) (fun z219 e219 => ?_)
                  have q219 : z155 = z219 := (e155).trans e219.symm
                  subst q219
                  refine g_iload 222 (gd rfl) rfl rfl ?_
                  refine g_if_eq 225 230 (gd rfl) rfl rfl (fun c222 => ?_) (fun c222 => ?_)
                  · skip
                    exact zn_eq c222 (in_c 1 rfl) rfl
                  · skip
                    refine g_iload 227 (gd rfl) rfl rfl ?_
                    refine g_goto 242 (gd rfl) rfl ?_
                    refine g_iastore 243 (gd rfl) rfl (n := 32) rfl (in_ix i155 rfl) ?_
                    have hI242 := inv_sI (q := 157) (j := z155.toNatClampNeg) hIc136 rfl (in_w (-1) 159 i139 rfl)
                    refine g_iinc 246 (gd rfl) rfl rfl (Nat.le_of_ble_eq_true rfl) (fun z243 e243 => ?_)
                    have i243 := in_add 1 160 e243 i139 (in_c 1 rfl) rfl rfl
                    refine g_goto 136 (gd rfl) rfl ?_
                    have n136 : (y105_4).toInt < (y105_3).toInt := by first | exact n105_0 | (have a0 := oa9 j105_4 j136_3 i139a j105_1 ro_109_20 ro_109_19 i139 ((in_c 1 rfl)) i243; have a9 := t_add e243 i139 (in_c 1 rfl) rfl; omega)
                    have n136a : 0 ≤ (y105_4).toInt := by first | exact n105_1 | (have a0 := oa9 j105_4 j136_3 i139a j105_1 ro_109_20 ro_109_19 i139 ((in_c 1 rfl)) i243; have a9 := t_add e243 i139 (in_c 1 rfl) rfl; omega)
                    have n136b : 0 ≤ (y105_2).toInt := by first | exact n105_2 | (have a0 := oa9 j105_4 j136_3 i139a j105_1 ro_109_20 ro_109_19 i139 ((in_c 1 rfl)) i243; have a9 := t_add e243 i139 (in_c 1 rfl) rfl; omega)
                    have n136c : EE (sI sc136 157 z155.toNatClampNeg y136_7) (y105_2).toInt (y105_3).toInt := by first | exact g113_0 | exact ee_cg g136_0 (sI_p rfl) (sI_p rfl)
                    have n136d : ∀ v : Nat, (v : Int) < (y105_3).toInt → ((sI sc136 157 z155.toNatClampNeg y136_7).1 157 v).toInt < (y105_2).toInt := by first | (intro v hv; have h := g113_1 v (by have a0 := oa9 j105_4 j136_3 i139a j105_1 ro_109_20 ro_109_19 i139 ((in_c 1 rfl)) i243; have a9 := t_add e243 i139 (in_c 1 rfl) rfl; omega); have a0 := oa9 j105_4 j136_3 i139a j105_1 ro_109_20 ro_109_19 i139 ((in_c 1 rfl)) i243; have a9 := t_add e243 i139 (in_c 1 rfl) rfl; omega) | (intro v hv; rw [sI_q]; have hE := (g136_0 y136_7.toNatClampNeg (by show ((y136_7.toInt.toNat : Nat) : Int) < _; have a0 := oa9 j105_4 j136_3 i139a j105_1 ro_109_20 ro_109_19 i139 ((in_c 1 rfl)) i243; have a9 := t_add e243 i139 (in_c 1 rfl) rfl; omega)).2; rw [← e155] at hE; exact up_lt (fun c => g136_1 v hv) (by first | (have a0 := oa9 j105_4 j136_3 i139a j105_1 ro_109_20 ro_109_19 i139 ((in_c 1 rfl)) i243; have a9 := t_add e243 i139 (in_c 1 rfl) rfl; omega) | (rw [e241]; exact g136_1 z155.toNatClampNeg (by show ((z155.toInt.toNat : Nat) : Int) < _; have hz := i155; unfold In at hz; omega)) | (rw [e170]; exact g136_1 z155.toNatClampNeg (by show ((z155.toInt.toNat : Nat) : Int) < _; have hz := i155; unfold In at hz; omega))))
                    exact gg_w (by first | exact Nat.le_add_right _ _ | exact gw2 | exact gw3 | exact gwe rfl | exact gwf rfl | exact gwg rfl | exact gwh rfl | omega) (gg_f (gf_cons rfl (gf_cons rfl (gf_cons rfl (gf_cons rfl (gf_cons rfl (gf_cons rfl (gf_cons rfl gf_nil))))))) (ih136 (sI sc136 157 z155.toNatClampNeg y136_7) z243 hI242 (fr_sI rfl hFc136) (in_w 2 32 j136_3 rfl) (in_w 0 160 i243 rfl) n136 n136a n136b n136c n136d (m_up mm136 (t_add e243 i139 (in_c 1 rfl) rfl) (in_w 1 1 (in_c 1 rfl) rfl))))
      have ct113 : ∀ (k113 : Nat) (sc113 : GS) (y113_7 : Int32), Inv sc113 → Fr fm_363 s sc113 → (In y105_3 2 32) → (In y113_7 0 32) → ((y105_4).toInt < (y105_3).toInt) → (0 ≤ (y105_4).toInt) → (0 ≤ (y105_2).toInt) → (EE sc113 (y105_2).toInt (y105_3).toInt) → (∀ v : Nat, (v : Int) < (y113_7).toInt → (sc113.1 157 v).toInt < 0) → 32 - (y113_7).toInt < (k113 : Int) → GG Z (d - 1) 363 post (gx xp) (1 + k105 * 357304 + 319504 + k113 * 900) 113 (fun j => xlook j [(0, .ref (A 109)), (1, .int x1), (2, .int y105_2), (3, .int y105_3), (4, .int y105_4), (5, .long y105_5), (7, .int y113_7)]) [] (WW Z A sc113 ++ ex) 0 0 := by
        intro k113
        induction k113 with
        | zero => intro sc113 y113_7 hIc113 hFc113 j113_3 j113_7 n113_0 n113_1 n113_2 g113_0 g113_1 mm113; exact m_no mm113 j113_7 rfl
        | succ k113 ih113 =>
          intro sc113 y113_7 hIc113 hFc113 j113_3 j113_7 n113_0 n113_1 n113_2 g113_0 g113_1 mm113
          refine gg_w (M := 1 + k105 * 357304 + 319504 + k113 * 900 + 900) gws ?_
          refine g_iload 115 (gd rfl) rfl rfl ?_
          refine g_iload_n 116 (gd rfl) rfl rfl ?_
          refine g_cmp_ge 119 133 (gd rfl) rfl rfl (fun c116 => ?_) (fun c116 => ?_)
          · skip
            have i116 := r_le2 2 32 c116 j113_3 j113_7 rfl
            refine g_iconst 0 134 (gd rfl) rfl rfl ?_
            refine g_istore 136 (gd rfl) rfl (Nat.le_of_ble_eq_true rfl) ?_
            have n136 : (y105_4).toInt < (y105_3).toInt := by first | exact n105_0 | (have a0 := oa8 j105_4 j113_3 j105_2 j105_1 ro_109_20 ro_109_19 i116 ((in_c 0 rfl)); omega)
            have n136a : 0 ≤ (y105_4).toInt := by first | exact n105_1 | (have a0 := oa8 j105_4 j113_3 j105_2 j105_1 ro_109_20 ro_109_19 i116 ((in_c 0 rfl)); omega)
            have n136b : 0 ≤ (y105_2).toInt := by first | exact n105_2 | (have a0 := oa8 j105_4 j113_3 j105_2 j105_1 ro_109_20 ro_109_19 i116 ((in_c 0 rfl)); omega)
            have n136c : EE sc113 (y105_2).toInt (y105_3).toInt := by first | exact g113_0 | exact ee_cg g136_0 (sI_p rfl) (sI_p rfl)
            have n136d : ∀ v : Nat, (v : Int) < (y105_3).toInt → (sc113.1 157 v).toInt < (y105_2).toInt := by first | (intro v hv; have h := g113_1 v (by have a0 := oa8 j105_4 j113_3 j105_2 j105_1 ro_109_20 ro_109_19 i116 ((in_c 0 rfl)); omega); have a0 := oa8 j105_4 j113_3 j105_2 j105_1 ro_109_20 ro_109_19 i116 ((in_c 0 rfl)); omega) | (intro v hv; rw [sI_q]; have hE := (g136_0 y136_7.toNatClampNeg (by show ((y136_7.toInt.toNat : Nat) : Int) < _; have a0 := oa8 j105_4 j113_3 j105_2 j105_1 ro_109_20 ro_109_19 i116 ((in_c 0 rfl)); omega)).2; rw [← e155] at hE; exact up_lt (fun c => g136_1 v hv) (by first | (have a0 := oa8 j105_4 j113_3 j105_2 j105_1 ro_109_20 ro_109_19 i116 ((in_c 0 rfl)); omega) | (rw [e241]; exact g136_1 z155.toNatClampNeg (by show ((z155.toInt.toNat : Nat) : Int) < _; have hz := i155; unfold In at hz; omega)) | (rw [e170]; exact g136_1 z155.toNatClampNeg (by show ((z155.toInt.toNat : Nat) : Int) < _; have hz := i155; unfold In at hz; omega))))
            exact gg_w (by first | exact Nat.le_add_right _ _ | exact gw2 | exact gw3 | exact gwe rfl | exact gwf rfl | exact gwg rfl | exact gwh rfl | omega) (gg_f (gf_cons rfl (gf_cons rfl (gf_cons rfl (gf_cons rfl (gf_cons rfl (gf_cons rfl (gf_cons rfl gf_nil))))))) (ct136 161 sc113 (Int32.ofInt 0) hIc113 hFc113 (in_w 2 32 j113_3 rfl) (in_w 0 160 (in_c 0 rfl) rfl) n136 n136a n136b n136c n136d (m_in 161 (in_w 0 160 (in_c 0 rfl) rfl) rfl)))
          · skip
            have i116 := r_lt1 0 31 c116 j113_7 j113_3 rfl
            refine g_aload_n 120 (gd rfl) rfl rfl ?_
            refine g_getA (q2 := 157) 123 (gd rfl) rfl rfl rfl rfl ?_
            refine g_iload 125 (gd rfl) rfl rfl ?_
            refine g_iconst (-1) 126 (gd rfl) rfl rfl ?_
            refine g_iastore 127 (gd rfl) rfl (n := 32) rfl (in_ix i116 rfl) ?_
            have hI126 := inv_sI (q := 157) (j := y113_7.toNatClampNeg) hIc113 rfl (in_w (-1) 159 (in_c (-1) rfl) rfl)
            refine g_iinc 130 (gd rfl) rfl rfl (Nat.le_of_ble_eq_true rfl) (fun z127 e127 => ?_)
            have i127 := in_add 1 32 e127 i116 (in_c 1 rfl) rfl rfl
            refine g_goto 113 (gd rfl) rfl ?_
            have n113 : (y105_4).toInt < (y105_3).toInt := by first | exact n105_0 | (have a0 := oa8 j105_4 j113_3 j105_2 j105_1 ro_109_20 ro_109_19 i116 i127; have a8 := t_add e127 i116 (in_c 1 rfl) rfl; have a9 := in_u ((in_c 1 rfl)); omega)
            have n113a : 0 ≤ (y105_4).toInt := by first | exact n105_1 | (have a0 := oa8 j105_4 j113_3 j105_2 j105_1 ro_109_20 ro_109_19 i116 i127; have a8 := t_add e127 i116 (in_c 1 rfl) rfl; have a9 := in_u ((in_c 1 rfl)); omega)
            have n113b : 0 ≤ (y105_2).toInt := by first | exact n105_2 | (have a0 := oa8 j105_4 j113_3 j105_2 j105_1 ro_109_20 ro_109_19 i116 i127; have a8 := t_add e127 i116 (in_c 1 rfl) rfl; have a9 := in_u ((in_c 1 rfl)); omega)
            have n113c : EE (sI sc113 157 y113_7.toNatClampNeg (Int32.ofInt (-1))) (y105_2).toInt (y105_3).toInt := by first | exact g105_0 | exact ee_cg g113_0 (sI_p rfl) (sI_p rfl)
            have n113d : ∀ v : Nat, (v : Int) < (z127).toInt → ((sI sc113 157 y113_7.toNatClampNeg (Int32.ofInt (-1))).1 157 v).toInt < 0 := by first | (intro v hv; exfalso; have h0 : (Int32.ofInt 0).toInt = 0 := rfl; omega) | (intro v hv; rw [sI_q]; have e7 : y113_7.toNatClampNeg = y113_7.toInt.toNat := rfl; exact up_lt (fun c => g113_1 v (by have a0 := oa8 j105_4 j113_3 j105_2 j105_1 ro_109_20 ro_109_19 i116 i127; have a8 := t_add e127 i116 (in_c 1 rfl) rfl; have a9 := in_u ((in_c 1 rfl)); omega)) (by decide))
            exact gg_w (by first | exact Nat.le_add_right _ _ | exact gw2 | exact gw3 | exact gwe rfl | exact gwf rfl | exact gwg rfl | exact gwh rfl | omega) (gg_f (gf_cons rfl (gf_cons rfl (gf_cons rfl (gf_cons rfl (gf_cons rfl (gf_cons rfl (gf_cons rfl gf_nil))))))) (ih113 (sI sc113 157 y113_7.toNatClampNeg (Int32.ofInt (-1))) z127 hI126 (fr_sI rfl hFc113) (in_w 2 32 j113_3 rfl) (in_w 0 32 i127 rfl) n113 n113a n113b n113c n113d (m_up mm113 (t_add e127 i116 (in_c 1 rfl) rfl) (in_w 1 1 (in_c 1 rfl) rfl))))
      refine g_iload_n 106 (gd rfl) rfl rfl ?_
      refine g_iconst 1 107 (gd rfl) rfl rfl ?_
      refine g_cmp_le 110 457 (gd rfl) rfl rfl (fun c107 => ?_) (fun c107 => ?_)
      · skip
        have i107 := r_le1 0 1 c107 j105_3 (in_c 1 rfl) rfl
        refine g_lload 459 (gd rfl) rfl rfl ?_
        exact g_lreturn (gd rfl) rfl (hP _ _ ⟨sc105, hIc105, hFc105, y105_5, rfl, rfl⟩)
      · skip
        have i107 := r_lt2 2 32 c107 (in_c 1 rfl) j105_3 rfl
        refine g_iconst 0 111 (gd rfl) rfl rfl ?_
        refine g_istore 113 (gd rfl) rfl (Nat.le_of_ble_eq_true rfl) ?_
        have n113 : (y105_4).toInt < (y105_3).toInt := by first | exact n105_0 | (have a0 := oa7 j105_1 ro_109_20 ro_109_19 j105_4 i107 j105_2 ((in_c 0 rfl)); omega)
        have n113a : 0 ≤ (y105_4).toInt := by first | exact n105_1 | (have a0 := oa7 j105_1 ro_109_20 ro_109_19 j105_4 i107 j105_2 ((in_c 0 rfl)); omega)
        have n113b : 0 ≤ (y105_2).toInt := by first | exact n105_2 | (have a0 := oa7 j105_1 ro_109_20 ro_109_19 j105_4 i107 j105_2 ((in_c 0 rfl)); omega)
        have n113c : EE sc105 (y105_2).toInt (y105_3).toInt := by first | exact g105_0 | exact ee_cg g113_0 (sI_p rfl) (sI_p rfl)
        have n113d : ∀ v : Nat, (v : Int) < ((Int32.ofInt 0)).toInt → (sc105.1 157 v).toInt < 0 := by first | (intro v hv; exfalso; have h0 : (Int32.ofInt 0).toInt = 0 := rfl; omega) | (intro v hv; rw [sI_q]; have e7 : y113_7.toNatClampNeg = y113_7.toInt.toNat := rfl; exact up_lt (fun c => g113_1 v (by have a0 := oa7 j105_1 ro_109_20 ro_109_19 j105_4 i107 j105_2 ((in_c 0 rfl)); omega)) (by decide))
        exact gg_w (by first | exact Nat.le_add_right _ _ | exact gw2 | exact gw3 | exact gwe rfl | exact gwf rfl | exact gwg rfl | exact gwh rfl | omega) (gg_f (gf_cons rfl (gf_cons rfl (gf_cons rfl (gf_cons rfl (gf_cons rfl (gf_cons rfl (gf_cons rfl gf_nil))))))) (ct113 33 sc105 (Int32.ofInt 0) hIc105 hFc105 (in_w 2 32 i107 rfl) (in_w 0 32 (in_c 0 rfl) rfl) n113 n113a n113b n113c n113d (m_in 33 (in_w 0 32 (in_c 0 rfl) rfl) rfl)))
  have ct18 : ∀ (k18 : Nat) (sc18 : GS) (y18_2 : Int32) (y18_3 : Int32), Inv sc18 → Fr fm_363 s sc18 → (In x1 0 31) → (In y18_2 0 160) → (In y18_3 0 160) → ((y18_2).toInt ≤ (y18_3).toInt) → (0 ≤ (y18_2).toInt) → ((x1).toInt < (u_109_20).toInt) → (EE sc18 (y18_2).toInt (u_109_20).toInt) → 160 - (y18_3).toInt < (k18 : Int) → GG Z (d - 1) 363 post (gx xp) (11791034 + k18 * 900) 18 (fun j => xlook j [(0, .ref (A 109)), (1, .int x1), (2, .int y18_2), (3, .int y18_3)]) [] (WW Z A sc18 ++ ex) 0 0 := by
    intro k18
    induction k18 with
    | zero => intro sc18 y18_2 y18_3 hIc18 hFc18 j18_1 j18_2 j18_3 n18_0 n18_1 n18_2 g18_0 mm18; exact m_no mm18 j18_3 rfl
    | succ k18 ih18 =>
      intro sc18 y18_2 y18_3 hIc18 hFc18 j18_1 j18_2 j18_3 n18_0 n18_1 n18_2 g18_0 mm18
      refine gg_w (M := 11791034 + k18 * 900 + 900) gws ?_
      refine g_iload_n 19 (gd rfl) rfl rfl ?_
      refine g_sipush 160 22 (gd rfl) rfl rfl ?_
      refine g_cmp_ge 25 94 (gd rfl) rfl rfl (fun c22 => ?_) (fun c22 => ?_)
      · skip
        have i22 := r_le2 160 160 c22 (in_c 160 rfl) j18_3 rfl
        refine g_aload_n 95 (gd rfl) rfl rfl ?_
        refine g_getI 98 (gd rfl) rfl rfl rfl (fun z95 e95 => ?_)
        have q95 : u_109_20 = z95 := (fr_F e_109_20 hFc18 rfl).trans e95.symm
        subst q95
        refine g_istore_n 99 (gd rfl) rfl (Nat.le_of_ble_eq_true rfl) ?_
        refine g_iload_n 100 (gd rfl) rfl rfl ?_
        refine g_istore 102 (gd rfl) rfl (Nat.le_of_ble_eq_true rfl) ?_
        refine g_lconst 0 103 (gd rfl) rfl rfl ?_
        refine g_lstore 105 (gd rfl) rfl (Nat.le_of_ble_eq_true rfl) ?_
        have n105 : (x1).toInt < (u_109_20).toInt := by first | exact n18_2 | (have a0 := oa5 j18_1 ro_109_20 ro_109_19 i22 j18_2; omega)
        have n105a : 0 ≤ (x1).toInt := by have a0 := oa5 j18_1 ro_109_20 ro_109_19 i22 j18_2; omega
        have n105b : 0 ≤ (y18_2).toInt := by first | exact n18_1 | (have a0 := oa5 j18_1 ro_109_20 ro_109_19 i22 j18_2; omega)
        have n105c : EE sc18 (y18_2).toInt (u_109_20).toInt := by first | exact g18_0 | (first | exact fun e he => g348_1 e (by have a0 := oa5 j18_1 ro_109_20 ro_109_19 i22 j18_2; omega) | exact g18_0)
        have m105 : (u_109_20).toInt < ((33 : Nat) : Int) := by have a0 := oa5 j18_1 ro_109_20 ro_109_19 i22 j18_2; omega
        exact gg_w (by first | exact Nat.le_add_right _ _ | exact gw2 | exact gw3 | exact gwe rfl | exact gwf rfl | exact gwg rfl | exact gwh rfl | omega) (gg_f (gf_cons rfl (gf_cons rfl (gf_cons rfl (gf_cons rfl (gf_cons rfl (gf_cons rfl gf_nil)))))) (ct105 33 sc18 y18_2 u_109_20 x1 (Int64.ofInt 0) hIc18 hFc18 (in_w 0 31 j18_1 rfl) (in_w 0 160 j18_2 rfl) (in_w 0 32 ro_109_20 rfl) (in_w 0 31 j18_1 rfl) n105 n105a n105b n105c m105))
      · skip
        have i22 := r_lt1 0 159 c22 j18_3 (in_c 160 rfl) rfl
        refine g_aload_n 26 (gd rfl) rfl rfl ?_
        refine g_iload_n 27 (gd rfl) rfl rfl ?_
        refine g_callv (X := _) (As := [.int y18_3]) (r := []) (b := A 109) (q := 109) 30 (gd rfl) rfl rfl rfl rfl rfl (ww_o rfl) (Nat.le_of_ble_eq_true rfl) (mc := 0) (ms := 0) (Nat.zero_le _) (Nat.zero_le _) (P := fun v u => _) ?_ (fun e u h => h) (fun v u h => h)
        intro po27 xx27 hp27 hx27
        refine g_enter2 (k := 288) (N := 300) (by first | exact dq1 hd rfl | exact dq0 hd rfl | exact dq2 hd rfl | exact dq3 hd rfl | omega) rfl (Nat.le_of_ble_eq_true rfl) ?_
        refine g_aload_n 1 (gd rfl) rfl rfl ?_
        refine g_getA (q2 := 112) 4 (gd rfl) rfl rfl rfl rfl ?_
        refine g_aload_n 5 (gd rfl) rfl rfl ?_
        refine g_getI 8 (gd rfl) rfl rfl rfl (fun z27x5 e27x5 => ?_)
        have q27x5 : u_109_19 = z27x5 := (fr_F e_109_19 hFc18 rfl).trans e27x5.symm
        subst q27x5
        refine g_iload_n 9 (gd rfl) rfl rfl ?_
        refine g_iadd 10 (gd rfl) rfl (fun z27x9 e27x9 => ?_)
        have i27x9 := in_add 0 319 e27x9 ro_109_19 i22 rfl rfl
        refine g_baload 11 (gd rfl) rfl (n := 480) rfl (in_ix i27x9 rfl) (fun z27x10 e27x10 => ?_)
        have i27x10 := inv_I hIc18 (n := 480) (t := 3) 0 1 rfl (in_ix i27x9 rfl) rfl e27x10
        refine g_if_eq 14 43 (gd rfl) rfl rfl (fun c27x11 => ?_) (fun c27x11 => ?_)
        · skip
          have i27x11 := z_eq 0 0 c27x11 i27x10 rfl
          refine g_iconst 0 44 (gd rfl) rfl rfl ?_
          refine g_ireturn (gd rfl) rfl (nb01 (in_w 0 1 (in_c 0 rfl) rfl)) (hp27 _ _ ?_)
          show GG _ _ _ _ _ _ _ _ [.int (Int32.ofInt 0)] _ _ _
          refine g_if_eq 33 88 (gd rfl) rfl rfl (fun c30 => ?_) (fun c30 => ?_)
          · skip
            refine g_iinc 91 (gd rfl) rfl rfl (Nat.le_of_ble_eq_true rfl) (fun z88 e88 => ?_)
            have i88 := in_add 1 160 e88 i22 (in_c 1 rfl) rfl rfl
            refine g_goto 18 (gd rfl) rfl ?_
            have n18 : (y18_2).toInt ≤ (z88).toInt := by have a0 := oa6 j18_1 ro_109_20 ro_109_19 i22 j18_2 i88; have a6 := t_add e88 i22 (in_c 1 rfl) rfl; have a7 := oa2 ((in_c 1 rfl)) i27x9; have a9 := t_add e27x9 ro_109_19 i22 rfl; omega
            have n18a : 0 ≤ (y18_2).toInt := by first | exact n18_1 | (have a0 := oa6 j18_1 ro_109_20 ro_109_19 i22 j18_2 i88; have a6 := t_add e88 i22 (in_c 1 rfl) rfl; have a7 := oa2 ((in_c 1 rfl)) i27x9; have a9 := t_add e27x9 ro_109_19 i22 rfl; omega)
            have n18b : (x1).toInt < (u_109_20).toInt := by first | exact n18_2 | (have a0 := oa6 j18_1 ro_109_20 ro_109_19 i22 j18_2 i88; have a6 := t_add e88 i22 (in_c 1 rfl) rfl; have a7 := oa2 ((in_c 1 rfl)) i27x9; have a9 := t_add e27x9 ro_109_19 i22 rfl; omega)
            have n18c : EE sc18 (y18_2).toInt (u_109_20).toInt := by first | exact g18_0 | (first | exact g18_0 | exact ee_s g18_0 (y := y18_2) (z := z48) (w := z65) (by simp [sL, sI]) (by simp [sL, sI]) (by have a0 := oa6 j18_1 ro_109_20 ro_109_19 i22 j18_2 i88; have a6 := t_add e88 i22 (in_c 1 rfl) rfl; have a7 := oa2 ((in_c 1 rfl)) i27x9; have a9 := t_add e27x9 ro_109_19 i22 rfl; omega) rfl (by rw [e48, e47, ← e27x9]; exact hk33.1) (by rw [e65, sI_p rfl, e64, ← e27x9]; exact hk33.2) (by have a0 := oa6 j18_1 ro_109_20 ro_109_19 i22 j18_2 i88; have a6 := t_add e88 i22 (in_c 1 rfl) rfl; have a7 := oa2 ((in_c 1 rfl)) i27x9; have a9 := t_add e27x9 ro_109_19 i22 rfl; omega) | exact ee_0 (by decide))
            exact gg_w (by first | exact Nat.le_add_right _ _ | exact gw2 | exact gw3 | exact gwe rfl | exact gwf rfl | exact gwg rfl | exact gwh rfl | omega) (gg_f (gf_cons rfl (gf_cons rfl (gf_cons rfl (gf_cons rfl gf_nil)))) (ih18 sc18 y18_2 z88 hIc18 hFc18 (in_w 0 31 j18_1 rfl) (in_w 0 160 j18_2 rfl) (in_w 0 160 i88 rfl) n18 n18a n18b n18c (m_up mm18 (t_add e88 i22 (in_c 1 rfl) rfl) (in_w 1 1 (in_c 1 rfl) rfl))))
          · skip
            exact zn_ne c30 (in_c 0 rfl) rfl
        · skip
          have i27x11 := z_ne 1 1 c27x11 i27x10 rfl
          refine g_aload_n 15 (gd rfl) rfl rfl ?_
          refine g_getA (q2 := 113) 18 (gd rfl) rfl rfl rfl rfl ?_
          refine g_aload_n 19 (gd rfl) rfl rfl ?_
          refine g_getI 22 (gd rfl) rfl rfl rfl (fun z27x19 e27x19 => ?_)
          have q27x19 : u_109_19 = z27x19 := (fr_F e_109_19 hFc18 rfl).trans e27x19.symm
          subst q27x19
          refine g_iload_n 23 (gd rfl) rfl rfl ?_
          refine g_iadd 24 (gd rfl) rfl (fun z27x23 e27x23 => ?_)
          have i27x23 := in_add 0 319 e27x23 ro_109_19 i22 rfl rfl
          refine g_iaload 25 (gd rfl) rfl (n := 480) rfl (in_ix i27x23 rfl) (fun z27x24 e27x24 => ?_)
          have i27x24 := inv_I hIc18 (n := 480) (t := 0) 0 31 rfl (in_ix i27x23 rfl) rfl e27x24
          refine g_aload_n 26 (gd rfl) rfl rfl ?_
          refine g_getA (q2 := 114) 29 (gd rfl) rfl rfl rfl rfl ?_
          refine g_aload_n 30 (gd rfl) rfl rfl ?_
          refine g_getI 33 (gd rfl) rfl rfl rfl (fun z27x30 e27x30 => ?_)
          have q27x30 : u_109_19 = z27x30 := (fr_F e_109_19 hFc18 rfl).trans e27x30.symm
          subst q27x30
          refine g_iload_n 34 (gd rfl) rfl rfl ?_
          refine g_iadd 35 (gd rfl) rfl (fun z27x34 e27x34 => ?_)
          have i27x34 := in_add 0 319 e27x34 ro_109_19 i22 rfl rfl
          refine g_iaload 36 (gd rfl) rfl (n := 480) rfl (in_ix i27x34 rfl) (fun z27x35 e27x35 => ?_)
          have i27x35 := inv_I hIc18 (n := 480) (t := 0) 0 31 rfl (in_ix i27x34 rfl) rfl e27x35
          refine g_cmp_eq 39 43 (gd rfl) rfl rfl (fun c27x36 => ?_) (fun c27x36 => ?_)
          · skip
            refine g_iconst 0 44 (gd rfl) rfl rfl ?_
            refine g_ireturn (gd rfl) rfl (nb01 (in_w 0 1 (in_c 0 rfl) rfl)) (hp27 _ _ ?_)
            show GG _ _ _ _ _ _ _ _ [.int (Int32.ofInt 0)] _ _ _
            refine g_if_eq 33 88 (gd rfl) rfl rfl (fun c30 => ?_) (fun c30 => ?_)
            · skip
              refine g_iinc 91 (gd rfl) rfl rfl (Nat.le_of_ble_eq_true rfl) (fun z88 e88 => ?_)
              have i88 := in_add 1 160 e88 i22 (in_c 1 rfl) rfl rfl
              refine g_goto 18 (gd rfl) rfl ?_
              have n18 : (y18_2).toInt ≤ (z88).toInt := by have a0 := oa6 j18_1 ro_109_20 ro_109_19 i22 j18_2 i88; have a6 := t_add e88 i22 (in_c 1 rfl) rfl; have a7 := oa2 ((in_c 1 rfl)) i27x34; have a9 := t_add e27x34 ro_109_19 i22 rfl; have a10 := in_u i27x23; have a11 := t_add e27x23 ro_109_19 i22 rfl; have a12 := in_u i27x9; have a13 := t_add e27x9 ro_109_19 i22 rfl; omega
              have n18a : 0 ≤ (y18_2).toInt := by first | exact n18_1 | (have a0 := oa6 j18_1 ro_109_20 ro_109_19 i22 j18_2 i88; have a6 := t_add e88 i22 (in_c 1 rfl) rfl; have a7 := oa2 ((in_c 1 rfl)) i27x34; have a9 := t_add e27x34 ro_109_19 i22 rfl; have a10 := in_u i27x23; have a11 := t_add e27x23 ro_109_19 i22 rfl; have a12 := in_u i27x9; have a13 := t_add e27x9 ro_109_19 i22 rfl; omega)
              have n18b : (x1).toInt < (u_109_20).toInt := by first | exact n18_2 | (have a0 := oa6 j18_1 ro_109_20 ro_109_19 i22 j18_2 i88; have a6 := t_add e88 i22 (in_c 1 rfl) rfl; have a7 := oa2 ((in_c 1 rfl)) i27x34; have a9 := t_add e27x34 ro_109_19 i22 rfl; have a10 := in_u i27x23; have a11 := t_add e27x23 ro_109_19 i22 rfl; have a12 := in_u i27x9; have a13 := t_add e27x9 ro_109_19 i22 rfl; omega)
              have n18c : EE sc18 (y18_2).toInt (u_109_20).toInt := by first | exact g18_0 | (first | exact g18_0 | exact ee_s g18_0 (y := y18_2) (z := z48) (w := z65) (by simp [sL, sI]) (by simp [sL, sI]) (by have a0 := oa6 j18_1 ro_109_20 ro_109_19 i22 j18_2 i88; have a6 := t_add e88 i22 (in_c 1 rfl) rfl; have a7 := oa2 ((in_c 1 rfl)) i27x34; have a9 := t_add e27x34 ro_109_19 i22 rfl; have a10 := in_u i27x23; have a11 := t_add e27x23 ro_109_19 i22 rfl; have a12 := in_u i27x9; have a13 := t_add e27x9 ro_109_19 i22 rfl; omega) rfl (by rw [e48, e47, ← e27x9]; exact hk33.1) (by rw [e65, sI_p rfl, e64, ← e27x9]; exact hk33.2) (by have a0 := oa6 j18_1 ro_109_20 ro_109_19 i22 j18_2 i88; have a6 := t_add e88 i22 (in_c 1 rfl) rfl; have a7 := oa2 ((in_c 1 rfl)) i27x34; have a9 := t_add e27x34 ro_109_19 i22 rfl; have a10 := in_u i27x23; have a11 := t_add e27x23 ro_109_19 i22 rfl; have a12 := in_u i27x9; have a13 := t_add e27x9 ro_109_19 i22 rfl; omega) | exact ee_0 (by decide))
              exact gg_w (by first | exact Nat.le_add_right _ _ | exact gw2 | exact gw3 | exact gwe rfl | exact gwf rfl | exact gwg rfl | exact gwh rfl | omega) (gg_f (gf_cons rfl (gf_cons rfl (gf_cons rfl (gf_cons rfl gf_nil)))) (ih18 sc18 y18_2 z88 hIc18 hFc18 (in_w 0 31 j18_1 rfl) (in_w 0 160 j18_2 rfl) (in_w 0 160 i88 rfl) n18 n18a n18b n18c (m_up mm18 (t_add e88 i22 (in_c 1 rfl) rfl) (in_w 1 1 (in_c 1 rfl) rfl))))
            · skip
              exact zn_ne c30 (in_c 0 rfl) rfl
          · skip
            refine g_iconst 1 40 (gd rfl) rfl rfl ?_
            refine g_goto 44 (gd rfl) rfl ?_
            refine g_ireturn (gd rfl) rfl (nb01 (in_w 0 1 (in_c 1 rfl) rfl)) (hp27 _ _ ?_)
            show GG _ _ _ _ _ _ _ _ [.int (Int32.ofInt 1)] _ _ _
            refine g_if_eq 33 88 (gd rfl) rfl rfl (fun c30 => ?_) (fun c30 => ?_)
            · skip
              exact zn_eq c30 (in_c 1 rfl) rfl
            · skip
              have hk33 := ke_n hIc18 (i := z27x9.toNatClampNeg) (by rw [← (show u_109_19 = sc18.2.2.1 109 19 from fr_F e_109_19 hFc18 rfl)]; show _ ≤ ((z27x9.toInt.toNat : Nat) : Int); have a0 := oa6 j18_1 ro_109_20 ro_109_19 i22 j18_2 i27x34; have a6 := t_add e27x34 ro_109_19 i22 rfl; have a7 := in_u i27x23; have a8 := t_add e27x23 ro_109_19 i22 rfl; have a9 := in_u i27x9; have a10 := t_add e27x9 ro_109_19 i22 rfl; omega) (by rw [← (show u_109_19 = sc18.2.2.1 109 19 from fr_F e_109_19 hFc18 rfl)]; show ((z27x9.toInt.toNat : Nat) : Int) < _; have a0 := oa6 j18_1 ro_109_20 ro_109_19 i22 j18_2 i27x34; have a6 := t_add e27x34 ro_109_19 i22 rfl; have a7 := in_u i27x23; have a8 := t_add e27x23 ro_109_19 i22 rfl; have a9 := in_u i27x9; have a10 := t_add e27x9 ro_109_19 i22 rfl; omega) (by rw [← e27x10]; exact c27x11); rw [← (show u_109_20 = sc18.2.2.1 109 20 from fr_F e_109_20 hFc18 rfl)] at hk33
              refine g_aload_n 34 (gd rfl) rfl rfl ?_
              refine g_getA (q2 := 153) 37 (gd rfl) rfl rfl rfl rfl ?_
              refine g_iload_n 38 (gd rfl) rfl rfl ?_
              refine g_aload_n 39 (gd rfl) rfl rfl ?_
              refine g_getA (q2 := 113) 42 (gd rfl) rfl rfl rfl rfl ?_
              refine g_aload_n 43 (gd rfl) rfl rfl ?_
              refine g_getI 46 (gd rfl) rfl rfl rfl (fun z43 e43 => ?_)
              have q43 : u_109_19 = z43 := (fr_F e_109_19 hFc18 rfl).trans e43.symm
              subst q43
              refine g_iload_n 47 (gd rfl) rfl rfl ?_
              refine g_iadd 48 (gd rfl) rfl (fun z47 e47 => ?_)
              have i47 := in_add 0 319 e47 ro_109_19 i22 rfl rfl
              refine g_iaload 49 (gd rfl) rfl (n := 480) rfl (in_ix i47 rfl) (fun z48 e48 => ?_)
              have i48 := inv_I hIc18 (n := 480) (t := 0) 0 31 rfl (in_ix i47 rfl) rfl e48
              have i49 : In y18_2 0 159 := by exact ⟨by have a0 := oa6 j18_1 ro_109_20 ro_109_19 i22 j18_2 i47; have a6 := t_add e47 ro_109_19 i22 rfl; have a7 := in_u i27x34; have a8 := t_add e27x34 ro_109_19 i22 rfl; have a9 := in_u i27x23; have a10 := t_add e27x23 ro_109_19 i22 rfl; have a11 := in_u i27x9; have a12 := t_add e27x9 ro_109_19 i22 rfl; omega, by have a0 := oa6 j18_1 ro_109_20 ro_109_19 i22 j18_2 i47; have a6 := t_add e47 ro_109_19 i22 rfl; have a7 := in_u i27x34; have a8 := t_add e27x34 ro_109_19 i22 rfl; have a9 := in_u i27x23; have a10 := t_add e27x23 ro_109_19 i22 rfl; have a11 := in_u i27x9; have a12 := t_add e27x9 ro_109_19 i22 rfl; omega⟩
              refine g_iastore 50 (gd rfl) rfl (n := 160) rfl (in_ix i49 rfl) ?_
              have hI49 := inv_sI (q := 153) (j := y18_2.toNatClampNeg) hIc18 rfl (in_w 0 31 i48 rfl)
              refine g_aload_n 51 (gd rfl) rfl rfl ?_
              refine g_getA (q2 := 154) 54 (gd rfl) rfl rfl rfl rfl ?_
              refine g_iload_n 55 (gd rfl) rfl rfl ?_
              refine g_aload_n 56 (gd rfl) rfl rfl ?_
              refine g_getA (q2 := 114) 59 (gd rfl) rfl rfl rfl rfl ?_
              refine g_aload_n 60 (gd rfl) rfl rfl ?_
              refine g_getI 63 (gd rfl) rfl rfl rfl (fun z60 e60 => ?_)
              have q60 : u_109_19 = z60 := (sI_F (fr_F e_109_19 hFc18 rfl)).trans e60.symm
              subst q60
              refine g_iload_n 64 (gd rfl) rfl rfl ?_
              refine g_iadd 65 (gd rfl) rfl (fun z64 e64 => ?_)
              have i64 := in_add 0 319 e64 ro_109_19 i22 rfl rfl
              refine g_iaload 66 (gd rfl) rfl (n := 480) rfl (in_ix i64 rfl) (fun z65 e65 => ?_)
              have i65 := inv_I hI49 (n := 480) (t := 0) 0 31 rfl (in_ix i64 rfl) rfl e65
              refine g_iastore 67 (gd rfl) rfl (n := 160) rfl (in_ix i49 rfl) ?_
              have hI66 := inv_sI (q := 154) (j := y18_2.toNatClampNeg) hI49 rfl (in_w 0 31 i65 rfl)
              refine g_aload_n 68 (gd rfl) rfl rfl ?_
              refine g_getA (q2 := 155) 71 (gd rfl) rfl rfl rfl rfl ?_
              refine g_iload_n 72 (gd rfl) rfl rfl ?_
              refine g_aload_n 73 (gd rfl) rfl rfl ?_
              refine g_getA (q2 := 115) 76 (gd rfl) rfl rfl rfl rfl ?_
              refine g_aload_n 77 (gd rfl) rfl rfl ?_
              refine g_getI 80 (gd rfl) rfl rfl rfl (fun z77 e77 => ?_)
              have q77 : u_109_19 = z77 := (sI_F (sI_F (fr_F e_109_19 hFc18 rfl))).trans e77.symm
              subst q77
              refine g_iload_n 81 (gd rfl) rfl rfl ?_
              refine g_iadd 82 (gd rfl) rfl (fun z81 e81 => ?_)
              have i81 := in_add 0 319 e81 ro_109_19 i22 rfl rfl
              refine g_iaload 83 (gd rfl) rfl (n := 480) rfl (in_ix i81 rfl) (fun z82 e82 => ?_)
              have i82 := inv_I hI66 (n := 480) (t := 0) (-1000000) 1000000 rfl (in_ix i81 rfl) rfl e82
              refine g_i2l 84 (gd rfl) rfl (fun z83 e83 => ?_)
              have i83 := l_i e83 i82
              refine g_lastore 85 (gd rfl) rfl (n := 160) rfl (in_ix i49 rfl) ?_
              have hI84 := inv_sL (q := 155) (j := y18_2.toNatClampNeg) (x := z83) hI66 rfl (l_rng z83)
              refine g_iinc 88 (gd rfl) rfl rfl (Nat.le_of_ble_eq_true rfl) (fun z85 e85 => ?_)
              have i85 := in_add 1 160 e85 i49 (in_c 1 rfl) rfl rfl
              refine g_iinc 91 (gd rfl) rfl rfl (Nat.le_of_ble_eq_true rfl) (fun z88 e88 => ?_)
              have i88 := in_add 1 160 e88 i22 (in_c 1 rfl) rfl rfl
              refine g_goto 18 (gd rfl) rfl ?_
              have n18 : (z85).toInt ≤ (z88).toInt := by have a0 := oa6 j18_1 ro_109_20 ro_109_19 i22 i49 i88; have a6 := t_add e88 i22 (in_c 1 rfl) rfl; have a7 := oa2 ((in_c 1 rfl)) i85; have a9 := t_add e85 i49 (in_c 1 rfl) rfl; have a10 := tx_i2l e83; have a11 := oa2 i82 i81; have a13 := t_add e81 ro_109_19 i22 rfl; have a14 := in_u i64; have a15 := t_add e64 ro_109_19 i22 rfl; have a16 := in_u i47; have a17 := t_add e47 ro_109_19 i22 rfl; have a18 := in_u i27x34; have a19 := t_add e27x34 ro_109_19 i22 rfl; have a20 := in_u i27x23; have a21 := t_add e27x23 ro_109_19 i22 rfl; have a22 := in_u i27x9; have a23 := t_add e27x9 ro_109_19 i22 rfl; omega
              have n18a : 0 ≤ (z85).toInt := by have a0 := oa6 j18_1 ro_109_20 ro_109_19 i22 i49 i88; have a6 := t_add e88 i22 (in_c 1 rfl) rfl; have a7 := oa2 ((in_c 1 rfl)) i85; have a9 := t_add e85 i49 (in_c 1 rfl) rfl; have a10 := tx_i2l e83; have a11 := oa2 i82 i81; have a13 := t_add e81 ro_109_19 i22 rfl; have a14 := in_u i64; have a15 := t_add e64 ro_109_19 i22 rfl; have a16 := in_u i47; have a17 := t_add e47 ro_109_19 i22 rfl; have a18 := in_u i27x34; have a19 := t_add e27x34 ro_109_19 i22 rfl; have a20 := in_u i27x23; have a21 := t_add e27x23 ro_109_19 i22 rfl; have a22 := in_u i27x9; have a23 := t_add e27x9 ro_109_19 i22 rfl; omega
              have n18b : (x1).toInt < (u_109_20).toInt := by first | exact n18_2 | (have a0 := oa6 j18_1 ro_109_20 ro_109_19 i22 i49 i88; have a6 := t_add e88 i22 (in_c 1 rfl) rfl; have a7 := oa2 ((in_c 1 rfl)) i85; have a9 := t_add e85 i49 (in_c 1 rfl) rfl; have a10 := tx_i2l e83; have a11 := oa2 i82 i81; have a13 := t_add e81 ro_109_19 i22 rfl; have a14 := in_u i64; have a15 := t_add e64 ro_109_19 i22 rfl; have a16 := in_u i47; have a17 := t_add e47 ro_109_19 i22 rfl; have a18 := in_u i27x34; have a19 := t_add e27x34 ro_109_19 i22 rfl; have a20 := in_u i27x23; have a21 := t_add e27x23 ro_109_19 i22 rfl; have a22 := in_u i27x9; have a23 := t_add e27x9 ro_109_19 i22 rfl; omega)
              have n18c : EE (sL (sI (sI sc18 153 y18_2.toNatClampNeg z48) 154 y18_2.toNatClampNeg z65) 155 y18_2.toNatClampNeg z83) (z85).toInt (u_109_20).toInt := by first | exact g18_0 | exact ee_s g18_0 (y := y18_2) (z := z48) (w := z65) (by simp [sL, sI]) (by simp [sL, sI]) (by have a0 := oa6 j18_1 ro_109_20 ro_109_19 i22 i49 i88; have a6 := t_add e88 i22 (in_c 1 rfl) rfl; have a7 := oa2 ((in_c 1 rfl)) i85; have a9 := t_add e85 i49 (in_c 1 rfl) rfl; have a10 := tx_i2l e83; have a11 := oa2 i82 i81; have a13 := t_add e81 ro_109_19 i22 rfl; have a14 := in_u i64; have a15 := t_add e64 ro_109_19 i22 rfl; have a16 := in_u i47; have a17 := t_add e47 ro_109_19 i22 rfl; have a18 := in_u i27x34; have a19 := t_add e27x34 ro_109_19 i22 rfl; have a20 := in_u i27x23; have a21 := t_add e27x23 ro_109_19 i22 rfl; have a22 := in_u i27x9; have a23 := t_add e27x9 ro_109_19 i22 rfl; omega) rfl (by rw [e48, e47, ← e27x9]; exact hk33.1) (by rw [e65, sI_p rfl, e64, ← e27x9]; exact hk33.2) (by have a0 := oa6 j18_1 ro_109_20 ro_109_19 i22 i49 i88; have a6 := t_add e88 i22 (in_c 1 rfl) rfl; have a7 := oa2 ((in_c 1 rfl)) i85; have a9 := t_add e85 i49 (in_c 1 rfl) rfl; have a10 := tx_i2l e83; have a11 := oa2 i82 i81; have a13 := t_add e81 ro_109_19 i22 rfl; have a14 := in_u i64; have a15 := t_add e64 ro_109_19 i22 rfl; have a16 := in_u i47; have a17 := t_add e47 ro_109_19 i22 rfl; have a18 := in_u i27x34; have a19 := t_add e27x34 ro_109_19 i22 rfl; have a20 := in_u i27x23; have a21 := t_add e27x23 ro_109_19 i22 rfl; have a22 := in_u i27x9; have a23 := t_add e27x9 ro_109_19 i22 rfl; omega) | exact ee_0 (by decide)
              exact gg_w (by first | exact Nat.le_add_right _ _ | exact gw2 | exact gw3 | exact gwe rfl | exact gwf rfl | exact gwg rfl | exact gwh rfl | omega) (gg_f (gf_cons rfl (gf_cons rfl (gf_cons rfl (gf_cons rfl gf_nil)))) (ih18 (sL (sI (sI sc18 153 y18_2.toNatClampNeg z48) 154 y18_2.toNatClampNeg z65) 155 y18_2.toNatClampNeg z83) z85 z88 hI84 (fr_sL rfl (fr_sI rfl (fr_sI rfl hFc18))) (in_w 0 31 j18_1 rfl) (in_w 0 160 i85 rfl) (in_w 0 160 i88 rfl) n18 n18a n18b n18c (m_up mm18 (t_add e88 i22 (in_c 1 rfl) rfl) (in_w 1 1 (in_c 1 rfl) rfl))))
  refine g_enter2 (k := 363) (N := 11936834) (by first | exact dq1 hd rfl | exact dq0 hd rfl | exact dq2 hd rfl | exact dq3 hd rfl | omega) rfl (Nat.le_of_ble_eq_true rfl) ?_
  refine g_aload_n 1 (gd rfl) rfl rfl ?_
  refine g_aload_n 2 (gd rfl) rfl rfl ?_
  refine g_iload_n 3 (gd rfl) rfl rfl ?_
  refine g_callv (X := _) (As := [.int x1]) (r := [.ref (A 109)]) (b := A 109) (q := 109) 6 (gd rfl) rfl rfl rfl rfl rfl (ww_o rfl) (Nat.le_of_ble_eq_true rfl) (mc := 0) (ms := 0) (Nat.zero_le _) (Nat.zero_le _) (P := fun v u => _) ?_ (fun e u h => h) (fun v u h => h)
  intro po3 xx3 hp3 hx3
  refine g_enter2 (k := 272) (N := 300) (by first | exact dq1 hd rfl | exact dq0 hd rfl | exact dq2 hd rfl | exact dq3 hd rfl | omega) rfl (Nat.le_of_ble_eq_true rfl) ?_
  refine g_iload_n 1 (gd rfl) rfl rfl ?_
  refine g_if_lt 4 16 (gd rfl) rfl rfl (fun c3x1 => ?_) (fun c3x1 => ?_)
  · skip
    have i3x1 := z_lt (-2147483648) (-1) c3x1 (i_rng x1) rfl
    refine g_iconst 0 17 (gd rfl) rfl rfl ?_
    refine g_ireturn (gd rfl) rfl (nb01 (in_w 0 1 (in_c 0 rfl) rfl)) (hp3 _ _ ?_)
    show GG _ _ _ _ _ _ _ _ [.int (Int32.ofInt 0), .ref (A 109)] _ _ _
    refine g_callv (X := _) (As := [.int (Int32.ofInt 0)]) (r := []) (b := A 109) (q := 109) 9 (gd rfl) rfl rfl rfl rfl rfl (ww_o rfl) (Nat.le_of_ble_eq_true rfl) (mc := 0) (ms := 0) (Nat.zero_le _) (Nat.zero_le _) (P := fun v u => _) ?_ (fun e u h => h) (fun v u h => h)
    intro po6 xx6 hp6 hx6
    refine g_enter2 (k := 271) (N := 300) (by first | exact dq1 hd rfl | exact dq0 hd rfl | exact dq2 hd rfl | exact dq3 hd rfl | omega) rfl (Nat.le_of_ble_eq_true rfl) ?_
    refine g_aload_n 1 (gd rfl) rfl rfl ?_
    refine g_iload_n 2 (gd rfl) rfl rfl ?_
    refine g_iconst 1 3 (gd rfl) rfl rfl ?_
    refine g_callv (X := _) (As := [.int (Int32.ofInt 0), .int (Int32.ofInt 1)]) (r := []) (b := A 109) (q := 109) 6 (gd rfl) rfl rfl rfl rfl rfl (ww_o rfl) (Nat.le_of_ble_eq_true rfl) (mc := 0) (ms := 0) (Nat.zero_le _) (Nat.zero_le _) (P := fun v u => _) ?_ (fun e u h => h) (fun v u h => h)
    intro po6x3 xx6x3 hp6x3 hx6x3
    refine g_enter2 (k := 270) (N := 300) (by first | exact dq1 hd rfl | exact dq0 hd rfl | exact dq2 hd rfl | exact dq3 hd rfl | omega) rfl (Nat.le_of_ble_eq_true rfl) ?_
    refine g_aload_n 1 (gd rfl) rfl rfl ?_
    refine g_iload_n 2 (gd rfl) rfl rfl ?_
    refine g_if_ne 5 9 (gd rfl) rfl rfl (fun c6x3x2 => ?_) (fun c6x3x2 => ?_)
    · skip
      exact zn_ne c6x3x2 (in_c 0 rfl) rfl
    · skip
      refine g_iconst 1 6 (gd rfl) rfl rfl ?_
      refine g_goto 18 (gd rfl) rfl ?_
      refine g_putI 21 (gd rfl) rfl rfl rfl rfl ?_
      have hI6x3x18 := inv_sF (q := 109) (j := 0) hI rfl (in_w 0 2 (in_c 1 rfl) rfl)
      refine g_aload_n 22 (gd rfl) rfl rfl ?_
      refine g_getI 25 (gd rfl) rfl rfl rfl (fun z6x3x22 e6x3x22 => ?_)
      have q6x3x22 : (Int32.ofInt 1) = z6x3x22 := (sF_get).trans e6x3x22.symm
      subst q6x3x22
      refine g_if_le 28 32 (gd rfl) rfl rfl (fun c6x3x25 => ?_) (fun c6x3x25 => ?_)
      · skip
        exact zn_le c6x3x25 (in_c 1 rfl) rfl
      · skip
        refine g_iconst 1 29 (gd rfl) rfl rfl ?_
        refine g_goto 33 (gd rfl) rfl ?_
        refine g_ireturn (gd rfl) rfl (nb01 (in_w 0 1 (in_c 1 rfl) rfl)) (hp6x3 _ _ ?_)
        show GG _ _ _ _ _ _ _ _ [.int (Int32.ofInt 1)] _ _ _
        refine g_ireturn (gd rfl) rfl (nb01 (in_w 0 1 (in_c 1 rfl) rfl)) (hp6 _ _ ?_)
        show GG _ _ _ _ _ _ _ _ [.int (Int32.ofInt 1)] _ _ _
        refine g_if_eq 12 14 (gd rfl) rfl rfl (fun c9 => ?_) (fun c9 => ?_)
        · skip
          exact zn_eq c9 (in_c 1 rfl) rfl
        · skip
          refine g_lconst 0 13 (gd rfl) rfl rfl ?_
          exact g_lreturn (gd rfl) rfl (hP _ _ ⟨(sF s 109 0 (Int32.ofInt 1)), hI6x3x18, (fr_sF rfl fr_rf), (Int64.ofInt 0), rfl, rfl⟩)
  · skip
    have i3x1 := z_ge 0 2147483647 c3x1 (i_rng x1) rfl
    refine g_iload_n 5 (gd rfl) rfl rfl ?_
    refine g_aload_n 6 (gd rfl) rfl rfl ?_
    refine g_getI 9 (gd rfl) rfl rfl rfl (fun z3x6 e3x6 => ?_)
    have q3x6 : u_109_20 = z3x6 := (e_109_20).trans e3x6.symm
    subst q3x6
    refine g_cmp_ge 12 16 (gd rfl) rfl rfl (fun c3x9 => ?_) (fun c3x9 => ?_)
    · skip
      refine g_iconst 0 17 (gd rfl) rfl rfl ?_
      refine g_ireturn (gd rfl) rfl (nb01 (in_w 0 1 (in_c 0 rfl) rfl)) (hp3 _ _ ?_)
      show GG _ _ _ _ _ _ _ _ [.int (Int32.ofInt 0), .ref (A 109)] _ _ _
      refine g_callv (X := _) (As := [.int (Int32.ofInt 0)]) (r := []) (b := A 109) (q := 109) 9 (gd rfl) rfl rfl rfl rfl rfl (ww_o rfl) (Nat.le_of_ble_eq_true rfl) (mc := 0) (ms := 0) (Nat.zero_le _) (Nat.zero_le _) (P := fun v u => _) ?_ (fun e u h => h) (fun v u h => h)
      intro po6 xx6 hp6 hx6
      refine g_enter2 (k := 271) (N := 300) (by first | exact dq1 hd rfl | exact dq0 hd rfl | exact dq2 hd rfl | exact dq3 hd rfl | omega) rfl (Nat.le_of_ble_eq_true rfl) ?_
      refine g_aload_n 1 (gd rfl) rfl rfl ?_
      refine g_iload_n 2 (gd rfl) rfl rfl ?_
      refine g_iconst 1 3 (gd rfl) rfl rfl ?_
      refine g_callv (X := _) (As := [.int (Int32.ofInt 0), .int (Int32.ofInt 1)]) (r := []) (b := A 109) (q := 109) 6 (gd rfl) rfl rfl rfl rfl rfl (ww_o rfl) (Nat.le_of_ble_eq_true rfl) (mc := 0) (ms := 0) (Nat.zero_le _) (Nat.zero_le _) (P := fun v u => _) ?_ (fun e u h => h) (fun v u h => h)
      intro po6x3 xx6x3 hp6x3 hx6x3
      refine g_enter2 (k := 270) (N := 300) (by first | exact dq1 hd rfl | exact dq0 hd rfl | exact dq2 hd rfl | exact dq3 hd rfl | omega) rfl (Nat.le_of_ble_eq_true rfl) ?_
      refine g_aload_n 1 (gd rfl) rfl rfl ?_
      refine g_iload_n 2 (gd rfl) rfl rfl ?_
      refine g_if_ne 5 9 (gd rfl) rfl rfl (fun c6x3x2 => ?_) (fun c6x3x2 => ?_)
      · skip
        exact zn_ne c6x3x2 (in_c 0 rfl) rfl
      · skip
        refine g_iconst 1 6 (gd rfl) rfl rfl ?_
        refine g_goto 18 (gd rfl) rfl ?_
        refine g_putI 21 (gd rfl) rfl rfl rfl rfl ?_
        have hI6x3x18 := inv_sF (q := 109) (j := 0) hI rfl (in_w 0 2 (in_c 1 rfl) rfl)
        refine g_aload_n 22 (gd rfl) rfl rfl ?_
        refine g_getI 25 (gd rfl) rfl rfl rfl (fun z6x3x22 e6x3x22 => ?_)
        have q6x3x22 : (Int32.ofInt 1) = z6x3x22 := (sF_get).trans e6x3x22.symm
        subst q6x3x22
        refine g_if_le 28 32 (gd rfl) rfl rfl (fun c6x3x25 => ?_) (fun c6x3x25 => ?_)
        · skip
          exact zn_le c6x3x25 (in_c 1 rfl) rfl
        · skip
          refine g_iconst 1 29 (gd rfl) rfl rfl ?_
          refine g_goto 33 (gd rfl) rfl ?_
          refine g_ireturn (gd rfl) rfl (nb01 (in_w 0 1 (in_c 1 rfl) rfl)) (hp6x3 _ _ ?_)
          show GG _ _ _ _ _ _ _ _ [.int (Int32.ofInt 1)] _ _ _
          refine g_ireturn (gd rfl) rfl (nb01 (in_w 0 1 (in_c 1 rfl) rfl)) (hp6 _ _ ?_)
          show GG _ _ _ _ _ _ _ _ [.int (Int32.ofInt 1)] _ _ _
          refine g_if_eq 12 14 (gd rfl) rfl rfl (fun c9 => ?_) (fun c9 => ?_)
          · skip
            exact zn_eq c9 (in_c 1 rfl) rfl
          · skip
            refine g_lconst 0 13 (gd rfl) rfl rfl ?_
            exact g_lreturn (gd rfl) rfl (hP _ _ ⟨(sF s 109 0 (Int32.ofInt 1)), hI6x3x18, (fr_sF rfl fr_rf), (Int64.ofInt 0), rfl, rfl⟩)
    · skip
      have i3x9 := r_lt1 0 31 c3x9 i3x1 ro_109_20 rfl
      have i3x9a := r_lt2 1 32 c3x9 i3x1 ro_109_20 rfl
      refine g_iconst 1 13 (gd rfl) rfl rfl ?_
      refine g_goto 17 (gd rfl) rfl ?_
      refine g_ireturn (gd rfl) rfl (nb01 (in_w 0 1 (in_c 1 rfl) rfl)) (hp3 _ _ ?_)
      show GG _ _ _ _ _ _ _ _ [.int (Int32.ofInt 1), .ref (A 109)] _ _ _
      refine g_callv (X := _) (As := [.int (Int32.ofInt 1)]) (r := []) (b := A 109) (q := 109) 9 (gd rfl) rfl rfl rfl rfl rfl (ww_o rfl) (Nat.le_of_ble_eq_true rfl) (mc := 0) (ms := 0) (Nat.zero_le _) (Nat.zero_le _) (P := fun v u => _) ?_ (fun e u h => h) (fun v u h => h)
      intro po6 xx6 hp6 hx6
      refine g_enter2 (k := 271) (N := 300) (by first | exact dq1 hd rfl | exact dq0 hd rfl | exact dq2 hd rfl | exact dq3 hd rfl | omega) rfl (Nat.le_of_ble_eq_true rfl) ?_
      refine g_aload_n 1 (gd rfl) rfl rfl ?_
      refine g_iload_n 2 (gd rfl) rfl rfl ?_
      refine g_iconst 1 3 (gd rfl) rfl rfl ?_
      refine g_callv (X := _) (As := [.int (Int32.ofInt 1), .int (Int32.ofInt 1)]) (r := []) (b := A 109) (q := 109) 6 (gd rfl) rfl rfl rfl rfl rfl (ww_o rfl) (Nat.le_of_ble_eq_true rfl) (mc := 0) (ms := 0) (Nat.zero_le _) (Nat.zero_le _) (P := fun v u => _) ?_ (fun e u h => h) (fun v u h => h)
      intro po6x3 xx6x3 hp6x3 hx6x3
      refine g_enter2 (k := 270) (N := 300) (by first | exact dq1 hd rfl | exact dq0 hd rfl | exact dq2 hd rfl | exact dq3 hd rfl | omega) rfl (Nat.le_of_ble_eq_true rfl) ?_
      refine g_aload_n 1 (gd rfl) rfl rfl ?_
      refine g_iload_n 2 (gd rfl) rfl rfl ?_
      refine g_if_ne 5 9 (gd rfl) rfl rfl (fun c6x3x2 => ?_) (fun c6x3x2 => ?_)
      · skip
        refine g_iload_n 10 (gd rfl) rfl rfl ?_
        refine g_if_ne 13 17 (gd rfl) rfl rfl (fun c6x3x10 => ?_) (fun c6x3x10 => ?_)
        · skip
          refine g_iconst 0 18 (gd rfl) rfl rfl ?_
          refine g_putI 21 (gd rfl) rfl rfl rfl rfl ?_
          have hI6x3x18 := inv_sF (q := 109) (j := 0) hI rfl (in_w 0 2 (in_c 0 rfl) rfl)
          refine g_aload_n 22 (gd rfl) rfl rfl ?_
          refine g_getI 25 (gd rfl) rfl rfl rfl (fun z6x3x22 e6x3x22 => ?_)
          have q6x3x22 : (Int32.ofInt 0) = z6x3x22 := (sF_get).trans e6x3x22.symm
          subst q6x3x22
          refine g_if_le 28 32 (gd rfl) rfl rfl (fun c6x3x25 => ?_) (fun c6x3x25 => ?_)
          · skip
            refine g_iconst 0 33 (gd rfl) rfl rfl ?_
            refine g_ireturn (gd rfl) rfl (nb01 (in_w 0 1 (in_c 0 rfl) rfl)) (hp6x3 _ _ ?_)
            show GG _ _ _ _ _ _ _ _ [.int (Int32.ofInt 0)] _ _ _
            refine g_ireturn (gd rfl) rfl (nb01 (in_w 0 1 (in_c 0 rfl) rfl)) (hp6 _ _ ?_)
            show GG _ _ _ _ _ _ _ _ [.int (Int32.ofInt 0)] _ _ _
            refine g_if_eq 12 14 (gd rfl) rfl rfl (fun c9 => ?_) (fun c9 => ?_)
            · skip
              refine g_iconst 0 15 (gd rfl) rfl rfl ?_
              refine g_istore_n 16 (gd rfl) rfl (Nat.le_of_ble_eq_true rfl) ?_
              refine g_iconst 0 17 (gd rfl) rfl rfl ?_
              refine g_istore_n 18 (gd rfl) rfl (Nat.le_of_ble_eq_true rfl) ?_
              have n18 : ((Int32.ofInt 0)).toInt ≤ ((Int32.ofInt 0)).toInt := by exact Int.le_refl _
              have n18a : 0 ≤ ((Int32.ofInt 0)).toInt := by have a0 := oa4 i3x9 i3x9a ro_109_19 ((in_c 0 rfl)); omega
              have n18b : (x1).toInt < (u_109_20).toInt := by have a0 := oa4 i3x9 i3x9a ro_109_19 ((in_c 0 rfl)); omega
              have n18c : EE (sF s 109 0 (Int32.ofInt 0)) ((Int32.ofInt 0)).toInt (u_109_20).toInt := by first | exact g18_0 | exact ee_s g18_0 (y := y18_2) (z := z48) (w := z65) (by simp [sL, sI]) (by simp [sL, sI]) (by have a0 := oa4 i3x9 i3x9a ro_109_19 ((in_c 0 rfl)); omega) rfl (by rw [e48, e47, ← e27x9]; exact hk33.1) (by rw [e65, sI_p rfl, e64, ← e27x9]; exact hk33.2) (by have a0 := oa4 i3x9 i3x9a ro_109_19 ((in_c 0 rfl)); omega) | exact ee_0 (by decide)
              exact gg_w (by first | exact Nat.le_of_ble_eq_true rfl | omega) (gg_f (gf_cons rfl (gf_cons rfl (gf_cons rfl (gf_cons rfl gf_nil)))) (ct18 161 (sF s 109 0 (Int32.ofInt 0)) (Int32.ofInt 0) (Int32.ofInt 0) hI6x3x18 (fr_sF rfl fr_rf) (in_w 0 31 i3x9 rfl) (in_w 0 160 (in_c 0 rfl) rfl) (in_w 0 160 (in_c 0 rfl) rfl) n18 n18a n18b n18c (m_in 161 (in_w 0 160 (in_c 0 rfl) rfl) rfl)))
            · skip
              exact zn_ne c9 (in_c 0 rfl) rfl
          · skip
            exact zn_gt c6x3x25 (in_c 0 rfl) rfl
        · skip
          exact zn_eq c6x3x10 (in_c 1 rfl) rfl
      · skip
        exact zn_eq c6x3x2 (in_c 1 rfl) rfl

/-- GraphHouseModel.bestGroup -/
theorem k_376 {Z : AmZ} {A : Nat → Nat} {s : GS} {ex : va_W} {d : Nat} {X : AmX} {x1 : Int32} (hd : 4 ≤ d) (hI : Inv s) (h1 : In x1 0 31) : GC Z d 376 [.ref (A 109), .int x1] (WW Z A s ++ ex) 0 0 (fun v u => ∃ z : Int32, v = some (.int z) ∧ u = WW Z A s ++ ex ∧ In z (-2147483648) 2147483647) X := by
  intro post xp hP hX
  obtain ⟨u_109_20, e_109_20⟩ : ∃ w, w = s.2.2.1 109 20 := ⟨_, rfl⟩
  have ro_109_20 := inv_F hI 0 32 rfl e_109_20
  have ct49 : ∀ (k49 : Nat) (y49_2 : Int64) (y49_4 : Int32) (y49_5 : Int32) (y49_6 : Int32) (y49_7 : Int32), (In y49_5 (-1) 40) → (In y49_6 0 1) → (In y49_7 0 32) → 32 - (y49_7).toInt < (k49 : Int) → GG Z (d - 1) 376 post (gx xp) (1 + k49 * 900) 49 (fun j => xlook j [(0, .ref (A 109)), (1, .int x1), (2, .long y49_2), (4, .int y49_4), (5, .int y49_5), (6, .int y49_6), (7, .int y49_7)]) [] (WW Z A s ++ ex) 0 0 := by
    intro k49
    induction k49 with
    | zero => intro y49_2 y49_4 y49_5 y49_6 y49_7 j49_5 j49_6 j49_7 mm49; exact m_no mm49 j49_7 rfl
    | succ k49 ih49 =>
      intro y49_2 y49_4 y49_5 y49_6 y49_7 j49_5 j49_6 j49_7 mm49
      refine gg_w (M := 1 + k49 * 900 + 900) gws ?_
      refine g_iload 51 (gd rfl) rfl rfl ?_
      refine g_aload_n 52 (gd rfl) rfl rfl ?_
      refine g_getI 55 (gd rfl) rfl rfl rfl (fun z52 e52 => ?_)
      have q52 : u_109_20 = z52 := (e_109_20).trans e52.symm
      subst q52
      refine g_cmp_ge 58 171 (gd rfl) rfl rfl (fun c55 => ?_) (fun c55 => ?_)
      · skip
        refine g_iload 173 (gd rfl) rfl rfl ?_
        refine g_if_ne 176 187 (gd rfl) rfl rfl (fun c173 => ?_) (fun c173 => ?_)
        · skip
          have i173 := z_ne 1 1 c173 j49_6 rfl
          refine g_iload 189 (gd rfl) rfl rfl ?_
          exact g_ireturn (gd rfl) rfl rfl (hP _ _ ⟨y49_4, rfl, rfl, in_w (-2147483648) 2147483647 (i_rng y49_4) rfl⟩)
        · skip
          have i173 := z_eq 0 0 c173 j49_6 rfl
          refine g_lload_n 177 (gd rfl) rfl rfl ?_
          refine g_lconst 0 178 (gd rfl) rfl rfl ?_
          refine g_lcmp 179 (gd rfl) rfl (fun z178 e178 => ?_)
          have i178 := lc_in e178
          refine g_if_ge 182 187 (gd rfl) rfl rfl (fun c179 => ?_) (fun c179 => ?_)
          · skip
            have i179 := z_ge 0 1 c179 i178 rfl
            have c179a := lc_ge e178 c179
            have i179a := lr_le2 0 9223372036854775807 c179a (l_c 0 rfl) (l_rng y49_2) rfl
            refine g_iload 189 (gd rfl) rfl rfl ?_
            exact g_ireturn (gd rfl) rfl rfl (hP _ _ ⟨y49_4, rfl, rfl, in_w (-2147483648) 2147483647 (i_rng y49_4) rfl⟩)
          · skip
            have i179 := z_lt (-1) (-1) c179 i178 rfl
            have c179a := lc_lt e178 c179
            have i179a := lr_lt1 (-9223372036854775808) (-1) c179a (l_rng y49_2) (l_c 0 rfl) rfl
            refine g_aload_n 183 (gd rfl) rfl rfl ?_
            refine g_callv (X := _) (As := []) (r := []) (b := A 109) (q := 109) 186 (gd rfl) rfl rfl rfl rfl rfl (ww_o rfl) (Nat.le_of_ble_eq_true rfl) (Nat.zero_le _) (Nat.zero_le _) (k_377 (by first | exact dq1 hd rfl | exact dq0 hd rfl | exact dq2 hd rfl | exact dq3 hd rfl | omega) hI ) (fun e u h => h) (fun v u h => ?_)
            obtain ⟨z183, rfl, rfl, i183⟩ := h
            show GG _ _ _ _ _ _ _ _ [.int z183] _ _ _
            exact g_ireturn (gd rfl) rfl rfl (hP _ _ ⟨z183, rfl, rfl, in_w (-2147483648) 2147483647 i183 rfl⟩)
      · skip
        have i55 := r_lt1 0 31 c55 j49_7 ro_109_20 rfl
        have i55a := r_lt2 1 32 c55 j49_7 ro_109_20 rfl
        refine g_iload 60 (gd rfl) rfl rfl ?_
        refine g_iload_n 61 (gd rfl) rfl rfl ?_
        refine g_cmp_eq 64 165 (gd rfl) rfl rfl (fun c61 => ?_) (fun c61 => ?_)
        · skip
          refine g_iinc 168 (gd rfl) rfl rfl (Nat.le_of_ble_eq_true rfl) (fun z165 e165 => ?_)
          have i165 := in_add 1 32 e165 i55 (in_c 1 rfl) rfl rfl
          refine g_goto 49 (gd rfl) rfl ?_
          exact gg_w (by first | exact Nat.le_add_right _ _ | exact gw2 | exact gw3 | exact gwe rfl | exact gwf rfl | exact gwg rfl | exact gwh rfl | omega) (gg_f (gf_cons rfl (gf_cons rfl (gf_cons rfl (gf_cons rfl (gf_cons rfl (gf_cons rfl (gf_cons rfl gf_nil))))))) (ih49  y49_2 y49_4 y49_5 y49_6 z165  (in_w (-1) 40 j49_5 rfl) (in_w 0 1 j49_6 rfl) (in_w 0 32 i165 rfl) (m_up mm49 (t_add e165 i55 (in_c 1 rfl) rfl) (in_w 1 1 (in_c 1 rfl) rfl))))
        · skip
          refine g_aload_n 65 (gd rfl) rfl rfl ?_
          refine g_getA (q2 := 171) 68 (gd rfl) rfl rfl rfl rfl ?_
          refine g_bipush 32 70 (gd rfl) rfl rfl ?_
          refine g_iload_n 71 (gd rfl) rfl rfl ?_
          refine g_imul 72 (gd rfl) rfl (fun z71 e71 => ?_)
          have i71 := in_mulc 32 0 992 (Or.inl e71) h1 rfl rfl
          refine g_iload 74 (gd rfl) rfl rfl ?_
          refine g_iadd 75 (gd rfl) rfl (fun z74 e74 => ?_)
          have i74 := in_add 0 1023 e74 i71 i55 rfl rfl
          refine g_iaload 76 (gd rfl) rfl (n := 1024) rfl (in_ix i74 rfl) (fun z75 e75 => ?_)
          refine g_if_le 79 165 (gd rfl) rfl rfl (fun c76 => ?_) (fun c76 => ?_)
          · skip
            have i76 := z_le (-2147483648) 0 c76 (i_rng z75) rfl
            refine g_iinc 168 (gd rfl) rfl rfl (Nat.le_of_ble_eq_true rfl) (fun z165 e165 => ?_)
            have i165 := in_add 1 32 e165 i55 (in_c 1 rfl) rfl rfl
            refine g_goto 49 (gd rfl) rfl ?_
            exact gg_w (by first | exact Nat.le_add_right _ _ | exact gw2 | exact gw3 | exact gwe rfl | exact gwf rfl | exact gwg rfl | exact gwh rfl | omega) (gg_f (gf_cons rfl (gf_cons rfl (gf_cons rfl (gf_cons rfl (gf_cons rfl (gf_cons rfl (gf_cons rfl gf_nil))))))) (ih49  y49_2 y49_4 y49_5 y49_6 z165  (in_w (-1) 40 j49_5 rfl) (in_w 0 1 j49_6 rfl) (in_w 0 32 i165 rfl) (m_up mm49 (t_add e165 i55 (in_c 1 rfl) rfl) (in_w 1 1 (in_c 1 rfl) rfl))))
          · skip
            have i76 := z_gt 1 2147483647 c76 (i_rng z75) rfl
            refine g_aload_n 80 (gd rfl) rfl rfl ?_
            refine g_getA (q2 := 169) 83 (gd rfl) rfl rfl rfl rfl ?_
            refine g_iload 85 (gd rfl) rfl rfl ?_
            refine g_iaload 86 (gd rfl) rfl (n := 32) rfl (in_ix i55 rfl) (fun z85 e85 => ?_)
            refine g_aload_n 87 (gd rfl) rfl rfl ?_
            refine g_getA (q2 := 169) 90 (gd rfl) rfl rfl rfl rfl ?_
            refine g_iload_n 91 (gd rfl) rfl rfl ?_
            refine g_iaload 92 (gd rfl) rfl (n := 32) rfl (in_ix h1 rfl) (fun z91 e91 => ?_)
            refine g_cmp_eq 95 165 (gd rfl) rfl rfl (fun c92 => ?_) (fun c92 => ?_)
            · skip
              refine g_iinc 168 (gd rfl) rfl rfl (Nat.le_of_ble_eq_true rfl) (fun z165 e165 => ?_)
              have i165 := in_add 1 32 e165 i55 (in_c 1 rfl) rfl rfl
              refine g_goto 49 (gd rfl) rfl ?_
              exact gg_w (by first | exact Nat.le_add_right _ _ | exact gw2 | exact gw3 | exact gwe rfl | exact gwf rfl | exact gwg rfl | exact gwh rfl | omega) (gg_f (gf_cons rfl (gf_cons rfl (gf_cons rfl (gf_cons rfl (gf_cons rfl (gf_cons rfl (gf_cons rfl gf_nil))))))) (ih49  y49_2 y49_4 y49_5 y49_6 z165  (in_w (-1) 40 j49_5 rfl) (in_w 0 1 j49_6 rfl) (in_w 0 32 i165 rfl) (m_up mm49 (t_add e165 i55 (in_c 1 rfl) rfl) (in_w 1 1 (in_c 1 rfl) rfl))))
            · skip
              refine g_aload_n 96 (gd rfl) rfl rfl ?_
              refine g_iload_n 97 (gd rfl) rfl rfl ?_
              refine g_aload_n 98 (gd rfl) rfl rfl ?_
              refine g_getA (q2 := 169) 101 (gd rfl) rfl rfl rfl rfl ?_
              refine g_iload 103 (gd rfl) rfl rfl ?_
              refine g_iaload 104 (gd rfl) rfl (n := 32) rfl (in_ix i55 rfl) (fun z103 e103 => ?_)
              have q103 : z85 = z103 := (e85).trans e103.symm
              subst q103
              refine g_callv (X := _) (As := [.int x1, .int z85]) (r := []) (b := A 109) (q := 109) 107 (gd rfl) rfl rfl rfl rfl rfl (ww_o rfl) (Nat.le_of_ble_eq_true rfl) (Nat.zero_le _) (Nat.zero_le _) (k_373 (by first | exact dq1 hd rfl | exact dq0 hd rfl | exact dq2 hd rfl | exact dq3 hd rfl | omega) hI (in_w 0 31 h1 rfl)) (fun e u h => h) (fun v u h => ?_)
              obtain ⟨z104, rfl, rfl⟩ := h
              show GG _ _ _ _ _ _ _ _ [.long z104] _ _ _
              refine g_lstore 109 (gd rfl) rfl (Nat.le_of_ble_eq_true rfl) ?_
              refine g_aload_n 110 (gd rfl) rfl rfl ?_
              refine g_aload_n 111 (gd rfl) rfl rfl ?_
              refine g_getA (q2 := 169) 114 (gd rfl) rfl rfl rfl rfl ?_
              refine g_iload 116 (gd rfl) rfl rfl ?_
              refine g_iaload 117 (gd rfl) rfl (n := 32) rfl (in_ix i55 rfl) (fun z116 e116 => ?_)
              have q116 : z85 = z116 := (e85).trans e116.symm
              subst q116
              refine g_iload_n 118 (gd rfl) rfl rfl ?_
              refine g_callv (X := _) (As := [.int z85, .int x1]) (r := []) (b := A 109) (q := 109) 121 (gd rfl) rfl rfl rfl rfl rfl (ww_o rfl) (Nat.le_of_ble_eq_true rfl) (Nat.zero_le _) (Nat.zero_le _) (k_375 (by first | exact dq1 hd rfl | exact dq0 hd rfl | exact dq2 hd rfl | exact dq3 hd rfl | omega) hI (in_w (-1) 31 h1 rfl)) (fun e u h => h) (fun v u h => ?_)
              obtain ⟨z118, rfl, rfl, i118, p118⟩ := h
              show GG _ _ _ _ _ _ _ _ [.int z118] _ _ _
              refine g_istore 123 (gd rfl) rfl (Nat.le_of_ble_eq_true rfl) ?_
              refine g_lload 125 (gd rfl) rfl rfl ?_
              refine g_lload_n 126 (gd rfl) rfl rfl ?_
              refine g_lcmp 127 (gd rfl) rfl (fun z126 e126 => ?_)
              have i126 := lc_in e126
              refine g_if_gt 130 149 (gd rfl) rfl rfl (fun c127 => ?_) (fun c127 => ?_)
              · skip
                have i127 := z_gt 1 1 c127 i126 rfl
                have c127a := lc_gt e126 c127
                have i127a := lr_lt1 (-9223372036854775808) 9223372036854775806 c127a (l_rng y49_2) (l_rng z104) rfl
                have i127b := lr_lt2 (-9223372036854775807) 9223372036854775807 c127a (l_rng y49_2) (l_rng z104) rfl
                refine g_lload 151 (gd rfl) rfl rfl ?_
                refine g_lstore_n 152 (gd rfl) rfl (Nat.le_of_ble_eq_true rfl) ?_
                refine g_aload_n 153 (gd rfl) rfl rfl ?_
                refine g_getA (q2 := 169) 156 (gd rfl) rfl rfl rfl rfl ?_
                refine g_iload 158 (gd rfl) rfl rfl ?_
                refine g_iaload 159 (gd rfl) rfl (n := 32) rfl (in_ix i55 rfl) (fun z158 e158 => ?_)
                have q158 : z85 = z158 := (e85).trans e158.symm
                subst q158
                refine g_istore 161 (gd rfl) rfl (Nat.le_of_ble_eq_true rfl) ?_
                refine g_iload 163 (gd rfl) rfl rfl ?_
                refine g_istore 165 (gd rfl) rfl (Nat.le_of_ble_eq_true rfl) ?_
                refine g_iinc 168 (gd rfl) rfl rfl (Nat.le_of_ble_eq_true rfl) (fun z165 e165 => ?_)
                have i165 := in_add 1 32 e165 i55 (in_c 1 rfl) rfl rfl
                refine g_goto 49 (gd rfl) rfl ?_
                exact gg_w (by first | exact Nat.le_add_right _ _ | exact gw2 | exact gw3 | exact gwe rfl | exact gwf rfl | exact gwg rfl | exact gwh rfl | omega) (gg_f (gf_cons rfl (gf_cons rfl (gf_cons rfl (gf_cons rfl (gf_cons rfl (gf_cons rfl (gf_cons rfl gf_nil))))))) (ih49  z104 z85 z118 y49_6 z165  (in_w (-1) 40 i118 rfl) (in_w 0 1 j49_6 rfl) (in_w 0 32 i165 rfl) (m_up mm49 (t_add e165 i55 (in_c 1 rfl) rfl) (in_w 1 1 (in_c 1 rfl) rfl))))
              · skip
                have i127 := z_le (-1) 0 c127 i126 rfl
                have c127a := lc_le e126 c127
                refine g_lload 132 (gd rfl) rfl rfl ?_
                refine g_lload_n 133 (gd rfl) rfl rfl ?_
                refine g_lcmp 134 (gd rfl) rfl (fun z133 e133 => ?_)
                have i133 := lc_in e133
                refine g_if_ne 137 165 (gd rfl) rfl rfl (fun c134 => ?_) (fun c134 => ?_)
                · skip
                  have c134a := lc_ne e133 c134
                  refine g_iinc 168 (gd rfl) rfl rfl (Nat.le_of_ble_eq_true rfl) (fun z165 e165 => ?_)
                  have i165 := in_add 1 32 e165 i55 (in_c 1 rfl) rfl rfl
                  refine g_goto 49 (gd rfl) rfl ?_
                  exact gg_w (by first | exact Nat.le_add_right _ _ | exact gw2 | exact gw3 | exact gwe rfl | exact gwf rfl | exact gwg rfl | exact gwh rfl | omega) (gg_f (gf_cons rfl (gf_cons rfl (gf_cons rfl (gf_cons rfl (gf_cons rfl (gf_cons rfl (gf_cons rfl gf_nil))))))) (ih49  y49_2 y49_4 y49_5 y49_6 z165  (in_w (-1) 40 j49_5 rfl) (in_w 0 1 j49_6 rfl) (in_w 0 32 i165 rfl) (m_up mm49 (t_add e165 i55 (in_c 1 rfl) rfl) (in_w 1 1 (in_c 1 rfl) rfl))))
                · skip
                  have i134 := z_eq 0 0 c134 i133 rfl
                  have c134a := lc_eq e133 c134
                  refine g_iload 139 (gd rfl) rfl rfl ?_
                  refine g_if_lt 142 165 (gd rfl) rfl rfl (fun c139 => ?_) (fun c139 => ?_)
                  · skip
                    have i139 := z_lt (-1) (-1) c139 j49_5 rfl
                    refine g_iinc 168 (gd rfl) rfl rfl (Nat.le_of_ble_eq_true rfl) (fun z165 e165 => ?_)
                    have i165 := in_add 1 32 e165 i55 (in_c 1 rfl) rfl rfl
                    refine g_goto 49 (gd rfl) rfl ?_
                    exact gg_w (by first | exact Nat.le_add_right _ _ | exact gw2 | exact gw3 | exact gwe rfl | exact gwf rfl | exact gwg rfl | exact gwh rfl | omega) (gg_f (gf_cons rfl (gf_cons rfl (gf_cons rfl (gf_cons rfl (gf_cons rfl (gf_cons rfl (gf_cons rfl gf_nil))))))) (ih49  y49_2 y49_4 y49_5 y49_6 z165  (in_w (-1) 40 i139 rfl) (in_w 0 1 j49_6 rfl) (in_w 0 32 i165 rfl) (m_up mm49 (t_add e165 i55 (in_c 1 rfl) rfl) (in_w 1 1 (in_c 1 rfl) rfl))))
                  · skip
                    have i139 := z_ge 0 40 c139 j49_5 rfl
                    refine g_iload 144 (gd rfl) rfl rfl ?_
                    refine g_iload 146 (gd rfl) rfl rfl ?_
                    refine g_cmp_ge 149 165 (gd rfl) rfl rfl (fun c146 => ?_) (fun c146 => ?_)
                    · skip
                      refine g_iinc 168 (gd rfl) rfl rfl (Nat.le_of_ble_eq_true rfl) (fun z165 e165 => ?_)
                      have i165 := in_add 1 32 e165 i55 (in_c 1 rfl) rfl rfl
                      refine g_goto 49 (gd rfl) rfl ?_
                      exact gg_w (by first | exact Nat.le_add_right _ _ | exact gw2 | exact gw3 | exact gwe rfl | exact gwf rfl | exact gwg rfl | exact gwh rfl | omega) (gg_f (gf_cons rfl (gf_cons rfl (gf_cons rfl (gf_cons rfl (gf_cons rfl (gf_cons rfl (gf_cons rfl gf_nil))))))) (ih49  y49_2 y49_4 y49_5 y49_6 z165  (in_w (-1) 40 i139 rfl) (in_w 0 1 j49_6 rfl) (in_w 0 32 i165 rfl) (m_up mm49 (t_add e165 i55 (in_c 1 rfl) rfl) (in_w 1 1 (in_c 1 rfl) rfl))))
                    · skip
                      have i146 := r_lt1 0 39 c146 i118 i139 rfl
                      have i146a := r_lt2 1 40 c146 i118 i139 rfl
                      refine g_lload 151 (gd rfl) rfl rfl ?_
                      refine g_lstore_n 152 (gd rfl) rfl (Nat.le_of_ble_eq_true rfl) ?_
                      refine g_aload_n 153 (gd rfl) rfl rfl ?_
                      refine g_getA (q2 := 169) 156 (gd rfl) rfl rfl rfl rfl ?_
                      refine g_iload 158 (gd rfl) rfl rfl ?_
                      refine g_iaload 159 (gd rfl) rfl (n := 32) rfl (in_ix i55 rfl) (fun z158 e158 => ?_)
                      have q158 : z85 = z158 := (e85).trans e158.symm
                      subst q158
                      refine g_istore 161 (gd rfl) rfl (Nat.le_of_ble_eq_true rfl) ?_
                      refine g_iload 163 (gd rfl) rfl rfl ?_
                      refine g_istore 165 (gd rfl) rfl (Nat.le_of_ble_eq_true rfl) ?_
                      refine g_iinc 168 (gd rfl) rfl rfl (Nat.le_of_ble_eq_true rfl) (fun z165 e165 => ?_)
                      have i165 := in_add 1 32 e165 i55 (in_c 1 rfl) rfl rfl
                      refine g_goto 49 (gd rfl) rfl ?_
                      exact gg_w (by first | exact Nat.le_add_right _ _ | exact gw2 | exact gw3 | exact gwe rfl | exact gwf rfl | exact gwg rfl | exact gwh rfl | omega) (gg_f (gf_cons rfl (gf_cons rfl (gf_cons rfl (gf_cons rfl (gf_cons rfl (gf_cons rfl (gf_cons rfl gf_nil))))))) (ih49  z104 z85 z118 y49_6 z165  (in_w (-1) 40 i146 rfl) (in_w 0 1 j49_6 rfl) (in_w 0 32 i165 rfl) (m_up mm49 (t_add e165 i55 (in_c 1 rfl) rfl) (in_w 1 1 (in_c 1 rfl) rfl))))
  refine g_enter2 (k := 376) (N := 30601) (by first | exact dq1 hd rfl | exact dq0 hd rfl | exact dq2 hd rfl | exact dq3 hd rfl | omega) rfl (Nat.le_of_ble_eq_true rfl) ?_
  refine g_aload_n 1 (gd rfl) rfl rfl ?_
  refine g_iload_n 2 (gd rfl) rfl rfl ?_
  refine g_aload_n 3 (gd rfl) rfl rfl ?_
  refine g_getA (q2 := 169) 6 (gd rfl) rfl rfl rfl rfl ?_
  refine g_iload_n 7 (gd rfl) rfl rfl ?_
  refine g_iaload 8 (gd rfl) rfl (n := 32) rfl (in_ix h1 rfl) (fun z7 e7 => ?_)
  refine g_callv (X := _) (As := [.int x1, .int z7]) (r := []) (b := A 109) (q := 109) 11 (gd rfl) rfl rfl rfl rfl rfl (ww_o rfl) (Nat.le_of_ble_eq_true rfl) (Nat.zero_le _) (Nat.zero_le _) (k_373 (by first | exact dq1 hd rfl | exact dq0 hd rfl | exact dq2 hd rfl | exact dq3 hd rfl | omega) hI (in_w 0 31 h1 rfl)) (fun e u h => h) (fun v u h => ?_)
  obtain ⟨z8, rfl, rfl⟩ := h
  show GG _ _ _ _ _ _ _ _ [.long z8] _ _ _
  refine g_lstore_n 12 (gd rfl) rfl (Nat.le_of_ble_eq_true rfl) ?_
  refine g_aload_n 13 (gd rfl) rfl rfl ?_
  refine g_getA (q2 := 169) 16 (gd rfl) rfl rfl rfl rfl ?_
  refine g_iload_n 17 (gd rfl) rfl rfl ?_
  refine g_iaload 18 (gd rfl) rfl (n := 32) rfl (in_ix h1 rfl) (fun z17 e17 => ?_)
  have q17 : z7 = z17 := (e7).trans e17.symm
  subst q17
  refine g_istore 20 (gd rfl) rfl (Nat.le_of_ble_eq_true rfl) ?_
  refine g_iconst (-1) 21 (gd rfl) rfl rfl ?_
  refine g_istore 23 (gd rfl) rfl (Nat.le_of_ble_eq_true rfl) ?_
  refine g_aload_n 24 (gd rfl) rfl rfl ?_
  refine g_aload_n 25 (gd rfl) rfl rfl ?_
  refine g_getA (q2 := 169) 28 (gd rfl) rfl rfl rfl rfl ?_
  refine g_iload_n 29 (gd rfl) rfl rfl ?_
  refine g_iaload 30 (gd rfl) rfl (n := 32) rfl (in_ix h1 rfl) (fun z29 e29 => ?_)
  have q29 : z7 = z29 := (e7).trans e29.symm
  subst q29
  refine g_iload_n 31 (gd rfl) rfl rfl ?_
  refine g_callv (X := _) (As := [.int z7, .int x1]) (r := []) (b := A 109) (q := 109) 34 (gd rfl) rfl rfl rfl rfl rfl (ww_o rfl) (Nat.le_of_ble_eq_true rfl) (Nat.zero_le _) (Nat.zero_le _) (k_375 (by first | exact dq1 hd rfl | exact dq0 hd rfl | exact dq2 hd rfl | exact dq3 hd rfl | omega) hI (in_w (-1) 31 h1 rfl)) (fun e u h => h) (fun v u h => ?_)
  obtain ⟨z31, rfl, rfl, i31, p31⟩ := h
  show GG _ _ _ _ _ _ _ _ [.int z31] _ _ _
  refine g_bipush 40 36 (gd rfl) rfl rfl ?_
  refine g_cmp_ne 39 43 (gd rfl) rfl rfl (fun c36 => ?_) (fun c36 => ?_)
  · skip
    have i36 := r_ne1 0 39 c36 i31 (in_c 40 rfl) rfl
    refine g_iconst 0 44 (gd rfl) rfl rfl ?_
    refine g_istore 46 (gd rfl) rfl (Nat.le_of_ble_eq_true rfl) ?_
    refine g_iconst 0 47 (gd rfl) rfl rfl ?_
    refine g_istore 49 (gd rfl) rfl (Nat.le_of_ble_eq_true rfl) ?_
    exact gg_w (by first | exact Nat.le_of_ble_eq_true rfl | omega) (gg_f (gf_cons rfl (gf_cons rfl (gf_cons rfl (gf_cons rfl (gf_cons rfl (gf_cons rfl (gf_cons rfl gf_nil))))))) (ct49 33  z8 z7 (Int32.ofInt (-1)) (Int32.ofInt 0) (Int32.ofInt 0)  (in_w (-1) 40 (in_c (-1) rfl) rfl) (in_w 0 1 (in_c 0 rfl) rfl) (in_w 0 32 (in_c 0 rfl) rfl) (m_in 33 (in_w 0 32 (in_c 0 rfl) rfl) rfl)))
  · skip
    have i36 := r_eq1 40 40 c36 i31 (in_c 40 rfl) rfl
    refine g_iconst 1 40 (gd rfl) rfl rfl ?_
    refine g_goto 44 (gd rfl) rfl ?_
    refine g_istore 46 (gd rfl) rfl (Nat.le_of_ble_eq_true rfl) ?_
    refine g_iconst 0 47 (gd rfl) rfl rfl ?_
    refine g_istore 49 (gd rfl) rfl (Nat.le_of_ble_eq_true rfl) ?_
    exact gg_w (by first | exact Nat.le_of_ble_eq_true rfl | omega) (gg_f (gf_cons rfl (gf_cons rfl (gf_cons rfl (gf_cons rfl (gf_cons rfl (gf_cons rfl (gf_cons rfl gf_nil))))))) (ct49 33  z8 z7 (Int32.ofInt (-1)) (Int32.ofInt 1) (Int32.ofInt 0)  (in_w (-1) 40 (in_c (-1) rfl) rfl) (in_w 0 1 (in_c 1 rfl) rfl) (in_w 0 32 (in_c 0 rfl) rfl) (m_in 33 (in_w 0 32 (in_c 0 rfl) rfl) rfl)))

def fm_388 : FM := ([176, 177, 180], [175, 178, 179, 181, 182], [(109, 23), (109, 24), (109, 96), (109, 97), (109, 98), (109, 99)], [(109, 100), (109, 101)])
/-- GraphHouseModel.sign -/
theorem k_388 {Z : AmZ} {A : Nat → Nat} {s : GS} {ex : va_W} {d : Nat} {X : AmX} {x1 : Int32} {x2 : Int32} (hd : 4 ≤ d) (hI : Inv s) (h1 : In x1 0 126) (h2 : In x2 0 60) : GC Z d 388 [.ref (A 109), .int x1, .int x2] (WW Z A s ++ ex) 0 0 (fun v u => ∃ t : GS, Inv t ∧ Fr fm_388 s t ∧ v = none ∧ u = WW Z A t ++ ex) X := by
  intro post xp hP hX
  have ct248 : ∀ (sc248 : GS) , Inv sc248 → Fr fm_388 s sc248 → GG Z (d - 1) 388 post (gx xp) (901) 248 (fun j => xlook j [(0, .ref (A 109)), (1, .int x1), (2, .int x2)]) [] (WW Z A sc248 ++ ex) 0 0 := by
    intro sc248  hIc248 hFc248 
    exact g_return (gd rfl) rfl (hP _ _ ⟨sc248, hIc248, hFc248, rfl, rfl⟩)
  have ct212 : ∀ (sc212 : GS) , Inv sc212 → Fr fm_388 s sc212 → (In x1 42 63) → GG Z (d - 1) 388 post (gx xp) (1802) 212 (fun j => xlook j [(0, .ref (A 109)), (1, .int x1), (2, .int x2)]) [] (WW Z A sc212 ++ ex) 0 0 := by
    intro sc212  hIc212 hFc212 j212_1
    refine g_aload_n 213 (gd rfl) rfl rfl ?_
    refine g_aload_n 214 (gd rfl) rfl rfl ?_
    refine g_getZ 217 (gd rfl) rfl rfl rfl (fun z214 e214 => ?_)
    have i214 := inv_F hIc212 0 1 rfl e214
    refine g_if_ne 220 226 (gd rfl) rfl rfl (fun c217 => ?_) (fun c217 => ?_)
    · skip
      have i217 := z_ne 1 1 c217 i214 rfl
      refine g_iconst 1 227 (gd rfl) rfl rfl ?_
      refine g_goto 231 (gd rfl) rfl ?_
      refine g_putZ 234 (gd rfl) rfl rfl rfl rfl (in01 (in_w 0 1 (in_c 1 rfl) rfl)) ?_
      have hI231 := inv_sF (q := 109) (j := 99) hIc212 rfl (in_w 0 1 (in_c 1 rfl) rfl)
      refine g_aload_n 235 (gd rfl) rfl rfl ?_
      refine g_iconst 0 236 (gd rfl) rfl rfl ?_
      refine g_putZ 239 (gd rfl) rfl rfl rfl rfl (in01 (in_w 0 1 (in_c 0 rfl) rfl)) ?_
      have hI236 := inv_sF (q := 109) (j := 98) hI231 rfl (in_w 0 1 (in_c 0 rfl) rfl)
      refine g_goto 248 (gd rfl) rfl ?_
      exact gg_w (by first | exact Nat.le_of_ble_eq_true rfl | omega) (gg_f (gf_cons rfl (gf_cons rfl (gf_cons rfl gf_nil))) (ct248 (sF (sF sc212 109 99 (Int32.ofInt 1)) 109 98 (Int32.ofInt 0))  hI236 (fr_sF rfl (fr_sF rfl hFc212)) ))
    · skip
      have i217 := z_eq 0 0 c217 i214 rfl
      refine g_iload_n 221 (gd rfl) rfl rfl ?_
      refine g_bipush 43 223 (gd rfl) rfl rfl ?_
      refine g_cmp_eq 226 230 (gd rfl) rfl rfl (fun c223 => ?_) (fun c223 => ?_)
      · skip
        have i223 := r_eq1 43 43 c223 j212_1 (in_c 43 rfl) rfl
        refine g_iconst 0 231 (gd rfl) rfl rfl ?_
        refine g_putZ 234 (gd rfl) rfl rfl rfl rfl (in01 (in_w 0 1 (in_c 0 rfl) rfl)) ?_
        have hI231 := inv_sF (q := 109) (j := 99) hIc212 rfl (in_w 0 1 (in_c 0 rfl) rfl)
        refine g_aload_n 235 (gd rfl) rfl rfl ?_
        refine g_iconst 0 236 (gd rfl) rfl rfl ?_
        refine g_putZ 239 (gd rfl) rfl rfl rfl rfl (in01 (in_w 0 1 (in_c 0 rfl) rfl)) ?_
        have hI236 := inv_sF (q := 109) (j := 98) hI231 rfl (in_w 0 1 (in_c 0 rfl) rfl)
        refine g_goto 248 (gd rfl) rfl ?_
        exact gg_w (by first | exact Nat.le_of_ble_eq_true rfl | omega) (gg_f (gf_cons rfl (gf_cons rfl (gf_cons rfl gf_nil))) (ct248 (sF (sF sc212 109 99 (Int32.ofInt 0)) 109 98 (Int32.ofInt 0))  hI236 (fr_sF rfl (fr_sF rfl hFc212)) ))
      · skip
        refine g_iconst 1 227 (gd rfl) rfl rfl ?_
        refine g_goto 231 (gd rfl) rfl ?_
        refine g_putZ 234 (gd rfl) rfl rfl rfl rfl (in01 (in_w 0 1 (in_c 1 rfl) rfl)) ?_
        have hI231 := inv_sF (q := 109) (j := 99) hIc212 rfl (in_w 0 1 (in_c 1 rfl) rfl)
        refine g_aload_n 235 (gd rfl) rfl rfl ?_
        refine g_iconst 0 236 (gd rfl) rfl rfl ?_
        refine g_putZ 239 (gd rfl) rfl rfl rfl rfl (in01 (in_w 0 1 (in_c 0 rfl) rfl)) ?_
        have hI236 := inv_sF (q := 109) (j := 98) hI231 rfl (in_w 0 1 (in_c 0 rfl) rfl)
        refine g_goto 248 (gd rfl) rfl ?_
        exact gg_w (by first | exact Nat.le_of_ble_eq_true rfl | omega) (gg_f (gf_cons rfl (gf_cons rfl (gf_cons rfl gf_nil))) (ct248 (sF (sF sc212 109 99 (Int32.ofInt 1)) 109 98 (Int32.ofInt 0))  hI236 (fr_sF rfl (fr_sF rfl hFc212)) ))
  have ct180 : ∀ (sc180 : GS) , Inv sc180 → Fr fm_388 s sc180 → (In x1 42 63) → GG Z (d - 1) 388 post (gx xp) (2703) 180 (fun j => xlook j [(0, .ref (A 109)), (1, .int x1), (2, .int x2)]) [] (WW Z A sc180 ++ ex) 0 0 := by
    intro sc180  hIc180 hFc180 j180_1
    refine g_aload_n 181 (gd rfl) rfl rfl ?_
    refine g_getZ 184 (gd rfl) rfl rfl rfl (fun z181 e181 => ?_)
    have i181 := inv_F hIc180 0 1 rfl e181
    refine g_if_ne 187 194 (gd rfl) rfl rfl (fun c184 => ?_) (fun c184 => ?_)
    · skip
      have i184 := z_ne 1 1 c184 i181 rfl
      refine g_iload_n 195 (gd rfl) rfl rfl ?_
      refine g_bipush 63 197 (gd rfl) rfl rfl ?_
      refine g_cmp_eq 200 212 (gd rfl) rfl rfl (fun c197 => ?_) (fun c197 => ?_)
      · skip
        have i197 := r_eq1 63 63 c197 j180_1 (in_c 63 rfl) rfl
        exact gg_w (by first | exact Nat.le_of_ble_eq_true rfl | omega) (gg_f (gf_cons rfl (gf_cons rfl (gf_cons rfl gf_nil))) (ct212 sc180  hIc180 hFc180 (in_w 42 63 i197 rfl)))
      · skip
        have i197 := r_ne1 42 62 c197 j180_1 (in_c 63 rfl) rfl
        refine g_aload_n 201 (gd rfl) rfl rfl ?_
        refine g_aload_n 202 (gd rfl) rfl rfl ?_
        refine g_getL 205 (gd rfl) rfl rfl rfl (fun z202 e202 => ?_)
        refine g_aload_n 206 (gd rfl) rfl rfl ?_
        refine g_getL 209 (gd rfl) rfl rfl rfl (fun z206 e206 => ?_)
        refine g_callv (X := _) (As := [.long z202, .long z206]) (r := []) (b := A 109) (q := 109) 212 (gd rfl) rfl rfl rfl rfl rfl (ww_o rfl) (Nat.le_of_ble_eq_true rfl) (Nat.zero_le _) (Nat.zero_le _) (k_383 (by first | exact dq1 hd rfl | exact dq0 hd rfl | exact dq2 hd rfl | exact dq3 hd rfl | omega) hIc180 ) (fun e u h => h) (fun v u h => ?_)
        obtain ⟨s209, hI209, hF209, rfl, rfl⟩ := h
        show GG _ _ _ _ _ _ _ _ [] _ _ _
        exact gg_w (by first | exact Nat.le_of_ble_eq_true rfl | omega) (gg_f (gf_cons rfl (gf_cons rfl (gf_cons rfl gf_nil))) (ct212 s209  hI209 (fr_tr rfl hFc180 hF209) (in_w 42 63 i197 rfl)))
    · skip
      have i184 := z_eq 0 0 c184 i181 rfl
      refine g_aload_n 188 (gd rfl) rfl rfl ?_
      refine g_iconst 2 189 (gd rfl) rfl rfl ?_
      refine g_iload_n 190 (gd rfl) rfl rfl ?_
      refine g_callv (X := _) (As := [.int (Int32.ofInt 2), .int x2]) (r := []) (b := A 109) (q := 109) 193 (gd rfl) rfl rfl rfl rfl rfl (ww_o rfl) (Nat.le_of_ble_eq_true rfl) (Nat.zero_le _) (Nat.zero_le _) (k_298 (by first | exact dq1 hd rfl | exact dq0 hd rfl | exact dq2 hd rfl | exact dq3 hd rfl | omega) hIc180 (in_w 1 5 (in_c 2 rfl) rfl)) (fun e u h => h) (fun v u h => ?_)
      obtain ⟨s190, hI190, hF190, n190, rfl, rfl⟩ := h
      obtain ⟨z190a, e190⟩ : ∃ w, w = s190.2.2.1 109 23 := ⟨_, rfl⟩
      have i190a := inv_F hI190 0 9 rfl e190
      rw [← (show z190a = s190.2.2.1 109 23 from e190)] at n190
      show GG _ _ _ _ _ _ _ _ [] _ _ _
      exact g_return (gd rfl) rfl (hP _ _ ⟨s190, hI190, (fr_tr rfl hFc180 hF190), rfl, rfl⟩)
  refine g_enter2 (k := 388) (N := 3603) (by first | exact dq1 hd rfl | exact dq0 hd rfl | exact dq2 hd rfl | exact dq3 hd rfl | omega) rfl (Nat.le_of_ble_eq_true rfl) ?_
  refine g_iload_n 1 (gd rfl) rfl rfl ?_
  refine g_lsw [(40, 71), (41, 108), (42, 180), (43, 180), (63, 180), (124, 60)] 242 (gd rfl) rfl rfl rfl ⟨fun c1 => ?_, fun c1_0 => ⟨fun c1 => ?_, fun c1_1 => ⟨fun c1 => ?_, fun c1_2 => ⟨fun c1 => ?_, fun c1_3 => ⟨fun c1 => ?_, fun c1_4 => ⟨fun c1 => ?_, fun c1_5 => ?_⟩⟩⟩⟩⟩⟩
  · skip
    have i1 := sw_eq c1
    refine g_aload_n 72 (gd rfl) rfl rfl ?_
    refine g_getI 75 (gd rfl) rfl rfl rfl (fun z72 e72 => ?_)
    have i72 := inv_F hI 0 10 rfl e72
    refine g_bipush 10 77 (gd rfl) rfl rfl ?_
    refine g_cmp_ne 80 87 (gd rfl) rfl rfl (fun c77 => ?_) (fun c77 => ?_)
    · skip
      have i77 := r_ne1 0 9 c77 i72 (in_c 10 rfl) rfl
      refine g_aload_n 88 (gd rfl) rfl rfl ?_
      refine g_callv (X := _) (As := []) (r := []) (b := A 109) (q := 109) 91 (gd rfl) rfl rfl rfl rfl rfl (ww_o rfl) (Nat.le_of_ble_eq_true rfl) (Nat.zero_le _) (Nat.zero_le _) (k_384 (by first | exact dq1 hd rfl | exact dq0 hd rfl | exact dq2 hd rfl | exact dq3 hd rfl | omega) hI ) (fun e u h => h) (fun v u h => ?_)
      obtain ⟨s88, hI88, hF88, rfl, rfl⟩ := h
      show GG _ _ _ _ _ _ _ _ [] _ _ _
      refine g_aload_n 92 (gd rfl) rfl rfl ?_
      refine g_dup 93 (gd rfl) rfl rfl ?_
      refine g_getI 96 (gd rfl) rfl rfl rfl (fun z93 e93 => ?_)
      have q93 : z72 = z93 := (fr_F (e72) hF88 rfl).trans e93.symm
      subst q93
      refine g_iconst 1 97 (gd rfl) rfl rfl ?_
      refine g_iadd 98 (gd rfl) rfl (fun z97 e97 => ?_)
      have i97 := in_add 1 10 e97 i77 (in_c 1 rfl) rfl rfl
      refine g_putI 101 (gd rfl) rfl rfl rfl rfl ?_
      have hI98 := inv_sF (q := 109) (j := 96) hI88 rfl (in_w 0 10 i97 rfl)
      refine g_aload_n 102 (gd rfl) rfl rfl ?_
      refine g_callv (X := _) (As := []) (r := []) (b := A 109) (q := 109) 105 (gd rfl) rfl rfl rfl rfl rfl (ww_o rfl) (Nat.le_of_ble_eq_true rfl) (mc := 0) (ms := 0) (Nat.zero_le _) (Nat.zero_le _) (P := fun v u => _) ?_ (fun e u h => h) (fun v u h => h)
      intro po102 xx102 hp102 hx102
      refine g_enter2 (k := 381) (N := 300) (by first | exact dq1 hd rfl | exact dq0 hd rfl | exact dq2 hd rfl | exact dq3 hd rfl | omega) rfl (Nat.le_of_ble_eq_true rfl) ?_
      refine g_aload_n 1 (gd rfl) rfl rfl ?_
      refine g_getA (q2 := 176) 4 (gd rfl) rfl rfl rfl rfl ?_
      refine g_aload_n 5 (gd rfl) rfl rfl ?_
      refine g_getI 8 (gd rfl) rfl rfl rfl (fun z102x5 e102x5 => ?_)
      have q102x5 : z97 = z102x5 := (sF_get).trans e102x5.symm
      subst q102x5
      refine g_iconst 0 9 (gd rfl) rfl rfl ?_
      refine g_bastore 10 (gd rfl) rfl (n := 12) rfl (in_ix i97 rfl) ?_
      have hI102x9 := inv_sI (q := 176) (j := z97.toNatClampNeg) hI98 rfl (in_w 0 1 (nar01 (in_w 0 1 (in_c 0 rfl) rfl)) rfl)
      refine g_aload_n 11 (gd rfl) rfl rfl ?_
      refine g_getA (q2 := 177) 14 (gd rfl) rfl rfl rfl rfl ?_
      refine g_aload_n 15 (gd rfl) rfl rfl ?_
      refine g_getI 18 (gd rfl) rfl rfl rfl (fun z102x15 e102x15 => ?_)
      have q102x15 : z97 = z102x15 := (sI_F (sF_get)).trans e102x15.symm
      subst q102x15
      refine g_iconst 0 19 (gd rfl) rfl rfl ?_
      refine g_bastore 20 (gd rfl) rfl (n := 12) rfl (in_ix i97 rfl) ?_
      have hI102x19 := inv_sI (q := 177) (j := z97.toNatClampNeg) hI102x9 rfl (in_w 0 1 (nar01 (in_w 0 1 (in_c 0 rfl) rfl)) rfl)
      refine g_aload_n 21 (gd rfl) rfl rfl ?_
      refine g_getA (q2 := 178) 24 (gd rfl) rfl rfl rfl rfl ?_
      refine g_aload_n 25 (gd rfl) rfl rfl ?_
      refine g_getI 28 (gd rfl) rfl rfl rfl (fun z102x25 e102x25 => ?_)
      have q102x25 : z97 = z102x25 := (sI_F (sI_F (sF_get))).trans e102x25.symm
      subst q102x25
      refine g_lconst 0 29 (gd rfl) rfl rfl ?_
      refine g_lastore 30 (gd rfl) rfl (n := 12) rfl (in_ix i97 rfl) ?_
      have hI102x29 := inv_sL (q := 178) (j := z97.toNatClampNeg) (x := (Int64.ofInt 0)) hI102x19 rfl (l_rng (Int64.ofInt 0))
      refine g_aload_n 31 (gd rfl) rfl rfl ?_
      refine g_getA (q2 := 179) 34 (gd rfl) rfl rfl rfl rfl ?_
      refine g_aload_n 35 (gd rfl) rfl rfl ?_
      refine g_getI 38 (gd rfl) rfl rfl rfl (fun z102x35 e102x35 => ?_)
      have q102x35 : z97 = z102x35 := (sL_F (sI_F (sI_F (sF_get)))).trans e102x35.symm
      subst q102x35
      refine g_lconst 0 39 (gd rfl) rfl rfl ?_
      refine g_lastore 40 (gd rfl) rfl (n := 12) rfl (in_ix i97 rfl) ?_
      have hI102x39 := inv_sL (q := 179) (j := z97.toNatClampNeg) (x := (Int64.ofInt 0)) hI102x29 rfl (l_rng (Int64.ofInt 0))
      refine g_aload_n 41 (gd rfl) rfl rfl ?_
      refine g_callv (X := _) (As := []) (r := []) (b := A 109) (q := 109) 44 (gd rfl) rfl rfl rfl rfl rfl (ww_o rfl) (Nat.le_of_ble_eq_true rfl) (mc := 0) (ms := 0) (Nat.zero_le _) (Nat.zero_le _) (P := fun v u => _) ?_ (fun e u h => h) (fun v u h => h)
      intro po102x41 xx102x41 hp102x41 hx102x41
      refine g_enter2 (k := 382) (N := 300) (by first | exact dq1 hd rfl | exact dq0 hd rfl | exact dq2 hd rfl | exact dq3 hd rfl | omega) rfl (Nat.le_of_ble_eq_true rfl) ?_
      refine g_aload_n 1 (gd rfl) rfl rfl ?_
      refine g_getA (q2 := 180) 4 (gd rfl) rfl rfl rfl rfl ?_
      refine g_aload_n 5 (gd rfl) rfl rfl ?_
      refine g_getI 8 (gd rfl) rfl rfl rfl (fun z102x41x5 e102x41x5 => ?_)
      have q102x41x5 : z97 = z102x41x5 := (sL_F (sL_F (sI_F (sI_F (sF_get))))).trans e102x41x5.symm
      subst q102x41x5
      refine g_iconst 1 9 (gd rfl) rfl rfl ?_
      refine g_bastore 10 (gd rfl) rfl (n := 12) rfl (in_ix i97 rfl) ?_
      have hI102x41x9 := inv_sI (q := 180) (j := z97.toNatClampNeg) hI102x39 rfl (in_w 0 1 (nar01 (in_w 0 1 (in_c 1 rfl) rfl)) rfl)
      refine g_aload_n 11 (gd rfl) rfl rfl ?_
      refine g_getA (q2 := 181) 14 (gd rfl) rfl rfl rfl rfl ?_
      refine g_aload_n 15 (gd rfl) rfl rfl ?_
      refine g_getI 18 (gd rfl) rfl rfl rfl (fun z102x41x15 e102x41x15 => ?_)
      have q102x41x15 : z97 = z102x41x15 := (sI_F (sL_F (sL_F (sI_F (sI_F (sF_get)))))).trans e102x41x15.symm
      subst q102x41x15
      refine g_lconst 0 19 (gd rfl) rfl rfl ?_
      refine g_lastore 20 (gd rfl) rfl (n := 12) rfl (in_ix i97 rfl) ?_
      have hI102x41x19 := inv_sL (q := 181) (j := z97.toNatClampNeg) (x := (Int64.ofInt 0)) hI102x41x9 rfl (l_rng (Int64.ofInt 0))
      refine g_aload_n 21 (gd rfl) rfl rfl ?_
      refine g_getA (q2 := 182) 24 (gd rfl) rfl rfl rfl rfl ?_
      refine g_aload_n 25 (gd rfl) rfl rfl ?_
      refine g_getI 28 (gd rfl) rfl rfl rfl (fun z102x41x25 e102x41x25 => ?_)
      have q102x41x25 : z97 = z102x41x25 := (sL_F (sI_F (sL_F (sL_F (sI_F (sI_F (sF_get))))))).trans e102x41x25.symm
      subst q102x41x25
      refine g_lconst 0 29 (gd rfl) rfl rfl ?_
      refine g_lastore 30 (gd rfl) rfl (n := 12) rfl (in_ix i97 rfl) ?_
      have hI102x41x29 := inv_sL (q := 182) (j := z97.toNatClampNeg) (x := (Int64.ofInt 0)) hI102x41x19 rfl (l_rng (Int64.ofInt 0))
      refine g_aload_n 31 (gd rfl) rfl rfl ?_
      refine g_iconst 0 32 (gd rfl) rfl rfl ?_
      refine g_putZ 35 (gd rfl) rfl rfl rfl rfl (in01 (in_w 0 1 (in_c 0 rfl) rfl)) ?_
      have hI102x41x32 := inv_sF (q := 109) (j := 97) hI102x41x29 rfl (in_w 0 1 (in_c 0 rfl) rfl)
      refine g_aload_n 36 (gd rfl) rfl rfl ?_
      refine g_iconst 0 37 (gd rfl) rfl rfl ?_
      refine g_putZ 40 (gd rfl) rfl rfl rfl rfl (in01 (in_w 0 1 (in_c 0 rfl) rfl)) ?_
      have hI102x41x37 := inv_sF (q := 109) (j := 98) hI102x41x32 rfl (in_w 0 1 (in_c 0 rfl) rfl)
      refine g_return (gd rfl) rfl (hp102x41 _ _ ?_)
      show GG _ _ _ _ _ _ _ _ [] _ _ _
      refine g_return (gd rfl) rfl (hp102 _ _ ?_)
      show GG _ _ _ _ _ _ _ _ [] _ _ _
      refine g_goto 248 (gd rfl) rfl ?_
      exact gg_w (by first | exact Nat.le_of_ble_eq_true rfl | omega) (gg_f (gf_cons rfl (gf_cons rfl (gf_cons rfl gf_nil))) (ct248 (sF (sF (sL (sL (sI (sL (sL (sI (sI (sF s88 109 96 z97) 176 z97.toNatClampNeg (vp_nar .boolean (Int32.ofInt 0))) 177 z97.toNatClampNeg (vp_nar .boolean (Int32.ofInt 0))) 178 z97.toNatClampNeg (Int64.ofInt 0)) 179 z97.toNatClampNeg (Int64.ofInt 0)) 180 z97.toNatClampNeg (vp_nar .boolean (Int32.ofInt 1))) 181 z97.toNatClampNeg (Int64.ofInt 0)) 182 z97.toNatClampNeg (Int64.ofInt 0)) 109 97 (Int32.ofInt 0)) 109 98 (Int32.ofInt 0))  hI102x41x37 (fr_sF rfl (fr_sF rfl (fr_sL rfl (fr_sL rfl (fr_sI rfl (fr_sL rfl (fr_sL rfl (fr_sI rfl (fr_sI rfl (fr_sF rfl (fr_tr rfl fr_rf hF88))))))))))) ))
    · skip
      have i77 := r_eq1 10 10 c77 i72 (in_c 10 rfl) rfl
      refine g_aload_n 81 (gd rfl) rfl rfl ?_
      refine g_iconst 3 82 (gd rfl) rfl rfl ?_
      refine g_iload_n 83 (gd rfl) rfl rfl ?_
      refine g_callv (X := _) (As := [.int (Int32.ofInt 3), .int x2]) (r := []) (b := A 109) (q := 109) 86 (gd rfl) rfl rfl rfl rfl rfl (ww_o rfl) (Nat.le_of_ble_eq_true rfl) (Nat.zero_le _) (Nat.zero_le _) (k_298 (by first | exact dq1 hd rfl | exact dq0 hd rfl | exact dq2 hd rfl | exact dq3 hd rfl | omega) hI (in_w 1 5 (in_c 3 rfl) rfl)) (fun e u h => h) (fun v u h => ?_)
      obtain ⟨s83, hI83, hF83, n83, rfl, rfl⟩ := h
      obtain ⟨z83a, e83⟩ : ∃ w, w = s83.2.2.1 109 23 := ⟨_, rfl⟩
      have i83a := inv_F hI83 0 9 rfl e83
      rw [← (show z83a = s83.2.2.1 109 23 from e83)] at n83
      show GG _ _ _ _ _ _ _ _ [] _ _ _
      exact g_return (gd rfl) rfl (hP _ _ ⟨s83, hI83, (fr_tr rfl fr_rf hF83), rfl, rfl⟩)
  · skip
    have i1 := sw_eq c1
    refine g_aload_n 109 (gd rfl) rfl rfl ?_
    refine g_getI 112 (gd rfl) rfl rfl rfl (fun z109 e109 => ?_)
    have i109 := inv_F hI 0 10 rfl e109
    refine g_if_ne 115 122 (gd rfl) rfl rfl (fun c112 => ?_) (fun c112 => ?_)
    · skip
      have i112 := z_ne 1 10 c112 i109 rfl
      refine g_aload_n 123 (gd rfl) rfl rfl ?_
      refine g_callv (X := _) (As := []) (r := []) (b := A 109) (q := 109) 126 (gd rfl) rfl rfl rfl rfl rfl (ww_o rfl) (Nat.le_of_ble_eq_true rfl) (Nat.zero_le _) (Nat.zero_le _) (k_385 (by first | exact dq1 hd rfl | exact dq0 hd rfl | exact dq2 hd rfl | exact dq3 hd rfl | omega) hI ) (fun e u h => h) (fun v u h => ?_)
      obtain ⟨s123, hI123, hF123, rfl, rfl⟩ := h
      show GG _ _ _ _ _ _ _ _ [] _ _ _
      refine g_aload_n 127 (gd rfl) rfl rfl ?_
      refine g_getA (q2 := 177) 130 (gd rfl) rfl rfl rfl rfl ?_
      refine g_aload_n 131 (gd rfl) rfl rfl ?_
      refine g_getI 134 (gd rfl) rfl rfl rfl (fun z131 e131 => ?_)
      have q131 : z109 = z131 := (fr_F (e109) hF123 rfl).trans e131.symm
      subst q131
      refine g_baload 135 (gd rfl) rfl (n := 12) rfl (in_ix i112 rfl) (fun z134 e134 => ?_)
      have i134 := inv_I hI123 (n := 12) (t := 3) 0 1 rfl (in_ix i112 rfl) rfl e134
      refine g_istore_n 136 (gd rfl) rfl (Nat.le_of_ble_eq_true rfl) ?_
      refine g_aload_n 137 (gd rfl) rfl rfl ?_
      refine g_getA (q2 := 178) 140 (gd rfl) rfl rfl rfl rfl ?_
      refine g_aload_n 141 (gd rfl) rfl rfl ?_
      refine g_getI 144 (gd rfl) rfl rfl rfl (fun z141 e141 => ?_)
      have q141 : z109 = z141 := (fr_F (e109) hF123 rfl).trans e141.symm
      subst q141
      refine g_laload 145 (gd rfl) rfl (n := 12) rfl (in_ix i112 rfl) (fun z144 e144 => ?_)
      refine g_lstore 147 (gd rfl) rfl (Nat.le_of_ble_eq_true rfl) ?_
      refine g_aload_n 148 (gd rfl) rfl rfl ?_
      refine g_getA (q2 := 179) 151 (gd rfl) rfl rfl rfl rfl ?_
      refine g_aload_n 152 (gd rfl) rfl rfl ?_
      refine g_getI 155 (gd rfl) rfl rfl rfl (fun z152 e152 => ?_)
      have q152 : z109 = z152 := (fr_F (e109) hF123 rfl).trans e152.symm
      subst q152
      refine g_laload 156 (gd rfl) rfl (n := 12) rfl (in_ix i112 rfl) (fun z155 e155 => ?_)
      refine g_lstore 158 (gd rfl) rfl (Nat.le_of_ble_eq_true rfl) ?_
      refine g_aload_n 159 (gd rfl) rfl rfl ?_
      refine g_dup 160 (gd rfl) rfl rfl ?_
      refine g_getI 163 (gd rfl) rfl rfl rfl (fun z160 e160 => ?_)
      have q160 : z109 = z160 := (fr_F (e109) hF123 rfl).trans e160.symm
      subst q160
      refine g_iconst 1 164 (gd rfl) rfl rfl ?_
      refine g_isub 165 (gd rfl) rfl (fun z164 e164 => ?_)
      have i164 := in_sub 0 9 e164 i112 (in_c 1 rfl) rfl rfl
      refine g_putI 168 (gd rfl) rfl rfl rfl rfl ?_
      have hI165 := inv_sF (q := 109) (j := 96) hI123 rfl (in_w 0 10 i164 rfl)
      refine g_aload_n 169 (gd rfl) rfl rfl ?_
      refine g_iload_n 170 (gd rfl) rfl rfl ?_
      refine g_lload 172 (gd rfl) rfl rfl ?_
      refine g_lload 174 (gd rfl) rfl rfl ?_
      refine g_callv (X := _) (As := [.int z134, .long z144, .long z155]) (r := []) (b := A 109) (q := 109) 177 (gd rfl) rfl rfl rfl rfl rfl (ww_o rfl) (Nat.le_of_ble_eq_true rfl) (mc := 0) (ms := 0) (Nat.zero_le _) (Nat.zero_le _) (P := fun v u => _) ?_ (fun e u h => h) (fun v u h => h)
      intro po174 xx174 hp174 hx174
      refine g_enter2 (k := 387) (N := 300) (by first | exact dq1 hd rfl | exact dq0 hd rfl | exact dq2 hd rfl | exact dq3 hd rfl | omega) rfl (Nat.le_of_ble_eq_true rfl) ?_
      refine g_aload_n 1 (gd rfl) rfl rfl ?_
      refine g_iconst 1 2 (gd rfl) rfl rfl ?_
      refine g_putZ 5 (gd rfl) rfl rfl rfl rfl (in01 (in_w 0 1 (in_c 1 rfl) rfl)) ?_
      have hI174x2 := inv_sF (q := 109) (j := 97) hI165 rfl (in_w 0 1 (in_c 1 rfl) rfl)
      refine g_aload_n 6 (gd rfl) rfl rfl ?_
      refine g_iconst 1 7 (gd rfl) rfl rfl ?_
      refine g_putZ 10 (gd rfl) rfl rfl rfl rfl (in01 (in_w 0 1 (in_c 1 rfl) rfl)) ?_
      have hI174x7 := inv_sF (q := 109) (j := 98) hI174x2 rfl (in_w 0 1 (in_c 1 rfl) rfl)
      refine g_aload_n 11 (gd rfl) rfl rfl ?_
      refine g_iload_n 12 (gd rfl) rfl rfl ?_
      refine g_putZ 15 (gd rfl) rfl rfl rfl rfl (in01 (in_w 0 1 i134 rfl)) ?_
      have hI174x12 := inv_sF (q := 109) (j := 99) hI174x7 rfl (in_w 0 1 i134 rfl)
      refine g_aload_n 16 (gd rfl) rfl rfl ?_
      refine g_lload_n 17 (gd rfl) rfl rfl ?_
      refine g_putL 20 (gd rfl) rfl rfl rfl rfl ?_
      have hI174x17 := inv_sG (q := 109) (j := 100) (x := z144) hI174x12 rfl (l_rng z144)
      refine g_aload_n 21 (gd rfl) rfl rfl ?_
      refine g_lload 23 (gd rfl) rfl rfl ?_
      refine g_putL 26 (gd rfl) rfl rfl rfl rfl ?_
      have hI174x23 := inv_sG (q := 109) (j := 101) (x := z155) hI174x17 rfl (l_rng z155)
      refine g_return (gd rfl) rfl (hp174 _ _ ?_)
      show GG _ _ _ _ _ _ _ _ [] _ _ _
      refine g_goto 248 (gd rfl) rfl ?_
      exact gg_w (by first | exact Nat.le_of_ble_eq_true rfl | omega) (gg_f (gf_cons rfl (gf_cons rfl (gf_cons rfl gf_nil))) (ct248 (sG (sG (sF (sF (sF (sF s123 109 96 z164) 109 97 (Int32.ofInt 1)) 109 98 (Int32.ofInt 1)) 109 99 z134) 109 100 z144) 109 101 z155)  hI174x23 (fr_sG rfl (fr_sG rfl (fr_sF rfl (fr_sF rfl (fr_sF rfl (fr_sF rfl (fr_tr rfl fr_rf hF123))))))) ))
    · skip
      have i112 := z_eq 0 0 c112 i109 rfl
      refine g_aload_n 116 (gd rfl) rfl rfl ?_
      refine g_iconst 2 117 (gd rfl) rfl rfl ?_
      refine g_iload_n 118 (gd rfl) rfl rfl ?_
      refine g_callv (X := _) (As := [.int (Int32.ofInt 2), .int x2]) (r := []) (b := A 109) (q := 109) 121 (gd rfl) rfl rfl rfl rfl rfl (ww_o rfl) (Nat.le_of_ble_eq_true rfl) (Nat.zero_le _) (Nat.zero_le _) (k_298 (by first | exact dq1 hd rfl | exact dq0 hd rfl | exact dq2 hd rfl | exact dq3 hd rfl | omega) hI (in_w 1 5 (in_c 2 rfl) rfl)) (fun e u h => h) (fun v u h => ?_)
      obtain ⟨s118, hI118, hF118, n118, rfl, rfl⟩ := h
      obtain ⟨z118a, e118⟩ : ∃ w, w = s118.2.2.1 109 23 := ⟨_, rfl⟩
      have i118a := inv_F hI118 0 9 rfl e118
      rw [← (show z118a = s118.2.2.1 109 23 from e118)] at n118
      show GG _ _ _ _ _ _ _ _ [] _ _ _
      exact g_return (gd rfl) rfl (hP _ _ ⟨s118, hI118, (fr_tr rfl fr_rf hF118), rfl, rfl⟩)
  · skip
    have i1 := sw_eq c1
    exact gg_w (by first | exact Nat.le_of_ble_eq_true rfl | omega) (gg_f (gf_cons rfl (gf_cons rfl (gf_cons rfl gf_nil))) (ct180 s  hI fr_rf (in_w 42 63 i1 rfl)))
  · skip
    have i1 := sw_eq c1
    exact gg_w (by first | exact Nat.le_of_ble_eq_true rfl | omega) (gg_f (gf_cons rfl (gf_cons rfl (gf_cons rfl gf_nil))) (ct180 s  hI fr_rf (in_w 42 63 i1 rfl)))
  · skip
    have i1 := sw_eq c1
    exact gg_w (by first | exact Nat.le_of_ble_eq_true rfl | omega) (gg_f (gf_cons rfl (gf_cons rfl (gf_cons rfl gf_nil))) (ct180 s  hI fr_rf (in_w 42 63 i1 rfl)))
  · skip
    have i1 := sw_eq c1
    refine g_aload_n 61 (gd rfl) rfl rfl ?_
    refine g_callv (X := _) (As := []) (r := []) (b := A 109) (q := 109) 64 (gd rfl) rfl rfl rfl rfl rfl (ww_o rfl) (Nat.le_of_ble_eq_true rfl) (Nat.zero_le _) (Nat.zero_le _) (k_385 (by first | exact dq1 hd rfl | exact dq0 hd rfl | exact dq2 hd rfl | exact dq3 hd rfl | omega) hI ) (fun e u h => h) (fun v u h => ?_)
    obtain ⟨s61, hI61, hF61, rfl, rfl⟩ := h
    show GG _ _ _ _ _ _ _ _ [] _ _ _
    refine g_aload_n 65 (gd rfl) rfl rfl ?_
    refine g_callv (X := _) (As := []) (r := []) (b := A 109) (q := 109) 68 (gd rfl) rfl rfl rfl rfl rfl (ww_o rfl) (Nat.le_of_ble_eq_true rfl) (mc := 0) (ms := 0) (Nat.zero_le _) (Nat.zero_le _) (P := fun v u => _) ?_ (fun e u h => h) (fun v u h => h)
    intro po65 xx65 hp65 hx65
    refine g_enter2 (k := 382) (N := 300) (by first | exact dq1 hd rfl | exact dq0 hd rfl | exact dq2 hd rfl | exact dq3 hd rfl | omega) rfl (Nat.le_of_ble_eq_true rfl) ?_
    refine g_aload_n 1 (gd rfl) rfl rfl ?_
    refine g_getA (q2 := 180) 4 (gd rfl) rfl rfl rfl rfl ?_
    refine g_aload_n 5 (gd rfl) rfl rfl ?_
    refine g_getI 8 (gd rfl) rfl rfl rfl (fun z65x5 e65x5 => ?_)
    have i65x5 := inv_F hI61 0 10 rfl e65x5
    refine g_iconst 1 9 (gd rfl) rfl rfl ?_
    refine g_bastore 10 (gd rfl) rfl (n := 12) rfl (in_ix i65x5 rfl) ?_
    have hI65x9 := inv_sI (q := 180) (j := z65x5.toNatClampNeg) hI61 rfl (in_w 0 1 (nar01 (in_w 0 1 (in_c 1 rfl) rfl)) rfl)
    refine g_aload_n 11 (gd rfl) rfl rfl ?_
    refine g_getA (q2 := 181) 14 (gd rfl) rfl rfl rfl rfl ?_
    refine g_aload_n 15 (gd rfl) rfl rfl ?_
    refine g_getI 18 (gd rfl) rfl rfl rfl (fun z65x15 e65x15 => ?_)
    have q65x15 : z65x5 = z65x15 := (sI_F (e65x5)).trans e65x15.symm
    subst q65x15
    refine g_lconst 0 19 (gd rfl) rfl rfl ?_
    refine g_lastore 20 (gd rfl) rfl (n := 12) rfl (in_ix i65x5 rfl) ?_
    have hI65x19 := inv_sL (q := 181) (j := z65x5.toNatClampNeg) (x := (Int64.ofInt 0)) hI65x9 rfl (l_rng (Int64.ofInt 0))
    refine g_aload_n 21 (gd rfl) rfl rfl ?_
    refine g_getA (q2 := 182) 24 (gd rfl) rfl rfl rfl rfl ?_
    refine g_aload_n 25 (gd rfl) rfl rfl ?_
    refine g_getI 28 (gd rfl) rfl rfl rfl (fun z65x25 e65x25 => ?_)
    have q65x25 : z65x5 = z65x25 := (sL_F (sI_F (e65x5))).trans e65x25.symm
    subst q65x25
    refine g_lconst 0 29 (gd rfl) rfl rfl ?_
    refine g_lastore 30 (gd rfl) rfl (n := 12) rfl (in_ix i65x5 rfl) ?_
    have hI65x29 := inv_sL (q := 182) (j := z65x5.toNatClampNeg) (x := (Int64.ofInt 0)) hI65x19 rfl (l_rng (Int64.ofInt 0))
    refine g_aload_n 31 (gd rfl) rfl rfl ?_
    refine g_iconst 0 32 (gd rfl) rfl rfl ?_
    refine g_putZ 35 (gd rfl) rfl rfl rfl rfl (in01 (in_w 0 1 (in_c 0 rfl) rfl)) ?_
    have hI65x32 := inv_sF (q := 109) (j := 97) hI65x29 rfl (in_w 0 1 (in_c 0 rfl) rfl)
    refine g_aload_n 36 (gd rfl) rfl rfl ?_
    refine g_iconst 0 37 (gd rfl) rfl rfl ?_
    refine g_putZ 40 (gd rfl) rfl rfl rfl rfl (in01 (in_w 0 1 (in_c 0 rfl) rfl)) ?_
    have hI65x37 := inv_sF (q := 109) (j := 98) hI65x32 rfl (in_w 0 1 (in_c 0 rfl) rfl)
    refine g_return (gd rfl) rfl (hp65 _ _ ?_)
    show GG _ _ _ _ _ _ _ _ [] _ _ _
    refine g_goto 248 (gd rfl) rfl ?_
    exact gg_w (by first | exact Nat.le_of_ble_eq_true rfl | omega) (gg_f (gf_cons rfl (gf_cons rfl (gf_cons rfl gf_nil))) (ct248 (sF (sF (sL (sL (sI s61 180 z65x5.toNatClampNeg (vp_nar .boolean (Int32.ofInt 1))) 181 z65x5.toNatClampNeg (Int64.ofInt 0)) 182 z65x5.toNatClampNeg (Int64.ofInt 0)) 109 97 (Int32.ofInt 0)) 109 98 (Int32.ofInt 0))  hI65x37 (fr_sF rfl (fr_sF rfl (fr_sL rfl (fr_sL rfl (fr_sI rfl (fr_tr rfl fr_rf hF61)))))) ))
  · skip
    refine g_aload_n 243 (gd rfl) rfl rfl ?_
    refine g_iconst 1 244 (gd rfl) rfl rfl ?_
    refine g_iload_n 245 (gd rfl) rfl rfl ?_
    refine g_callv (X := _) (As := [.int (Int32.ofInt 1), .int x2]) (r := []) (b := A 109) (q := 109) 248 (gd rfl) rfl rfl rfl rfl rfl (ww_o rfl) (Nat.le_of_ble_eq_true rfl) (Nat.zero_le _) (Nat.zero_le _) (k_298 (by first | exact dq1 hd rfl | exact dq0 hd rfl | exact dq2 hd rfl | exact dq3 hd rfl | omega) hI (in_w 1 5 (in_c 1 rfl) rfl)) (fun e u h => h) (fun v u h => ?_)
    obtain ⟨s245, hI245, hF245, n245, rfl, rfl⟩ := h
    obtain ⟨z245a, e245⟩ : ∃ w, w = s245.2.2.1 109 23 := ⟨_, rfl⟩
    have i245a := inv_F hI245 0 9 rfl e245
    rw [← (show z245a = s245.2.2.1 109 23 from e245)] at n245
    show GG _ _ _ _ _ _ _ _ [] _ _ _
    exact gg_w (by first | exact Nat.le_of_ble_eq_true rfl | omega) (gg_f (gf_cons rfl (gf_cons rfl (gf_cons rfl gf_nil))) (ct248 s245  hI245 (fr_tr rfl fr_rf hF245) ))
end
section
/-! methods, by vc.py -/
def fm_389 : FM := ([132, 183], [], [(109, 0)], [])
/-- GraphHouseModel.fits -/
theorem k_389 {Z : AmZ} {A : Nat → Nat} {s : GS} {ex : va_W} {d : Nat} {X : AmX} {x1 : Int32} {x2 : Int32} (hd : 4 ≤ d) (hI : Inv s)  : GC Z d 389 [.ref (A 109), .int x1, .int x2] (WW Z A s ++ ex) 0 0 (fun v u => ∃ t : GS, Inv t ∧ Fr fm_389 s t ∧ ∃ z : Int32, v = some (.int z) ∧ u = WW Z A t ++ ex ∧ In z (-2147483648) 2147483647) X := by
  intro post xp hP hX
  obtain ⟨u_109_19, e_109_19⟩ : ∃ w, w = s.2.2.1 109 19 := ⟨_, rfl⟩
  have ro_109_19 := inv_F hI 0 160 rfl e_109_19
  obtain ⟨u_109_20, e_109_20⟩ : ∃ w, w = s.2.2.1 109 20 := ⟨_, rfl⟩
  have ro_109_20 := inv_F hI 0 32 rfl e_109_20
  obtain ⟨u_109_84, e_109_84⟩ : ∃ w, w = s.2.2.1 109 84 := ⟨_, rfl⟩
  have ro_109_84 := inv_F hI 0 1 rfl e_109_84
  have ct77 : ∀ (k77 : Nat) (sc77 : GS) (y77_3 : Int32) (y77_4 : Int32), Inv sc77 → Fr fm_389 s sc77 → (In x1 0 31) → (In x2 0 31) → (In y77_3 0 2000) → (In y77_4 0 2000) → ((y77_3).toInt ≤ (y77_4).toInt) → (QI sc77 (y77_4).toInt) → 2000 - (y77_3).toInt < (k77 : Int) → GG Z (d - 1) 389 post (gx xp) (1 + k77 * 363601) 77 (fun j => xlook j [(0, .ref (A 109)), (1, .int x1), (2, .int x2), (3, .int y77_3), (4, .int y77_4)]) [] (WW Z A sc77 ++ ex) 0 0 := by
    intro k77
    induction k77 with
    | zero => intro sc77 y77_3 y77_4 hIc77 hFc77 j77_1 j77_2 j77_3 j77_4 n77_0 g77_0 mm77; exfalso; have a0 := j77_2; unfold In at a0; have a1 := j77_1; unfold In at a1; have a2 := oa3 ro_109_84 ro_109_20 ro_109_19; have a5 := j77_4; unfold In at a5; have a6 := j77_3; unfold In at a6; omega
    | succ k77 ih77 =>
      intro sc77 y77_3 y77_4 hIc77 hFc77 j77_1 j77_2 j77_3 j77_4 n77_0 g77_0 mm77
      refine gg_w (M := 1 + k77 * 363601 + 363601) gws ?_
      have ct189 : ∀ (k189 : Nat) (sc189 : GS) (y189_3 : Int32) (y189_4 : Int32) (y189_5 : Int32) (y189_6 : Int32) (y189_7 : Int32) (y189_8 : Int32) (y189_9 : Int64) (y189_11 : Int32), Inv sc189 → Fr fm_389 s sc189 → (In y189_3 1 2000) → (In y189_4 0 2000) → (In y189_5 0 1951) → (In y189_6 0 31) → (In y189_7 (-1) 59) → (In y189_8 0 1) → (In y189_11 0 400) → ((y189_3).toInt = y77_3.toInt + 1) → ((y189_3).toInt ≤ (y189_4).toInt) → (QI sc189 (y189_4).toInt) → (y189_5 = sc189.1 132 y77_3.toNatClampNeg) → 400 - (y189_11).toInt < (k189 : Int) → GG Z (d - 1) 389 post (gx xp) (1 + k77 * 363601 + 1 + k189 * 900) 189 (fun j => xlook j [(0, .ref (A 109)), (1, .int x1), (2, .int x2), (3, .int y189_3), (4, .int y189_4), (5, .int y189_5), (6, .int y189_6), (7, .int y189_7), (8, .int y189_8), (9, .long y189_9), (11, .int y189_11)]) [] (WW Z A sc189 ++ ex) 0 0 := by
        intro k189
        induction k189 with
        | zero => intro sc189 y189_3 y189_4 y189_5 y189_6 y189_7 y189_8 y189_9 y189_11 hIc189 hFc189 j189_3 j189_4 j189_5 j189_6 j189_7 j189_8 j189_11 n189_0 n189_1 g189_0 g189_1 mm189; exact m_no mm189 j189_11 rfl
        | succ k189 ih189 =>
          intro sc189 y189_3 y189_4 y189_5 y189_6 y189_7 y189_8 y189_9 y189_11 hIc189 hFc189 j189_3 j189_4 j189_5 j189_6 j189_7 j189_8 j189_11 n189_0 n189_1 g189_0 g189_1 mm189
          refine gg_w (M := 1 + k77 * 363601 + 1 + k189 * 900 + 900) gws ?_
          refine g_iload 191 (gd rfl) rfl rfl ?_
          refine g_aload_n 192 (gd rfl) rfl rfl ?_
          refine g_getI 195 (gd rfl) rfl rfl rfl (fun z192 e192 => ?_)
          have q192 : u_109_19 = z192 := (fr_F e_109_19 hFc189 rfl).trans e192.symm
          subst q192
          refine g_sipush 160 198 (gd rfl) rfl rfl ?_
          refine g_iadd 199 (gd rfl) rfl (fun z198 e198 => ?_)
          have i198 := in_add 160 320 e198 ro_109_19 (in_c 160 rfl) rfl rfl
          refine g_cmp_ge 202 251 (gd rfl) rfl rfl (fun c199 => ?_) (fun c199 => ?_)
          · skip
            have i199 := r_le2 160 400 c199 i198 j189_11 rfl
            refine g_goto 77 (gd rfl) rfl ?_
            have n77 : (y189_3).toInt ≤ (y189_4).toInt := by first | exact n189_1 | (have a0 := oa13 j77_2 j77_1 ro_109_84 ro_109_20 ro_109_19 i199 j189_8 j189_7 j189_6 j189_5 j189_4 j189_3 i198; have a13 := t_add e198 ro_109_19 (in_c 160 rfl) rfl; have a14 := in_u ((in_c 160 rfl)); omega)
            have n77a : QI sc189 (y189_4).toInt := by first | exact g189_0 | (first | exact g189_0 | (have hz : z74 = z65 := (by rw [e74, e65]); have hw : ((Int32.ofInt 1)).toInt = 0 + 1 := rfl; rw [hw]; exact qi_push (m := 0) (y := z65) (v := Int32.ofInt 0) (qi_0 sc32) rfl (by rw [sI_p rfl, sI_q]; rfl) (by rw [sI_q, sI_p rfl, hz]) i65 rfl (by rw [g32_0 z65.toNatClampNeg (by show ((z65.toInt.toNat : Nat) : Int) < _; have a0 := oa13 j77_2 j77_1 ro_109_84 ro_109_20 ro_109_19 i199 j189_8 j189_7 j189_6 j189_5 j189_4 j189_3 i198; have a13 := t_add e198 ro_109_19 (in_c 160 rfl) rfl; have a14 := in_u ((in_c 160 rfl)); omega)]; decide) (by decide) (by decide)))
            have m77 : 2000 - (y189_3).toInt < ((k77 : Nat) : Int) := by have a0 := oa13 j77_2 j77_1 ro_109_84 ro_109_20 ro_109_19 i199 j189_8 j189_7 j189_6 j189_5 j189_4 j189_3 i198; have a13 := t_add e198 ro_109_19 (in_c 160 rfl) rfl; have a14 := in_u ((in_c 160 rfl)); omega
            exact gg_w (by first | exact Nat.le_add_right _ _ | exact gw2 | exact gw3 | exact gwe rfl | exact gwf rfl | exact gwg rfl | exact gwh rfl | omega) (gg_f (gf_cons rfl (gf_cons rfl (gf_cons rfl (gf_cons rfl (gf_cons rfl gf_nil))))) (ih77  sc189 y189_3 y189_4 hIc189 hFc189 (in_w 0 31 j77_1 rfl) (in_w 0 31 j77_2 rfl) (in_w 0 2000 j189_3 rfl) (in_w 0 2000 j189_4 rfl) n77 n77a m77))
          · skip
            have i199 := r_lt1 0 319 c199 j189_11 i198 rfl
            refine g_aload_n 203 (gd rfl) rfl rfl ?_
            refine g_getA (q2 := 112) 206 (gd rfl) rfl rfl rfl rfl ?_
            refine g_iload 208 (gd rfl) rfl rfl ?_
            refine g_baload 209 (gd rfl) rfl (n := 480) rfl (in_ix i199 rfl) (fun z208 e208 => ?_)
            have i208 := inv_I hIc189 (n := 480) (t := 3) 0 1 rfl (in_ix i199 rfl) rfl e208
            refine g_if_eq 212 245 (gd rfl) rfl rfl (fun c209 => ?_) (fun c209 => ?_)
            · skip
              have i209 := z_eq 0 0 c209 i208 rfl
              refine g_iinc 248 (gd rfl) rfl rfl (Nat.le_of_ble_eq_true rfl) (fun z245 e245 => ?_)
              have i245 := in_add 1 320 e245 i199 (in_c 1 rfl) rfl rfl
              refine g_goto 189 (gd rfl) rfl ?_
              have n189 : (y189_3).toInt = y77_3.toInt + 1 := by first | exact n189_0 | (have a0 := oa13 j77_2 j77_1 ro_109_84 ro_109_20 ro_109_19 i199 j189_8 j189_7 j189_6 j189_5 j189_4 j189_3 i245; have a13 := t_add e245 i199 (in_c 1 rfl) rfl; have a14 := oa2 ((in_c 1 rfl)) i198; have a16 := t_add e198 ro_109_19 (in_c 160 rfl) rfl; have a17 := in_u ((in_c 160 rfl)); omega)
              have n189a : (y189_3).toInt ≤ (y189_4).toInt := by first | exact n189_1 | (have a0 := oa13 j77_2 j77_1 ro_109_84 ro_109_20 ro_109_19 i199 j189_8 j189_7 j189_6 j189_5 j189_4 j189_3 i245; have a13 := t_add e245 i199 (in_c 1 rfl) rfl; have a14 := oa2 ((in_c 1 rfl)) i198; have a16 := t_add e198 ro_109_19 (in_c 160 rfl) rfl; have a17 := in_u ((in_c 160 rfl)); omega)
              have n189b : QI sc189 (y189_4).toInt := by first | exact g77_0 | exact g189_0 | exact p240b
              have n189c : y189_5 = sc189.1 132 y77_3.toNatClampNeg := by first | exact g189_1 | (first | exact e88 | exact g189_1 | (rw [p240d _ (by show ((y77_3.toInt.toNat : Nat) : Int) < _; have a0 := oa13 j77_2 j77_1 ro_109_84 ro_109_20 ro_109_19 i199 j189_8 j189_7 j189_6 j189_5 j189_4 j189_3 i245; have a13 := t_add e245 i199 (in_c 1 rfl) rfl; have a14 := oa2 ((in_c 1 rfl)) i198; have a16 := t_add e198 ro_109_19 (in_c 160 rfl) rfl; have a17 := in_u ((in_c 160 rfl)); omega)]; exact g189_1))
              exact gg_w (by first | exact Nat.le_add_right _ _ | exact gw2 | exact gw3 | exact gwe rfl | exact gwf rfl | exact gwg rfl | exact gwh rfl | omega) (gg_f (gf_cons rfl (gf_cons rfl (gf_cons rfl (gf_cons rfl (gf_cons rfl (gf_cons rfl (gf_cons rfl (gf_cons rfl (gf_cons rfl (gf_cons rfl (gf_cons rfl gf_nil))))))))))) (ih189 sc189 y189_3 y189_4 y189_5 y189_6 y189_7 y189_8 y189_9 z245 hIc189 hFc189 (in_w 1 2000 j189_3 rfl) (in_w 0 2000 j189_4 rfl) (in_w 0 1951 j189_5 rfl) (in_w 0 31 j189_6 rfl) (in_w (-1) 59 j189_7 rfl) (in_w 0 1 j189_8 rfl) (in_w 0 400 i245 rfl) n189 n189a n189b n189c (m_up mm189 (t_add e245 i199 (in_c 1 rfl) rfl) (in_w 1 1 (in_c 1 rfl) rfl))))
            · skip
              have i209 := z_ne 1 1 c209 i208 rfl
              refine g_aload_n 213 (gd rfl) rfl rfl ?_
              refine g_getA (q2 := 113) 216 (gd rfl) rfl rfl rfl rfl ?_
              refine g_iload 218 (gd rfl) rfl rfl ?_
              refine g_iaload 219 (gd rfl) rfl (n := 480) rfl (in_ix i199 rfl) (fun z218 e218 => ?_)
              have i218 := inv_I hIc189 (n := 480) (t := 0) 0 31 rfl (in_ix i199 rfl) rfl e218
              refine g_iload 221 (gd rfl) rfl rfl ?_
              refine g_cmp_ne 224 245 (gd rfl) rfl rfl (fun c221 => ?_) (fun c221 => ?_)
              · skip
                refine g_iinc 248 (gd rfl) rfl rfl (Nat.le_of_ble_eq_true rfl) (fun z245 e245 => ?_)
                have i245 := in_add 1 320 e245 i199 (in_c 1 rfl) rfl rfl
                refine g_goto 189 (gd rfl) rfl ?_
                have n189 : (y189_3).toInt = y77_3.toInt + 1 := by first | exact n189_0 | (have a0 := oa13 j77_2 j77_1 ro_109_84 ro_109_20 ro_109_19 i199 j189_8 j189_7 j189_6 j189_5 j189_4 j189_3 i245; have a13 := t_add e245 i199 (in_c 1 rfl) rfl; have a14 := oa2 ((in_c 1 rfl)) i198; have a16 := t_add e198 ro_109_19 (in_c 160 rfl) rfl; have a17 := in_u ((in_c 160 rfl)); omega)
                have n189a : (y189_3).toInt ≤ (y189_4).toInt := by first | exact n189_1 | (have a0 := oa13 j77_2 j77_1 ro_109_84 ro_109_20 ro_109_19 i199 j189_8 j189_7 j189_6 j189_5 j189_4 j189_3 i245; have a13 := t_add e245 i199 (in_c 1 rfl) rfl; have a14 := oa2 ((in_c 1 rfl)) i198; have a16 := t_add e198 ro_109_19 (in_c 160 rfl) rfl; have a17 := in_u ((in_c 160 rfl)); omega)
                have n189b : QI sc189 (y189_4).toInt := by first | exact g77_0 | exact g189_0 | exact p240b
                have n189c : y189_5 = sc189.1 132 y77_3.toNatClampNeg := by first | exact g189_1 | (first | exact e88 | exact g189_1 | (rw [p240d _ (by show ((y77_3.toInt.toNat : Nat) : Int) < _; have a0 := oa13 j77_2 j77_1 ro_109_84 ro_109_20 ro_109_19 i199 j189_8 j189_7 j189_6 j189_5 j189_4 j189_3 i245; have a13 := t_add e245 i199 (in_c 1 rfl) rfl; have a14 := oa2 ((in_c 1 rfl)) i198; have a16 := t_add e198 ro_109_19 (in_c 160 rfl) rfl; have a17 := in_u ((in_c 160 rfl)); omega)]; exact g189_1))
                exact gg_w (by first | exact Nat.le_add_right _ _ | exact gw2 | exact gw3 | exact gwe rfl | exact gwf rfl | exact gwg rfl | exact gwh rfl | omega) (gg_f (gf_cons rfl (gf_cons rfl (gf_cons rfl (gf_cons rfl (gf_cons rfl (gf_cons rfl (gf_cons rfl (gf_cons rfl (gf_cons rfl (gf_cons rfl (gf_cons rfl gf_nil))))))))))) (ih189 sc189 y189_3 y189_4 y189_5 y189_6 y189_7 y189_8 y189_9 z245 hIc189 hFc189 (in_w 1 2000 j189_3 rfl) (in_w 0 2000 j189_4 rfl) (in_w 0 1951 j189_5 rfl) (in_w 0 31 j189_6 rfl) (in_w (-1) 59 j189_7 rfl) (in_w 0 1 j189_8 rfl) (in_w 0 400 i245 rfl) n189 n189a n189b n189c (m_up mm189 (t_add e245 i199 (in_c 1 rfl) rfl) (in_w 1 1 (in_c 1 rfl) rfl))))
              · skip
                refine g_aload_n 225 (gd rfl) rfl rfl ?_
                refine g_iload 227 (gd rfl) rfl rfl ?_
                refine g_lload 229 (gd rfl) rfl rfl ?_
                refine g_aload_n 230 (gd rfl) rfl rfl ?_
                refine g_getA (q2 := 183) 233 (gd rfl) rfl rfl rfl rfl ?_
                refine g_iload 235 (gd rfl) rfl rfl ?_
                refine g_iaload 236 (gd rfl) rfl (n := 2000) rfl (in_ix j189_5 rfl) (fun z235 e235 => ?_)
                have i236 : In z235 0 1999 := by have h := g189_0.2.2 y77_3.toNatClampNeg (by show ((y77_3.toInt.toNat : Nat) : Int) < _; have a0 := oa13 j77_2 j77_1 ro_109_84 ro_109_20 ro_109_19 i199 j189_8 j189_7 j189_6 j189_5 j189_4 j189_3 i198; have a13 := t_add e198 ro_109_19 (in_c 160 rfl) rfl; have a14 := in_u ((in_c 160 rfl)); omega); rw [← g189_1, ← e235] at h; have h2 : ((y77_3.toNatClampNeg : Nat) : Int) = y77_3.toInt := (by show ((y77_3.toInt.toNat : Nat) : Int) = _; have a0 := oa13 j77_2 j77_1 ro_109_84 ro_109_20 ro_109_19 i199 j189_8 j189_7 j189_6 j189_5 j189_4 j189_3 i198; have a13 := t_add e198 ro_109_19 (in_c 160 rfl) rfl; have a14 := in_u ((in_c 160 rfl)); omega); exact ⟨h.1, by have a0 := oa13 j77_2 j77_1 ro_109_84 ro_109_20 ro_109_19 i199 j189_8 j189_7 j189_6 j189_5 j189_4 j189_3 i198; have a13 := t_add e198 ro_109_19 (in_c 160 rfl) rfl; have a14 := in_u ((in_c 160 rfl)); omega⟩
                have hle : (z235).toInt ≤ y77_3.toInt := (by have h := g189_0.2.2 y77_3.toNatClampNeg (by show ((y77_3.toInt.toNat : Nat) : Int) < _; have a0 := oa13 j77_2 j77_1 ro_109_84 ro_109_20 ro_109_19 i199 j189_8 j189_7 j189_6 j189_5 j189_4 j189_3 i198; have a13 := t_add e198 ro_109_19 (in_c 160 rfl) rfl; have a14 := in_u ((in_c 160 rfl)); omega); rw [← g189_1, ← e235] at h; have h2 : ((y77_3.toNatClampNeg : Nat) : Int) = y77_3.toInt := (by show ((y77_3.toInt.toNat : Nat) : Int) = _; have a0 := oa13 j77_2 j77_1 ro_109_84 ro_109_20 ro_109_19 i199 j189_8 j189_7 j189_6 j189_5 j189_4 j189_3 i198; have a13 := t_add e198 ro_109_19 (in_c 160 rfl) rfl; have a14 := in_u ((in_c 160 rfl)); omega); omega)
                refine g_iconst 1 237 (gd rfl) rfl rfl ?_
                refine g_iadd 238 (gd rfl) rfl (fun z237 e237 => ?_)
                have i237 := in_add 1 2000 e237 i236 (in_c 1 rfl) rfl rfl
                refine g_iload 240 (gd rfl) rfl rfl ?_
                have p240 : QI sc189 (y189_4).toInt := by exact g189_0
                have p240a : 0 ≤ (z237).toInt ∧ (z237).toInt ≤ (y189_4).toInt := by exact ⟨by have a0 := oa13 j77_2 j77_1 ro_109_84 ro_109_20 ro_109_19 i199 j189_8 j189_7 j189_6 j189_5 j189_4 j189_3 i237; have a13 := t_add e237 i236 (in_c 1 rfl) rfl; have a14 := oa3 ((in_c 1 rfl)) i236 i198; have a17 := t_add e198 ro_109_19 (in_c 160 rfl) rfl; have a18 := in_u ((in_c 160 rfl)); omega, by have a0 := oa13 j77_2 j77_1 ro_109_84 ro_109_20 ro_109_19 i199 j189_8 j189_7 j189_6 j189_5 j189_4 j189_3 i237; have a13 := t_add e237 i236 (in_c 1 rfl) rfl; have a14 := oa3 ((in_c 1 rfl)) i236 i198; have a17 := t_add e198 ro_109_19 (in_c 160 rfl) rfl; have a18 := in_u ((in_c 160 rfl)); omega⟩
                refine g_callv (X := _) (As := [.int y189_11, .long y189_9, .int z237, .int y189_4]) (r := []) (b := A 109) (q := 109) 243 (gd rfl) rfl rfl rfl rfl rfl (ww_o rfl) (Nat.le_of_ble_eq_true rfl) (Nat.zero_le _) (Nat.zero_le _) (k_390 (by first | exact dq1 hd rfl | exact dq0 hd rfl | exact dq2 hd rfl | exact dq3 hd rfl | omega) hIc189 (in_w 0 319 i199 rfl) (in_w 0 2000 i237 rfl) (in_w 0 2000 j189_4 rfl) p240 p240a) (fun e u h => h) (fun v u h => ?_)
                obtain ⟨s240, hI240, hF240, z240, rfl, rfl, i240, p240b, p240c, p240d⟩ := h
                show GG _ _ _ _ _ _ _ _ [.int z240] _ _ _
                refine g_istore 245 (gd rfl) rfl (Nat.le_of_ble_eq_true rfl) ?_
                refine g_iinc 248 (gd rfl) rfl rfl (Nat.le_of_ble_eq_true rfl) (fun z245 e245 => ?_)
                have i245 := in_add 1 320 e245 i199 (in_c 1 rfl) rfl rfl
                refine g_goto 189 (gd rfl) rfl ?_
                have n189 : (y189_3).toInt = y77_3.toInt + 1 := by first | exact n189_0 | (have a0 := oa13 j77_2 j77_1 ro_109_84 ro_109_20 ro_109_19 i199 j189_8 j189_7 j189_6 j189_5 j189_4 j189_3 i245; have a13 := t_add e245 i199 (in_c 1 rfl) rfl; have a14 := oa3 ((in_c 1 rfl)) i240 i237; have a17 := t_add e237 i236 (in_c 1 rfl) rfl; have a18 := oa2 i236 i198; have a20 := t_add e198 ro_109_19 (in_c 160 rfl) rfl; have a21 := in_u ((in_c 160 rfl)); omega)
                have n189a : (y189_3).toInt ≤ (z240).toInt := by have a0 := oa13 j77_2 j77_1 ro_109_84 ro_109_20 ro_109_19 i199 j189_8 j189_7 j189_6 j189_5 j189_4 j189_3 i245; have a13 := t_add e245 i199 (in_c 1 rfl) rfl; have a14 := oa3 ((in_c 1 rfl)) i240 i237; have a17 := t_add e237 i236 (in_c 1 rfl) rfl; have a18 := oa2 i236 i198; have a20 := t_add e198 ro_109_19 (in_c 160 rfl) rfl; have a21 := in_u ((in_c 160 rfl)); omega
                have n189b : QI s240 (z240).toInt := by first | exact g77_0 | exact g189_0 | exact p240b
                have n189c : y189_5 = s240.1 132 y77_3.toNatClampNeg := by first | exact e88 | exact g189_1 | (rw [p240d _ (by show ((y77_3.toInt.toNat : Nat) : Int) < _; have a0 := oa13 j77_2 j77_1 ro_109_84 ro_109_20 ro_109_19 i199 j189_8 j189_7 j189_6 j189_5 j189_4 j189_3 i245; have a13 := t_add e245 i199 (in_c 1 rfl) rfl; have a14 := oa3 ((in_c 1 rfl)) i240 i237; have a17 := t_add e237 i236 (in_c 1 rfl) rfl; have a18 := oa2 i236 i198; have a20 := t_add e198 ro_109_19 (in_c 160 rfl) rfl; have a21 := in_u ((in_c 160 rfl)); omega)]; exact g189_1)
                exact gg_w (by first | exact Nat.le_add_right _ _ | exact gw2 | exact gw3 | exact gwe rfl | exact gwf rfl | exact gwg rfl | exact gwh rfl | omega) (gg_f (gf_cons rfl (gf_cons rfl (gf_cons rfl (gf_cons rfl (gf_cons rfl (gf_cons rfl (gf_cons rfl (gf_cons rfl (gf_cons rfl (gf_cons rfl (gf_cons rfl gf_nil))))))))))) (ih189 s240 y189_3 z240 y189_5 y189_6 y189_7 y189_8 y189_9 z245 hI240 (fr_tr rfl hFc189 hF240) (in_w 1 2000 j189_3 rfl) (in_w 0 2000 i240 rfl) (in_w 0 1951 j189_5 rfl) (in_w 0 31 j189_6 rfl) (in_w (-1) 59 j189_7 rfl) (in_w 0 1 j189_8 rfl) (in_w 0 400 i245 rfl) n189 n189a n189b n189c (m_up mm189 (t_add e245 i199 (in_c 1 rfl) rfl) (in_w 1 1 (in_c 1 rfl) rfl))))
      refine g_iload_n 78 (gd rfl) rfl rfl ?_
      refine g_iload 80 (gd rfl) rfl rfl ?_
      refine g_cmp_ge 83 254 (gd rfl) rfl rfl (fun c80 => ?_) (fun c80 => ?_)
      · skip
        refine g_iconst (-1) 255 (gd rfl) rfl rfl ?_
        exact g_ireturn (gd rfl) rfl rfl (hP _ _ ⟨sc77, hIc77, hFc77, (Int32.ofInt (-1)), rfl, rfl, in_w (-2147483648) 2147483647 (in_c (-1) rfl) rfl⟩)
      · skip
        have i80 := r_lt1 0 1999 c80 j77_3 j77_4 rfl
        have i80a := r_lt2 1 2000 c80 j77_3 j77_4 rfl
        refine g_aload_n 84 (gd rfl) rfl rfl ?_
        refine g_getA (q2 := 132) 87 (gd rfl) rfl rfl rfl rfl ?_
        refine g_iload_n 88 (gd rfl) rfl rfl ?_
        refine g_iaload 89 (gd rfl) rfl (n := 4000) rfl (in_ix i80 rfl) (fun z88 e88 => ?_)
        have i88 := inv_I hIc77 (n := 4000) (t := 0) 0 1951 rfl (in_ix i80 rfl) rfl e88
        refine g_istore 91 (gd rfl) rfl (Nat.le_of_ble_eq_true rfl) ?_
        refine g_iinc 94 (gd rfl) rfl rfl (Nat.le_of_ble_eq_true rfl) (fun z91 e91 => ?_)
        have i91 := in_add 1 2000 e91 i80 (in_c 1 rfl) rfl rfl
        refine g_iload 96 (gd rfl) rfl rfl ?_
        refine g_bipush 61 98 (gd rfl) rfl rfl ?_
        refine g_idiv 99 (gd rfl) rfl (by decide) (fun z98 e98 => ?_)
        have i98 := in_div 0 31 e98 i88 rfl rfl
        refine g_istore 101 (gd rfl) rfl (Nat.le_of_ble_eq_true rfl) ?_
        refine g_iload 103 (gd rfl) rfl rfl ?_
        refine g_bipush 61 105 (gd rfl) rfl rfl ?_
        refine g_irem 106 (gd rfl) rfl (by decide) (fun z105 e105 => ?_)
        have i105 := in_rem 60 e105 i88 rfl rfl
        refine g_iconst 1 107 (gd rfl) rfl rfl ?_
        refine g_isub 108 (gd rfl) rfl (fun z107 e107 => ?_)
        have i107 := in_sub (-1) 59 e107 i105 (in_c 1 rfl) rfl rfl
        refine g_istore 110 (gd rfl) rfl (Nat.le_of_ble_eq_true rfl) ?_
        refine g_iload 112 (gd rfl) rfl rfl ?_
        refine g_if_ge 115 122 (gd rfl) rfl rfl (fun c112 => ?_) (fun c112 => ?_)
        · skip
          have i112 := z_ge 0 59 c112 i107 rfl
          refine g_aload_n 123 (gd rfl) rfl rfl ?_
          refine g_getL 126 (gd rfl) rfl rfl rfl (fun z123 e123 => ?_)
          refine g_iload 128 (gd rfl) rfl rfl ?_
          refine g_lshr 129 (gd rfl) rfl (fun z128 e128 => ?_)
          refine g_lconst 1 130 (gd rfl) rfl rfl ?_
          refine g_land 131 (gd rfl) rfl (fun z130 e130 => ?_)
          have i130 := inl_and2 e130 (l_c 1 rfl) rfl
          refine g_lconst 1 132 (gd rfl) rfl rfl ?_
          refine g_lcmp 133 (gd rfl) rfl (fun z132 e132 => ?_)
          have i132 := lc_in e132
          refine g_if_ne 136 140 (gd rfl) rfl rfl (fun c133 => ?_) (fun c133 => ?_)
          · skip
            have c133a := lc_ne e132 c133
            have i133 := lr_ne1 0 0 c133a i130 (l_c 1 rfl) rfl
            refine g_iconst 0 141 (gd rfl) rfl rfl ?_
            refine g_istore 143 (gd rfl) rfl (Nat.le_of_ble_eq_true rfl) ?_
            refine g_iload 145 (gd rfl) rfl rfl ?_
            refine g_iload_n 146 (gd rfl) rfl rfl ?_
            refine g_cmp_ne 149 162 (gd rfl) rfl rfl (fun c146 => ?_) (fun c146 => ?_)
            · skip
              refine g_iload 164 (gd rfl) rfl rfl ?_
              refine g_if_ge 167 174 (gd rfl) rfl rfl (fun c164 => ?_) (fun c164 => ?_)
              · skip
                refine g_aload_n 175 (gd rfl) rfl rfl ?_
                refine g_getA (q2 := 173) 178 (gd rfl) rfl rfl rfl rfl ?_
                refine g_iload 180 (gd rfl) rfl rfl ?_
                refine g_laload 181 (gd rfl) rfl (n := 60) rfl (in_ix i112 rfl) (fun z180 e180 => ?_)
                refine g_lstore 183 (gd rfl) rfl (Nat.le_of_ble_eq_true rfl) ?_
                refine g_aload_n 184 (gd rfl) rfl rfl ?_
                refine g_getI 187 (gd rfl) rfl rfl rfl (fun z184 e184 => ?_)
                have q184 : u_109_19 = z184 := (fr_F e_109_19 hFc77 rfl).trans e184.symm
                subst q184
                refine g_istore 189 (gd rfl) rfl (Nat.le_of_ble_eq_true rfl) ?_
                have n189 : (z91).toInt = y77_3.toInt + 1 := by have a0 := oa9 j77_2 j77_1 ro_109_84 ro_109_20 ro_109_19 i80a i80 ((in_c 0 rfl)) i112; have a9 := t_sub e107 i105 (in_c 1 rfl) rfl; have a10 := oa3 ((in_c 1 rfl)) i105 i98; have a13 := t_div e98 i88 rfl; have a14 := oa2 i88 i91; have a16 := t_add e91 i80 (in_c 1 rfl) rfl; omega
                have n189a : (z91).toInt ≤ (y77_4).toInt := by have a0 := oa9 j77_2 j77_1 ro_109_84 ro_109_20 ro_109_19 i80a i80 ((in_c 0 rfl)) i112; have a9 := t_sub e107 i105 (in_c 1 rfl) rfl; have a10 := oa3 ((in_c 1 rfl)) i105 i98; have a13 := t_div e98 i88 rfl; have a14 := oa2 i88 i91; have a16 := t_add e91 i80 (in_c 1 rfl) rfl; omega
                have n189b : QI sc77 (y77_4).toInt := by first | exact g77_0 | exact g189_0 | exact p240b
                have n189c : z88 = sc77.1 132 y77_3.toNatClampNeg := by first | exact e88 | exact g189_1 | (rw [p240d _ (by show ((y77_3.toInt.toNat : Nat) : Int) < _; have a0 := oa9 j77_2 j77_1 ro_109_84 ro_109_20 ro_109_19 i80a i80 ((in_c 0 rfl)) i112; have a9 := t_sub e107 i105 (in_c 1 rfl) rfl; have a10 := oa3 ((in_c 1 rfl)) i105 i98; have a13 := t_div e98 i88 rfl; have a14 := oa2 i88 i91; have a16 := t_add e91 i80 (in_c 1 rfl) rfl; omega)]; exact g189_1)
                exact gg_w (by first | exact Nat.le_add_right _ _ | exact gw2 | exact gw3 | exact gwe rfl | exact gwf rfl | exact gwg rfl | exact gwh rfl | omega) (gg_f (gf_cons rfl (gf_cons rfl (gf_cons rfl (gf_cons rfl (gf_cons rfl (gf_cons rfl (gf_cons rfl (gf_cons rfl (gf_cons rfl (gf_cons rfl (gf_cons rfl gf_nil))))))))))) (ct189 401 sc77 z91 y77_4 z88 z98 z107 (Int32.ofInt 0) z180 u_109_19 hIc77 hFc77 (in_w 1 2000 i91 rfl) (in_w 0 2000 i80a rfl) (in_w 0 1951 i88 rfl) (in_w 0 31 i98 rfl) (in_w (-1) 59 i112 rfl) (in_w 0 1 (in_c 0 rfl) rfl) (in_w 0 400 ro_109_19 rfl) n189 n189a n189b n189c (m_in 401 (in_w 0 400 ro_109_19 rfl) rfl)))
              · skip
                exact zn_lt c164 i112 rfl
            · skip
              refine g_iload 151 (gd rfl) rfl rfl ?_
              refine g_if_eq 154 162 (gd rfl) rfl rfl (fun c151 => ?_) (fun c151 => ?_)
              · skip
                refine g_iload 164 (gd rfl) rfl rfl ?_
                refine g_if_ge 167 174 (gd rfl) rfl rfl (fun c164 => ?_) (fun c164 => ?_)
                · skip
                  refine g_aload_n 175 (gd rfl) rfl rfl ?_
                  refine g_getA (q2 := 173) 178 (gd rfl) rfl rfl rfl rfl ?_
                  refine g_iload 180 (gd rfl) rfl rfl ?_
                  refine g_laload 181 (gd rfl) rfl (n := 60) rfl (in_ix i112 rfl) (fun z180 e180 => ?_)
                  refine g_lstore 183 (gd rfl) rfl (Nat.le_of_ble_eq_true rfl) ?_
                  refine g_aload_n 184 (gd rfl) rfl rfl ?_
                  refine g_getI 187 (gd rfl) rfl rfl rfl (fun z184 e184 => ?_)
                  have q184 : u_109_19 = z184 := (fr_F e_109_19 hFc77 rfl).trans e184.symm
                  subst q184
                  refine g_istore 189 (gd rfl) rfl (Nat.le_of_ble_eq_true rfl) ?_
                  have n189 : (z91).toInt = y77_3.toInt + 1 := by have a0 := oa9 j77_2 j77_1 ro_109_84 ro_109_20 ro_109_19 i80a i80 ((in_c 0 rfl)) i112; have a9 := t_sub e107 i105 (in_c 1 rfl) rfl; have a10 := oa3 ((in_c 1 rfl)) i105 i98; have a13 := t_div e98 i88 rfl; have a14 := oa2 i88 i91; have a16 := t_add e91 i80 (in_c 1 rfl) rfl; omega
                  have n189a : (z91).toInt ≤ (y77_4).toInt := by have a0 := oa9 j77_2 j77_1 ro_109_84 ro_109_20 ro_109_19 i80a i80 ((in_c 0 rfl)) i112; have a9 := t_sub e107 i105 (in_c 1 rfl) rfl; have a10 := oa3 ((in_c 1 rfl)) i105 i98; have a13 := t_div e98 i88 rfl; have a14 := oa2 i88 i91; have a16 := t_add e91 i80 (in_c 1 rfl) rfl; omega
                  have n189b : QI sc77 (y77_4).toInt := by first | exact g77_0 | exact g189_0 | exact p240b
                  have n189c : z88 = sc77.1 132 y77_3.toNatClampNeg := by first | exact e88 | exact g189_1 | (rw [p240d _ (by show ((y77_3.toInt.toNat : Nat) : Int) < _; have a0 := oa9 j77_2 j77_1 ro_109_84 ro_109_20 ro_109_19 i80a i80 ((in_c 0 rfl)) i112; have a9 := t_sub e107 i105 (in_c 1 rfl) rfl; have a10 := oa3 ((in_c 1 rfl)) i105 i98; have a13 := t_div e98 i88 rfl; have a14 := oa2 i88 i91; have a16 := t_add e91 i80 (in_c 1 rfl) rfl; omega)]; exact g189_1)
                  exact gg_w (by first | exact Nat.le_add_right _ _ | exact gw2 | exact gw3 | exact gwe rfl | exact gwf rfl | exact gwg rfl | exact gwh rfl | omega) (gg_f (gf_cons rfl (gf_cons rfl (gf_cons rfl (gf_cons rfl (gf_cons rfl (gf_cons rfl (gf_cons rfl (gf_cons rfl (gf_cons rfl (gf_cons rfl (gf_cons rfl gf_nil))))))))))) (ct189 401 sc77 z91 y77_4 z88 z98 z107 (Int32.ofInt 0) z180 u_109_19 hIc77 hFc77 (in_w 1 2000 i91 rfl) (in_w 0 2000 i80a rfl) (in_w 0 1951 i88 rfl) (in_w 0 31 i98 rfl) (in_w (-1) 59 i112 rfl) (in_w 0 1 (in_c 0 rfl) rfl) (in_w 0 400 ro_109_19 rfl) n189 n189a n189b n189c (m_in 401 (in_w 0 400 ro_109_19 rfl) rfl)))
                · skip
                  exact zn_lt c164 i112 rfl
              · skip
                exact zn_ne c151 (in_c 0 rfl) rfl
          · skip
            have i133 := z_eq 0 0 c133 i132 rfl
            have c133a := lc_eq e132 c133
            have i133a := lr_eq1 1 1 c133a i130 (l_c 1 rfl) rfl
            refine g_iconst 1 137 (gd rfl) rfl rfl ?_
            refine g_goto 141 (gd rfl) rfl ?_
            refine g_istore 143 (gd rfl) rfl (Nat.le_of_ble_eq_true rfl) ?_
            refine g_iload 145 (gd rfl) rfl rfl ?_
            refine g_iload_n 146 (gd rfl) rfl rfl ?_
            refine g_cmp_ne 149 162 (gd rfl) rfl rfl (fun c146 => ?_) (fun c146 => ?_)
            · skip
              refine g_iload 164 (gd rfl) rfl rfl ?_
              refine g_if_ge 167 174 (gd rfl) rfl rfl (fun c164 => ?_) (fun c164 => ?_)
              · skip
                refine g_aload_n 175 (gd rfl) rfl rfl ?_
                refine g_getA (q2 := 173) 178 (gd rfl) rfl rfl rfl rfl ?_
                refine g_iload 180 (gd rfl) rfl rfl ?_
                refine g_laload 181 (gd rfl) rfl (n := 60) rfl (in_ix i112 rfl) (fun z180 e180 => ?_)
                refine g_lstore 183 (gd rfl) rfl (Nat.le_of_ble_eq_true rfl) ?_
                refine g_aload_n 184 (gd rfl) rfl rfl ?_
                refine g_getI 187 (gd rfl) rfl rfl rfl (fun z184 e184 => ?_)
                have q184 : u_109_19 = z184 := (fr_F e_109_19 hFc77 rfl).trans e184.symm
                subst q184
                refine g_istore 189 (gd rfl) rfl (Nat.le_of_ble_eq_true rfl) ?_
                have n189 : (z91).toInt = y77_3.toInt + 1 := by have a0 := oa9 j77_2 j77_1 ro_109_84 ro_109_20 ro_109_19 i80a i80 ((in_c 1 rfl)) i112; have a9 := t_sub e107 i105 (in_c 1 rfl) rfl; have a10 := oa2 i105 i98; have a12 := t_div e98 i88 rfl; have a13 := oa2 i88 i91; have a15 := t_add e91 i80 (in_c 1 rfl) rfl; omega
                have n189a : (z91).toInt ≤ (y77_4).toInt := by have a0 := oa9 j77_2 j77_1 ro_109_84 ro_109_20 ro_109_19 i80a i80 ((in_c 1 rfl)) i112; have a9 := t_sub e107 i105 (in_c 1 rfl) rfl; have a10 := oa2 i105 i98; have a12 := t_div e98 i88 rfl; have a13 := oa2 i88 i91; have a15 := t_add e91 i80 (in_c 1 rfl) rfl; omega
                have n189b : QI sc77 (y77_4).toInt := by first | exact g77_0 | exact g189_0 | exact p240b
                have n189c : z88 = sc77.1 132 y77_3.toNatClampNeg := by first | exact e88 | exact g189_1 | (rw [p240d _ (by show ((y77_3.toInt.toNat : Nat) : Int) < _; have a0 := oa9 j77_2 j77_1 ro_109_84 ro_109_20 ro_109_19 i80a i80 ((in_c 1 rfl)) i112; have a9 := t_sub e107 i105 (in_c 1 rfl) rfl; have a10 := oa2 i105 i98; have a12 := t_div e98 i88 rfl; have a13 := oa2 i88 i91; have a15 := t_add e91 i80 (in_c 1 rfl) rfl; omega)]; exact g189_1)
                exact gg_w (by first | exact Nat.le_add_right _ _ | exact gw2 | exact gw3 | exact gwe rfl | exact gwf rfl | exact gwg rfl | exact gwh rfl | omega) (gg_f (gf_cons rfl (gf_cons rfl (gf_cons rfl (gf_cons rfl (gf_cons rfl (gf_cons rfl (gf_cons rfl (gf_cons rfl (gf_cons rfl (gf_cons rfl (gf_cons rfl gf_nil))))))))))) (ct189 401 sc77 z91 y77_4 z88 z98 z107 (Int32.ofInt 1) z180 u_109_19 hIc77 hFc77 (in_w 1 2000 i91 rfl) (in_w 0 2000 i80a rfl) (in_w 0 1951 i88 rfl) (in_w 0 31 i98 rfl) (in_w (-1) 59 i112 rfl) (in_w 0 1 (in_c 1 rfl) rfl) (in_w 0 400 ro_109_19 rfl) n189 n189a n189b n189c (m_in 401 (in_w 0 400 ro_109_19 rfl) rfl)))
              · skip
                exact zn_lt c164 i112 rfl
            · skip
              refine g_iload 151 (gd rfl) rfl rfl ?_
              refine g_if_eq 154 162 (gd rfl) rfl rfl (fun c151 => ?_) (fun c151 => ?_)
              · skip
                exact zn_eq c151 (in_c 1 rfl) rfl
              · skip
                refine g_aload_n 155 (gd rfl) rfl rfl ?_
                refine g_getA (q2 := 183) 158 (gd rfl) rfl rfl rfl rfl ?_
                refine g_iload 160 (gd rfl) rfl rfl ?_
                refine g_iaload 161 (gd rfl) rfl (n := 2000) rfl (in_ix i88 rfl) (fun z160 e160 => ?_)
                exact g_ireturn (gd rfl) rfl rfl (hP _ _ ⟨sc77, hIc77, hFc77, z160, rfl, rfl, in_w (-2147483648) 2147483647 (i_rng z160) rfl⟩)
        · skip
          have i112 := z_lt (-1) (-1) c112 i107 rfl
          refine g_aload_n 116 (gd rfl) rfl rfl ?_
          refine g_getZ 119 (gd rfl) rfl rfl rfl (fun z116 e116 => ?_)
          have q116 : u_109_84 = z116 := (fr_F e_109_84 hFc77 rfl).trans e116.symm
          subst q116
          refine g_goto 141 (gd rfl) rfl ?_
          refine g_istore 143 (gd rfl) rfl (Nat.le_of_ble_eq_true rfl) ?_
          refine g_iload 145 (gd rfl) rfl rfl ?_
          refine g_iload_n 146 (gd rfl) rfl rfl ?_
          refine g_cmp_ne 149 162 (gd rfl) rfl rfl (fun c146 => ?_) (fun c146 => ?_)
          · skip
            refine g_iload 164 (gd rfl) rfl rfl ?_
            refine g_if_ge 167 174 (gd rfl) rfl rfl (fun c164 => ?_) (fun c164 => ?_)
            · skip
              exact zn_ge c164 i112 rfl
            · skip
              refine g_aload_n 168 (gd rfl) rfl rfl ?_
              refine g_getL 171 (gd rfl) rfl rfl rfl (fun z168 e168 => ?_)
              refine g_goto 181 (gd rfl) rfl ?_
              refine g_lstore 183 (gd rfl) rfl (Nat.le_of_ble_eq_true rfl) ?_
              refine g_aload_n 184 (gd rfl) rfl rfl ?_
              refine g_getI 187 (gd rfl) rfl rfl rfl (fun z184 e184 => ?_)
              have q184 : u_109_19 = z184 := (fr_F e_109_19 hFc77 rfl).trans e184.symm
              subst q184
              refine g_istore 189 (gd rfl) rfl (Nat.le_of_ble_eq_true rfl) ?_
              have n189 : (z91).toInt = y77_3.toInt + 1 := by have a0 := oa8 j77_2 j77_1 ro_109_84 ro_109_20 ro_109_19 i80a i80 i112; have a8 := t_sub e107 i105 (in_c 1 rfl) rfl; have a9 := oa3 ((in_c 1 rfl)) i105 i98; have a12 := t_div e98 i88 rfl; have a13 := oa2 i88 i91; have a15 := t_add e91 i80 (in_c 1 rfl) rfl; omega
              have n189a : (z91).toInt ≤ (y77_4).toInt := by have a0 := oa8 j77_2 j77_1 ro_109_84 ro_109_20 ro_109_19 i80a i80 i112; have a8 := t_sub e107 i105 (in_c 1 rfl) rfl; have a9 := oa3 ((in_c 1 rfl)) i105 i98; have a12 := t_div e98 i88 rfl; have a13 := oa2 i88 i91; have a15 := t_add e91 i80 (in_c 1 rfl) rfl; omega
              have n189b : QI sc77 (y77_4).toInt := by first | exact g77_0 | exact g189_0 | exact p240b
              have n189c : z88 = sc77.1 132 y77_3.toNatClampNeg := by first | exact e88 | exact g189_1 | (rw [p240d _ (by show ((y77_3.toInt.toNat : Nat) : Int) < _; have a0 := oa8 j77_2 j77_1 ro_109_84 ro_109_20 ro_109_19 i80a i80 i112; have a8 := t_sub e107 i105 (in_c 1 rfl) rfl; have a9 := oa3 ((in_c 1 rfl)) i105 i98; have a12 := t_div e98 i88 rfl; have a13 := oa2 i88 i91; have a15 := t_add e91 i80 (in_c 1 rfl) rfl; omega)]; exact g189_1)
              exact gg_w (by first | exact Nat.le_add_right _ _ | exact gw2 | exact gw3 | exact gwe rfl | exact gwf rfl | exact gwg rfl | exact gwh rfl | omega) (gg_f (gf_cons rfl (gf_cons rfl (gf_cons rfl (gf_cons rfl (gf_cons rfl (gf_cons rfl (gf_cons rfl (gf_cons rfl (gf_cons rfl (gf_cons rfl (gf_cons rfl gf_nil))))))))))) (ct189 401 sc77 z91 y77_4 z88 z98 z107 u_109_84 z168 u_109_19 hIc77 hFc77 (in_w 1 2000 i91 rfl) (in_w 0 2000 i80a rfl) (in_w 0 1951 i88 rfl) (in_w 0 31 i98 rfl) (in_w (-1) 59 i112 rfl) (in_w 0 1 ro_109_84 rfl) (in_w 0 400 ro_109_19 rfl) n189 n189a n189b n189c (m_in 401 (in_w 0 400 ro_109_19 rfl) rfl)))
          · skip
            refine g_iload 151 (gd rfl) rfl rfl ?_
            refine g_if_eq 154 162 (gd rfl) rfl rfl (fun c151 => ?_) (fun c151 => ?_)
            · skip
              have i151 := z_eq 0 0 c151 ro_109_84 rfl
              refine g_iload 164 (gd rfl) rfl rfl ?_
              refine g_if_ge 167 174 (gd rfl) rfl rfl (fun c164 => ?_) (fun c164 => ?_)
              · skip
                exact zn_ge c164 i112 rfl
              · skip
                refine g_aload_n 168 (gd rfl) rfl rfl ?_
                refine g_getL 171 (gd rfl) rfl rfl rfl (fun z168 e168 => ?_)
                refine g_goto 181 (gd rfl) rfl ?_
                refine g_lstore 183 (gd rfl) rfl (Nat.le_of_ble_eq_true rfl) ?_
                refine g_aload_n 184 (gd rfl) rfl rfl ?_
                refine g_getI 187 (gd rfl) rfl rfl rfl (fun z184 e184 => ?_)
                have q184 : u_109_19 = z184 := (fr_F e_109_19 hFc77 rfl).trans e184.symm
                subst q184
                refine g_istore 189 (gd rfl) rfl (Nat.le_of_ble_eq_true rfl) ?_
                have n189 : (z91).toInt = y77_3.toInt + 1 := by have a0 := oa8 j77_2 j77_1 i151 ro_109_20 ro_109_19 i80a i80 i112; have a8 := t_sub e107 i105 (in_c 1 rfl) rfl; have a9 := oa3 ((in_c 1 rfl)) i105 i98; have a12 := t_div e98 i88 rfl; have a13 := oa2 i88 i91; have a15 := t_add e91 i80 (in_c 1 rfl) rfl; omega
                have n189a : (z91).toInt ≤ (y77_4).toInt := by have a0 := oa8 j77_2 j77_1 i151 ro_109_20 ro_109_19 i80a i80 i112; have a8 := t_sub e107 i105 (in_c 1 rfl) rfl; have a9 := oa3 ((in_c 1 rfl)) i105 i98; have a12 := t_div e98 i88 rfl; have a13 := oa2 i88 i91; have a15 := t_add e91 i80 (in_c 1 rfl) rfl; omega
                have n189b : QI sc77 (y77_4).toInt := by first | exact g77_0 | exact g189_0 | exact p240b
                have n189c : z88 = sc77.1 132 y77_3.toNatClampNeg := by first | exact e88 | exact g189_1 | (rw [p240d _ (by show ((y77_3.toInt.toNat : Nat) : Int) < _; have a0 := oa8 j77_2 j77_1 i151 ro_109_20 ro_109_19 i80a i80 i112; have a8 := t_sub e107 i105 (in_c 1 rfl) rfl; have a9 := oa3 ((in_c 1 rfl)) i105 i98; have a12 := t_div e98 i88 rfl; have a13 := oa2 i88 i91; have a15 := t_add e91 i80 (in_c 1 rfl) rfl; omega)]; exact g189_1)
                exact gg_w (by first | exact Nat.le_add_right _ _ | exact gw2 | exact gw3 | exact gwe rfl | exact gwf rfl | exact gwg rfl | exact gwh rfl | omega) (gg_f (gf_cons rfl (gf_cons rfl (gf_cons rfl (gf_cons rfl (gf_cons rfl (gf_cons rfl (gf_cons rfl (gf_cons rfl (gf_cons rfl (gf_cons rfl (gf_cons rfl gf_nil))))))))))) (ct189 401 sc77 z91 y77_4 z88 z98 z107 u_109_84 z168 u_109_19 hIc77 hFc77 (in_w 1 2000 i91 rfl) (in_w 0 2000 i80a rfl) (in_w 0 1951 i88 rfl) (in_w 0 31 i98 rfl) (in_w (-1) 59 i112 rfl) (in_w 0 1 i151 rfl) (in_w 0 400 ro_109_19 rfl) n189 n189a n189b n189c (m_in 401 (in_w 0 400 ro_109_19 rfl) rfl)))
            · skip
              have i151 := z_ne 1 1 c151 ro_109_84 rfl
              refine g_aload_n 155 (gd rfl) rfl rfl ?_
              refine g_getA (q2 := 183) 158 (gd rfl) rfl rfl rfl rfl ?_
              refine g_iload 160 (gd rfl) rfl rfl ?_
              refine g_iaload 161 (gd rfl) rfl (n := 2000) rfl (in_ix i88 rfl) (fun z160 e160 => ?_)
              exact g_ireturn (gd rfl) rfl rfl (hP _ _ ⟨sc77, hIc77, hFc77, z160, rfl, rfl, in_w (-2147483648) 2147483647 (i_rng z160) rfl⟩)
  have ct32 : ∀ (k32 : Nat) (sc32 : GS) (y32_3 : Int32), Inv sc32 → Fr fm_389 s sc32 → (In x1 0 31) → (In x2 0 31) → (In y32_3 0 2000) → (∀ k : Nat, (k : Int) < (y32_3).toInt → sc32.1 183 k = Int32.ofInt (-1)) → 2000 - (y32_3).toInt < (k32 : Int) → GG Z (d - 1) 389 post (gx xp) (727565603 + k32 * 900) 32 (fun j => xlook j [(0, .ref (A 109)), (1, .int x1), (2, .int x2), (3, .int y32_3)]) [] (WW Z A sc32 ++ ex) 0 0 := by
    intro k32
    induction k32 with
    | zero => intro sc32 y32_3 hIc32 hFc32 j32_1 j32_2 j32_3 g32_0 mm32; exact m_no mm32 j32_3 rfl
    | succ k32 ih32 =>
      intro sc32 y32_3 hIc32 hFc32 j32_1 j32_2 j32_3 g32_0 mm32
      refine gg_w (M := 727565603 + k32 * 900 + 900) gws ?_
      refine g_iload_n 33 (gd rfl) rfl rfl ?_
      refine g_sipush 2000 36 (gd rfl) rfl rfl ?_
      refine g_cmp_ge 39 52 (gd rfl) rfl rfl (fun c36 => ?_) (fun c36 => ?_)
      · skip
        have i36 := r_le2 2000 2000 c36 (in_c 2000 rfl) j32_3 rfl
        refine g_iconst 0 53 (gd rfl) rfl rfl ?_
        refine g_istore_n 54 (gd rfl) rfl (Nat.le_of_ble_eq_true rfl) ?_
        refine g_iconst 1 55 (gd rfl) rfl rfl ?_
        refine g_istore 57 (gd rfl) rfl (Nat.le_of_ble_eq_true rfl) ?_
        refine g_aload_n 58 (gd rfl) rfl rfl ?_
        refine g_getA (q2 := 132) 61 (gd rfl) rfl rfl rfl rfl ?_
        refine g_iconst 0 62 (gd rfl) rfl rfl ?_
        refine g_bipush 61 64 (gd rfl) rfl rfl ?_
        refine g_iload_n 65 (gd rfl) rfl rfl ?_
        refine g_imul 66 (gd rfl) rfl (fun z65 e65 => ?_)
        have i65 := in_mulc 61 0 1891 (Or.inl e65) j32_1 rfl rfl
        refine g_iastore 67 (gd rfl) rfl (n := 4000) rfl (in_ix (in_c 0 rfl) rfl) ?_
        have hI66 := inv_sI (q := 132) (j := (Int32.ofInt 0).toNatClampNeg) hIc32 rfl (in_w 0 1951 i65 rfl)
        refine g_aload_n 68 (gd rfl) rfl rfl ?_
        refine g_getA (q2 := 183) 71 (gd rfl) rfl rfl rfl rfl ?_
        refine g_bipush 61 73 (gd rfl) rfl rfl ?_
        refine g_iload_n 74 (gd rfl) rfl rfl ?_
        refine g_imul 75 (gd rfl) rfl (fun z74 e74 => ?_)
        have i74 := in_mulc 61 0 1891 (Or.inl e74) j32_1 rfl rfl
        refine g_iconst 0 76 (gd rfl) rfl rfl ?_
        refine g_iastore 77 (gd rfl) rfl (n := 2000) rfl (in_ix i74 rfl) ?_
        have hI76 := inv_sI (q := 183) (j := z74.toNatClampNeg) hI66 rfl (in_w (-2147483648) 2147483647 (in_c 0 rfl) rfl)
        have n77 : ((Int32.ofInt 0)).toInt ≤ ((Int32.ofInt 1)).toInt := by have a0 := oa9 j32_2 j32_1 ro_109_84 ro_109_20 ro_109_19 i36 ((in_c 1 rfl)) ((in_c 0 rfl)) i74; have a9 := (t_mulc 61 (Or.inl e74) j32_1 rfl).1; have a10 := in_u i65; have a11 := (t_mulc 61 (Or.inl e65) j32_1 rfl).1; omega
        have n77a : QI (sI (sI sc32 132 (Int32.ofInt 0).toNatClampNeg z65) 183 z74.toNatClampNeg (Int32.ofInt 0)) ((Int32.ofInt 1)).toInt := by first | exact g189_0 | (have hz : z74 = z65 := (by rw [e74, e65]); have hw : ((Int32.ofInt 1)).toInt = 0 + 1 := rfl; rw [hw]; exact qi_push (m := 0) (y := z65) (v := Int32.ofInt 0) (qi_0 sc32) rfl (by rw [sI_p rfl, sI_q]; rfl) (by rw [sI_q, sI_p rfl, hz]) i65 rfl (by rw [g32_0 z65.toNatClampNeg (by show ((z65.toInt.toNat : Nat) : Int) < _; have a0 := oa9 j32_2 j32_1 ro_109_84 ro_109_20 ro_109_19 i36 ((in_c 1 rfl)) ((in_c 0 rfl)) i74; have a9 := (t_mulc 61 (Or.inl e74) j32_1 rfl).1; have a10 := in_u i65; have a11 := (t_mulc 61 (Or.inl e65) j32_1 rfl).1; omega)]; decide) (by decide) (by decide))
        have m77 : 2000 - ((Int32.ofInt 0)).toInt < ((2001 : Nat) : Int) := by have a0 := oa9 j32_2 j32_1 ro_109_84 ro_109_20 ro_109_19 i36 ((in_c 1 rfl)) ((in_c 0 rfl)) i74; have a9 := (t_mulc 61 (Or.inl e74) j32_1 rfl).1; have a10 := in_u i65; have a11 := (t_mulc 61 (Or.inl e65) j32_1 rfl).1; omega
        exact gg_w (by first | exact Nat.le_add_right _ _ | exact gw2 | exact gw3 | exact gwe rfl | exact gwf rfl | exact gwg rfl | exact gwh rfl | omega) (gg_f (gf_cons rfl (gf_cons rfl (gf_cons rfl (gf_cons rfl (gf_cons rfl gf_nil))))) (ct77 2001 (sI (sI sc32 132 (Int32.ofInt 0).toNatClampNeg z65) 183 z74.toNatClampNeg (Int32.ofInt 0)) (Int32.ofInt 0) (Int32.ofInt 1) hI76 (fr_sI rfl (fr_sI rfl hFc32)) (in_w 0 31 j32_1 rfl) (in_w 0 31 j32_2 rfl) (in_w 0 2000 (in_c 0 rfl) rfl) (in_w 0 2000 (in_c 1 rfl) rfl) n77 n77a m77))
      · skip
        have i36 := r_lt1 0 1999 c36 j32_3 (in_c 2000 rfl) rfl
        refine g_aload_n 40 (gd rfl) rfl rfl ?_
        refine g_getA (q2 := 183) 43 (gd rfl) rfl rfl rfl rfl ?_
        refine g_iload_n 44 (gd rfl) rfl rfl ?_
        refine g_iconst (-1) 45 (gd rfl) rfl rfl ?_
        refine g_iastore 46 (gd rfl) rfl (n := 2000) rfl (in_ix i36 rfl) ?_
        have hI45 := inv_sI (q := 183) (j := y32_3.toNatClampNeg) hIc32 rfl (in_w (-2147483648) 2147483647 (in_c (-1) rfl) rfl)
        refine g_iinc 49 (gd rfl) rfl rfl (Nat.le_of_ble_eq_true rfl) (fun z46 e46 => ?_)
        have i46 := in_add 1 2000 e46 i36 (in_c 1 rfl) rfl rfl
        refine g_goto 32 (gd rfl) rfl ?_
        have n32 : ∀ k : Nat, (k : Int) < (z46).toInt → (sI sc32 183 y32_3.toNatClampNeg (Int32.ofInt (-1))).1 183 k = Int32.ofInt (-1) := by first | (intro k hk; exfalso; have h0 : (Int32.ofInt 0).toInt = 0 := rfl; omega) | (intro k hk; rw [sI_q]; unfold upd; have e3 : y32_3.toNatClampNeg = y32_3.toInt.toNat := rfl; by_cases c : k = y32_3.toNatClampNeg; rw [if_pos c]; (rw [if_neg c]; exact g32_0 k (by have a0 := oa7 j32_2 j32_1 ro_109_84 ro_109_20 ro_109_19 i36 i46; have a7 := t_add e46 i36 (in_c 1 rfl) rfl; have a8 := in_u ((in_c 1 rfl)); omega)))
        exact gg_w (by first | exact Nat.le_add_right _ _ | exact gw2 | exact gw3 | exact gwe rfl | exact gwf rfl | exact gwg rfl | exact gwh rfl | omega) (gg_f (gf_cons rfl (gf_cons rfl (gf_cons rfl (gf_cons rfl gf_nil)))) (ih32 (sI sc32 183 y32_3.toNatClampNeg (Int32.ofInt (-1))) z46 hI45 (fr_sI rfl hFc32) (in_w 0 31 j32_1 rfl) (in_w 0 31 j32_2 rfl) (in_w 0 2000 i46 rfl) n32 (m_up mm32 (t_add e46 i36 (in_c 1 rfl) rfl) (in_w 1 1 (in_c 1 rfl) rfl))))
  refine g_enter2 (k := 389) (N := 729367403) (by first | exact dq1 hd rfl | exact dq0 hd rfl | exact dq2 hd rfl | exact dq3 hd rfl | omega) rfl (Nat.le_of_ble_eq_true rfl) ?_
  refine g_aload_n 1 (gd rfl) rfl rfl ?_
  refine g_aload_n 2 (gd rfl) rfl rfl ?_
  refine g_iload_n 3 (gd rfl) rfl rfl ?_
  refine g_callv (X := _) (As := [.int x1]) (r := [.ref (A 109)]) (b := A 109) (q := 109) 6 (gd rfl) rfl rfl rfl rfl rfl (ww_o rfl) (Nat.le_of_ble_eq_true rfl) (mc := 0) (ms := 0) (Nat.zero_le _) (Nat.zero_le _) (P := fun v u => _) ?_ (fun e u h => h) (fun v u h => h)
  intro po3 xx3 hp3 hx3
  refine g_enter2 (k := 272) (N := 300) (by first | exact dq1 hd rfl | exact dq0 hd rfl | exact dq2 hd rfl | exact dq3 hd rfl | omega) rfl (Nat.le_of_ble_eq_true rfl) ?_
  refine g_iload_n 1 (gd rfl) rfl rfl ?_
  refine g_if_lt 4 16 (gd rfl) rfl rfl (fun c3x1 => ?_) (fun c3x1 => ?_)
  · skip
    have i3x1 := z_lt (-2147483648) (-1) c3x1 (i_rng x1) rfl
    refine g_iconst 0 17 (gd rfl) rfl rfl ?_
    refine g_ireturn (gd rfl) rfl (nb01 (in_w 0 1 (in_c 0 rfl) rfl)) (hp3 _ _ ?_)
    show GG _ _ _ _ _ _ _ _ [.int (Int32.ofInt 0), .ref (A 109)] _ _ _
    refine g_if_eq 9 21 (gd rfl) rfl rfl (fun c6 => ?_) (fun c6 => ?_)
    · skip
      refine g_iconst 0 22 (gd rfl) rfl rfl ?_
      refine g_callv (X := _) (As := [.int (Int32.ofInt 0)]) (r := []) (b := A 109) (q := 109) 25 (gd rfl) rfl rfl rfl rfl rfl (ww_o rfl) (Nat.le_of_ble_eq_true rfl) (mc := 0) (ms := 0) (Nat.zero_le _) (Nat.zero_le _) (P := fun v u => _) ?_ (fun e u h => h) (fun v u h => h)
      intro po22 xx22 hp22 hx22
      refine g_enter2 (k := 271) (N := 300) (by first | exact dq1 hd rfl | exact dq0 hd rfl | exact dq2 hd rfl | exact dq3 hd rfl | omega) rfl (Nat.le_of_ble_eq_true rfl) ?_
      refine g_aload_n 1 (gd rfl) rfl rfl ?_
      refine g_iload_n 2 (gd rfl) rfl rfl ?_
      refine g_iconst 1 3 (gd rfl) rfl rfl ?_
      refine g_callv (X := _) (As := [.int (Int32.ofInt 0), .int (Int32.ofInt 1)]) (r := []) (b := A 109) (q := 109) 6 (gd rfl) rfl rfl rfl rfl rfl (ww_o rfl) (Nat.le_of_ble_eq_true rfl) (mc := 0) (ms := 0) (Nat.zero_le _) (Nat.zero_le _) (P := fun v u => _) ?_ (fun e u h => h) (fun v u h => h)
      intro po22x3 xx22x3 hp22x3 hx22x3
      refine g_enter2 (k := 270) (N := 300) (by first | exact dq1 hd rfl | exact dq0 hd rfl | exact dq2 hd rfl | exact dq3 hd rfl | omega) rfl (Nat.le_of_ble_eq_true rfl) ?_
      refine g_aload_n 1 (gd rfl) rfl rfl ?_
      refine g_iload_n 2 (gd rfl) rfl rfl ?_
      refine g_if_ne 5 9 (gd rfl) rfl rfl (fun c22x3x2 => ?_) (fun c22x3x2 => ?_)
      · skip
        exact zn_ne c22x3x2 (in_c 0 rfl) rfl
      · skip
        refine g_iconst 1 6 (gd rfl) rfl rfl ?_
        refine g_goto 18 (gd rfl) rfl ?_
        refine g_putI 21 (gd rfl) rfl rfl rfl rfl ?_
        have hI22x3x18 := inv_sF (q := 109) (j := 0) hI rfl (in_w 0 2 (in_c 1 rfl) rfl)
        refine g_aload_n 22 (gd rfl) rfl rfl ?_
        refine g_getI 25 (gd rfl) rfl rfl rfl (fun z22x3x22 e22x3x22 => ?_)
        have q22x3x22 : (Int32.ofInt 1) = z22x3x22 := (sF_get).trans e22x3x22.symm
        subst q22x3x22
        refine g_if_le 28 32 (gd rfl) rfl rfl (fun c22x3x25 => ?_) (fun c22x3x25 => ?_)
        · skip
          exact zn_le c22x3x25 (in_c 1 rfl) rfl
        · skip
          refine g_iconst 1 29 (gd rfl) rfl rfl ?_
          refine g_goto 33 (gd rfl) rfl ?_
          refine g_ireturn (gd rfl) rfl (nb01 (in_w 0 1 (in_c 1 rfl) rfl)) (hp22x3 _ _ ?_)
          show GG _ _ _ _ _ _ _ _ [.int (Int32.ofInt 1)] _ _ _
          refine g_ireturn (gd rfl) rfl (nb01 (in_w 0 1 (in_c 1 rfl) rfl)) (hp22 _ _ ?_)
          show GG _ _ _ _ _ _ _ _ [.int (Int32.ofInt 1)] _ _ _
          refine g_if_eq 28 30 (gd rfl) rfl rfl (fun c25 => ?_) (fun c25 => ?_)
          · skip
            exact zn_eq c25 (in_c 1 rfl) rfl
          · skip
            refine g_iconst 0 29 (gd rfl) rfl rfl ?_
            exact g_ireturn (gd rfl) rfl rfl (hP _ _ ⟨(sF s 109 0 (Int32.ofInt 1)), hI22x3x18, (fr_sF rfl fr_rf), (Int32.ofInt 0), rfl, rfl, in_w (-2147483648) 2147483647 (in_c 0 rfl) rfl⟩)
    · skip
      exact zn_ne c6 (in_c 0 rfl) rfl
  · skip
    have i3x1 := z_ge 0 2147483647 c3x1 (i_rng x1) rfl
    refine g_iload_n 5 (gd rfl) rfl rfl ?_
    refine g_aload_n 6 (gd rfl) rfl rfl ?_
    refine g_getI 9 (gd rfl) rfl rfl rfl (fun z3x6 e3x6 => ?_)
    have q3x6 : u_109_20 = z3x6 := (e_109_20).trans e3x6.symm
    subst q3x6
    refine g_cmp_ge 12 16 (gd rfl) rfl rfl (fun c3x9 => ?_) (fun c3x9 => ?_)
    · skip
      refine g_iconst 0 17 (gd rfl) rfl rfl ?_
      refine g_ireturn (gd rfl) rfl (nb01 (in_w 0 1 (in_c 0 rfl) rfl)) (hp3 _ _ ?_)
      show GG _ _ _ _ _ _ _ _ [.int (Int32.ofInt 0), .ref (A 109)] _ _ _
      refine g_if_eq 9 21 (gd rfl) rfl rfl (fun c6 => ?_) (fun c6 => ?_)
      · skip
        refine g_iconst 0 22 (gd rfl) rfl rfl ?_
        refine g_callv (X := _) (As := [.int (Int32.ofInt 0)]) (r := []) (b := A 109) (q := 109) 25 (gd rfl) rfl rfl rfl rfl rfl (ww_o rfl) (Nat.le_of_ble_eq_true rfl) (mc := 0) (ms := 0) (Nat.zero_le _) (Nat.zero_le _) (P := fun v u => _) ?_ (fun e u h => h) (fun v u h => h)
        intro po22 xx22 hp22 hx22
        refine g_enter2 (k := 271) (N := 300) (by first | exact dq1 hd rfl | exact dq0 hd rfl | exact dq2 hd rfl | exact dq3 hd rfl | omega) rfl (Nat.le_of_ble_eq_true rfl) ?_
        refine g_aload_n 1 (gd rfl) rfl rfl ?_
        refine g_iload_n 2 (gd rfl) rfl rfl ?_
        refine g_iconst 1 3 (gd rfl) rfl rfl ?_
        refine g_callv (X := _) (As := [.int (Int32.ofInt 0), .int (Int32.ofInt 1)]) (r := []) (b := A 109) (q := 109) 6 (gd rfl) rfl rfl rfl rfl rfl (ww_o rfl) (Nat.le_of_ble_eq_true rfl) (mc := 0) (ms := 0) (Nat.zero_le _) (Nat.zero_le _) (P := fun v u => _) ?_ (fun e u h => h) (fun v u h => h)
        intro po22x3 xx22x3 hp22x3 hx22x3
        refine g_enter2 (k := 270) (N := 300) (by first | exact dq1 hd rfl | exact dq0 hd rfl | exact dq2 hd rfl | exact dq3 hd rfl | omega) rfl (Nat.le_of_ble_eq_true rfl) ?_
        refine g_aload_n 1 (gd rfl) rfl rfl ?_
        refine g_iload_n 2 (gd rfl) rfl rfl ?_
        refine g_if_ne 5 9 (gd rfl) rfl rfl (fun c22x3x2 => ?_) (fun c22x3x2 => ?_)
        · skip
          exact zn_ne c22x3x2 (in_c 0 rfl) rfl
        · skip
          refine g_iconst 1 6 (gd rfl) rfl rfl ?_
          refine g_goto 18 (gd rfl) rfl ?_
          refine g_putI 21 (gd rfl) rfl rfl rfl rfl ?_
          have hI22x3x18 := inv_sF (q := 109) (j := 0) hI rfl (in_w 0 2 (in_c 1 rfl) rfl)
          refine g_aload_n 22 (gd rfl) rfl rfl ?_
          refine g_getI 25 (gd rfl) rfl rfl rfl (fun z22x3x22 e22x3x22 => ?_)
          have q22x3x22 : (Int32.ofInt 1) = z22x3x22 := (sF_get).trans e22x3x22.symm
          subst q22x3x22
          refine g_if_le 28 32 (gd rfl) rfl rfl (fun c22x3x25 => ?_) (fun c22x3x25 => ?_)
          · skip
            exact zn_le c22x3x25 (in_c 1 rfl) rfl
          · skip
            refine g_iconst 1 29 (gd rfl) rfl rfl ?_
            refine g_goto 33 (gd rfl) rfl ?_
            refine g_ireturn (gd rfl) rfl (nb01 (in_w 0 1 (in_c 1 rfl) rfl)) (hp22x3 _ _ ?_)
            show GG _ _ _ _ _ _ _ _ [.int (Int32.ofInt 1)] _ _ _
            refine g_ireturn (gd rfl) rfl (nb01 (in_w 0 1 (in_c 1 rfl) rfl)) (hp22 _ _ ?_)
            show GG _ _ _ _ _ _ _ _ [.int (Int32.ofInt 1)] _ _ _
            refine g_if_eq 28 30 (gd rfl) rfl rfl (fun c25 => ?_) (fun c25 => ?_)
            · skip
              exact zn_eq c25 (in_c 1 rfl) rfl
            · skip
              refine g_iconst 0 29 (gd rfl) rfl rfl ?_
              exact g_ireturn (gd rfl) rfl rfl (hP _ _ ⟨(sF s 109 0 (Int32.ofInt 1)), hI22x3x18, (fr_sF rfl fr_rf), (Int32.ofInt 0), rfl, rfl, in_w (-2147483648) 2147483647 (in_c 0 rfl) rfl⟩)
      · skip
        exact zn_ne c6 (in_c 0 rfl) rfl
    · skip
      have i3x9 := r_lt1 0 31 c3x9 i3x1 ro_109_20 rfl
      have i3x9a := r_lt2 1 32 c3x9 i3x1 ro_109_20 rfl
      refine g_iconst 1 13 (gd rfl) rfl rfl ?_
      refine g_goto 17 (gd rfl) rfl ?_
      refine g_ireturn (gd rfl) rfl (nb01 (in_w 0 1 (in_c 1 rfl) rfl)) (hp3 _ _ ?_)
      show GG _ _ _ _ _ _ _ _ [.int (Int32.ofInt 1), .ref (A 109)] _ _ _
      refine g_if_eq 9 21 (gd rfl) rfl rfl (fun c6 => ?_) (fun c6 => ?_)
      · skip
        exact zn_eq c6 (in_c 1 rfl) rfl
      · skip
        refine g_aload_n 10 (gd rfl) rfl rfl ?_
        refine g_iload_n 11 (gd rfl) rfl rfl ?_
        refine g_callv (X := _) (As := [.int x2]) (r := [.ref (A 109)]) (b := A 109) (q := 109) 14 (gd rfl) rfl rfl rfl rfl rfl (ww_o rfl) (Nat.le_of_ble_eq_true rfl) (mc := 0) (ms := 0) (Nat.zero_le _) (Nat.zero_le _) (P := fun v u => _) ?_ (fun e u h => h) (fun v u h => h)
        intro po11 xx11 hp11 hx11
        refine g_enter2 (k := 272) (N := 300) (by first | exact dq1 hd rfl | exact dq0 hd rfl | exact dq2 hd rfl | exact dq3 hd rfl | omega) rfl (Nat.le_of_ble_eq_true rfl) ?_
        refine g_iload_n 1 (gd rfl) rfl rfl ?_
        refine g_if_lt 4 16 (gd rfl) rfl rfl (fun c11x1 => ?_) (fun c11x1 => ?_)
        · skip
          have i11x1 := z_lt (-2147483648) (-1) c11x1 (i_rng x2) rfl
          refine g_iconst 0 17 (gd rfl) rfl rfl ?_
          refine g_ireturn (gd rfl) rfl (nb01 (in_w 0 1 (in_c 0 rfl) rfl)) (hp11 _ _ ?_)
          show GG _ _ _ _ _ _ _ _ [.int (Int32.ofInt 0), .ref (A 109)] _ _ _
          refine g_if_eq 17 21 (gd rfl) rfl rfl (fun c14 => ?_) (fun c14 => ?_)
          · skip
            refine g_iconst 0 22 (gd rfl) rfl rfl ?_
            refine g_callv (X := _) (As := [.int (Int32.ofInt 0)]) (r := []) (b := A 109) (q := 109) 25 (gd rfl) rfl rfl rfl rfl rfl (ww_o rfl) (Nat.le_of_ble_eq_true rfl) (mc := 0) (ms := 0) (Nat.zero_le _) (Nat.zero_le _) (P := fun v u => _) ?_ (fun e u h => h) (fun v u h => h)
            intro po22 xx22 hp22 hx22
            refine g_enter2 (k := 271) (N := 300) (by first | exact dq1 hd rfl | exact dq0 hd rfl | exact dq2 hd rfl | exact dq3 hd rfl | omega) rfl (Nat.le_of_ble_eq_true rfl) ?_
            refine g_aload_n 1 (gd rfl) rfl rfl ?_
            refine g_iload_n 2 (gd rfl) rfl rfl ?_
            refine g_iconst 1 3 (gd rfl) rfl rfl ?_
            refine g_callv (X := _) (As := [.int (Int32.ofInt 0), .int (Int32.ofInt 1)]) (r := []) (b := A 109) (q := 109) 6 (gd rfl) rfl rfl rfl rfl rfl (ww_o rfl) (Nat.le_of_ble_eq_true rfl) (mc := 0) (ms := 0) (Nat.zero_le _) (Nat.zero_le _) (P := fun v u => _) ?_ (fun e u h => h) (fun v u h => h)
            intro po22x3 xx22x3 hp22x3 hx22x3
            refine g_enter2 (k := 270) (N := 300) (by first | exact dq1 hd rfl | exact dq0 hd rfl | exact dq2 hd rfl | exact dq3 hd rfl | omega) rfl (Nat.le_of_ble_eq_true rfl) ?_
            refine g_aload_n 1 (gd rfl) rfl rfl ?_
            refine g_iload_n 2 (gd rfl) rfl rfl ?_
            refine g_if_ne 5 9 (gd rfl) rfl rfl (fun c22x3x2 => ?_) (fun c22x3x2 => ?_)
            · skip
              exact zn_ne c22x3x2 (in_c 0 rfl) rfl
            · skip
              refine g_iconst 1 6 (gd rfl) rfl rfl ?_
              refine g_goto 18 (gd rfl) rfl ?_
              refine g_putI 21 (gd rfl) rfl rfl rfl rfl ?_
              have hI22x3x18 := inv_sF (q := 109) (j := 0) hI rfl (in_w 0 2 (in_c 1 rfl) rfl)
              refine g_aload_n 22 (gd rfl) rfl rfl ?_
              refine g_getI 25 (gd rfl) rfl rfl rfl (fun z22x3x22 e22x3x22 => ?_)
              have q22x3x22 : (Int32.ofInt 1) = z22x3x22 := (sF_get).trans e22x3x22.symm
              subst q22x3x22
              refine g_if_le 28 32 (gd rfl) rfl rfl (fun c22x3x25 => ?_) (fun c22x3x25 => ?_)
              · skip
                exact zn_le c22x3x25 (in_c 1 rfl) rfl
              · skip
                refine g_iconst 1 29 (gd rfl) rfl rfl ?_
                refine g_goto 33 (gd rfl) rfl ?_
                refine g_ireturn (gd rfl) rfl (nb01 (in_w 0 1 (in_c 1 rfl) rfl)) (hp22x3 _ _ ?_)
                show GG _ _ _ _ _ _ _ _ [.int (Int32.ofInt 1)] _ _ _
                refine g_ireturn (gd rfl) rfl (nb01 (in_w 0 1 (in_c 1 rfl) rfl)) (hp22 _ _ ?_)
                show GG _ _ _ _ _ _ _ _ [.int (Int32.ofInt 1)] _ _ _
                refine g_if_eq 28 30 (gd rfl) rfl rfl (fun c25 => ?_) (fun c25 => ?_)
                · skip
                  exact zn_eq c25 (in_c 1 rfl) rfl
                · skip
                  refine g_iconst 0 29 (gd rfl) rfl rfl ?_
                  exact g_ireturn (gd rfl) rfl rfl (hP _ _ ⟨(sF s 109 0 (Int32.ofInt 1)), hI22x3x18, (fr_sF rfl fr_rf), (Int32.ofInt 0), rfl, rfl, in_w (-2147483648) 2147483647 (in_c 0 rfl) rfl⟩)
          · skip
            exact zn_ne c14 (in_c 0 rfl) rfl
        · skip
          have i11x1 := z_ge 0 2147483647 c11x1 (i_rng x2) rfl
          refine g_iload_n 5 (gd rfl) rfl rfl ?_
          refine g_aload_n 6 (gd rfl) rfl rfl ?_
          refine g_getI 9 (gd rfl) rfl rfl rfl (fun z11x6 e11x6 => ?_)
          have q11x6 : u_109_20 = z11x6 := (e_109_20).trans e11x6.symm
          subst q11x6
          refine g_cmp_ge 12 16 (gd rfl) rfl rfl (fun c11x9 => ?_) (fun c11x9 => ?_)
          · skip
            have i11x9 := r_le2 1 2147483647 c11x9 i3x9a i11x1 rfl
            refine g_iconst 0 17 (gd rfl) rfl rfl ?_
            refine g_ireturn (gd rfl) rfl (nb01 (in_w 0 1 (in_c 0 rfl) rfl)) (hp11 _ _ ?_)
            show GG _ _ _ _ _ _ _ _ [.int (Int32.ofInt 0), .ref (A 109)] _ _ _
            refine g_if_eq 17 21 (gd rfl) rfl rfl (fun c14 => ?_) (fun c14 => ?_)
            · skip
              refine g_iconst 0 22 (gd rfl) rfl rfl ?_
              refine g_callv (X := _) (As := [.int (Int32.ofInt 0)]) (r := []) (b := A 109) (q := 109) 25 (gd rfl) rfl rfl rfl rfl rfl (ww_o rfl) (Nat.le_of_ble_eq_true rfl) (mc := 0) (ms := 0) (Nat.zero_le _) (Nat.zero_le _) (P := fun v u => _) ?_ (fun e u h => h) (fun v u h => h)
              intro po22 xx22 hp22 hx22
              refine g_enter2 (k := 271) (N := 300) (by first | exact dq1 hd rfl | exact dq0 hd rfl | exact dq2 hd rfl | exact dq3 hd rfl | omega) rfl (Nat.le_of_ble_eq_true rfl) ?_
              refine g_aload_n 1 (gd rfl) rfl rfl ?_
              refine g_iload_n 2 (gd rfl) rfl rfl ?_
              refine g_iconst 1 3 (gd rfl) rfl rfl ?_
              refine g_callv (X := _) (As := [.int (Int32.ofInt 0), .int (Int32.ofInt 1)]) (r := []) (b := A 109) (q := 109) 6 (gd rfl) rfl rfl rfl rfl rfl (ww_o rfl) (Nat.le_of_ble_eq_true rfl) (mc := 0) (ms := 0) (Nat.zero_le _) (Nat.zero_le _) (P := fun v u => _) ?_ (fun e u h => h) (fun v u h => h)
              intro po22x3 xx22x3 hp22x3 hx22x3
              refine g_enter2 (k := 270) (N := 300) (by first | exact dq1 hd rfl | exact dq0 hd rfl | exact dq2 hd rfl | exact dq3 hd rfl | omega) rfl (Nat.le_of_ble_eq_true rfl) ?_
              refine g_aload_n 1 (gd rfl) rfl rfl ?_
              refine g_iload_n 2 (gd rfl) rfl rfl ?_
              refine g_if_ne 5 9 (gd rfl) rfl rfl (fun c22x3x2 => ?_) (fun c22x3x2 => ?_)
              · skip
                exact zn_ne c22x3x2 (in_c 0 rfl) rfl
              · skip
                refine g_iconst 1 6 (gd rfl) rfl rfl ?_
                refine g_goto 18 (gd rfl) rfl ?_
                refine g_putI 21 (gd rfl) rfl rfl rfl rfl ?_
                have hI22x3x18 := inv_sF (q := 109) (j := 0) hI rfl (in_w 0 2 (in_c 1 rfl) rfl)
                refine g_aload_n 22 (gd rfl) rfl rfl ?_
                refine g_getI 25 (gd rfl) rfl rfl rfl (fun z22x3x22 e22x3x22 => ?_)
                have q22x3x22 : (Int32.ofInt 1) = z22x3x22 := (sF_get).trans e22x3x22.symm
                subst q22x3x22
                refine g_if_le 28 32 (gd rfl) rfl rfl (fun c22x3x25 => ?_) (fun c22x3x25 => ?_)
                · skip
                  exact zn_le c22x3x25 (in_c 1 rfl) rfl
                · skip
                  refine g_iconst 1 29 (gd rfl) rfl rfl ?_
                  refine g_goto 33 (gd rfl) rfl ?_
                  refine g_ireturn (gd rfl) rfl (nb01 (in_w 0 1 (in_c 1 rfl) rfl)) (hp22x3 _ _ ?_)
                  show GG _ _ _ _ _ _ _ _ [.int (Int32.ofInt 1)] _ _ _
                  refine g_ireturn (gd rfl) rfl (nb01 (in_w 0 1 (in_c 1 rfl) rfl)) (hp22 _ _ ?_)
                  show GG _ _ _ _ _ _ _ _ [.int (Int32.ofInt 1)] _ _ _
                  refine g_if_eq 28 30 (gd rfl) rfl rfl (fun c25 => ?_) (fun c25 => ?_)
                  · skip
                    exact zn_eq c25 (in_c 1 rfl) rfl
                  · skip
                    refine g_iconst 0 29 (gd rfl) rfl rfl ?_
                    exact g_ireturn (gd rfl) rfl rfl (hP _ _ ⟨(sF s 109 0 (Int32.ofInt 1)), hI22x3x18, (fr_sF rfl fr_rf), (Int32.ofInt 0), rfl, rfl, in_w (-2147483648) 2147483647 (in_c 0 rfl) rfl⟩)
            · skip
              exact zn_ne c14 (in_c 0 rfl) rfl
          · skip
            have i11x9 := r_lt1 0 31 c11x9 i11x1 i3x9a rfl
            refine g_iconst 1 13 (gd rfl) rfl rfl ?_
            refine g_goto 17 (gd rfl) rfl ?_
            refine g_ireturn (gd rfl) rfl (nb01 (in_w 0 1 (in_c 1 rfl) rfl)) (hp11 _ _ ?_)
            show GG _ _ _ _ _ _ _ _ [.int (Int32.ofInt 1), .ref (A 109)] _ _ _
            refine g_if_eq 17 21 (gd rfl) rfl rfl (fun c14 => ?_) (fun c14 => ?_)
            · skip
              exact zn_eq c14 (in_c 1 rfl) rfl
            · skip
              refine g_iconst 1 18 (gd rfl) rfl rfl ?_
              refine g_goto 22 (gd rfl) rfl ?_
              refine g_callv (X := _) (As := [.int (Int32.ofInt 1)]) (r := []) (b := A 109) (q := 109) 25 (gd rfl) rfl rfl rfl rfl rfl (ww_o rfl) (Nat.le_of_ble_eq_true rfl) (mc := 0) (ms := 0) (Nat.zero_le _) (Nat.zero_le _) (P := fun v u => _) ?_ (fun e u h => h) (fun v u h => h)
              intro po22 xx22 hp22 hx22
              refine g_enter2 (k := 271) (N := 300) (by first | exact dq1 hd rfl | exact dq0 hd rfl | exact dq2 hd rfl | exact dq3 hd rfl | omega) rfl (Nat.le_of_ble_eq_true rfl) ?_
              refine g_aload_n 1 (gd rfl) rfl rfl ?_
              refine g_iload_n 2 (gd rfl) rfl rfl ?_
              refine g_iconst 1 3 (gd rfl) rfl rfl ?_
              refine g_callv (X := _) (As := [.int (Int32.ofInt 1), .int (Int32.ofInt 1)]) (r := []) (b := A 109) (q := 109) 6 (gd rfl) rfl rfl rfl rfl rfl (ww_o rfl) (Nat.le_of_ble_eq_true rfl) (mc := 0) (ms := 0) (Nat.zero_le _) (Nat.zero_le _) (P := fun v u => _) ?_ (fun e u h => h) (fun v u h => h)
              intro po22x3 xx22x3 hp22x3 hx22x3
              refine g_enter2 (k := 270) (N := 300) (by first | exact dq1 hd rfl | exact dq0 hd rfl | exact dq2 hd rfl | exact dq3 hd rfl | omega) rfl (Nat.le_of_ble_eq_true rfl) ?_
              refine g_aload_n 1 (gd rfl) rfl rfl ?_
              refine g_iload_n 2 (gd rfl) rfl rfl ?_
              refine g_if_ne 5 9 (gd rfl) rfl rfl (fun c22x3x2 => ?_) (fun c22x3x2 => ?_)
              · skip
                refine g_iload_n 10 (gd rfl) rfl rfl ?_
                refine g_if_ne 13 17 (gd rfl) rfl rfl (fun c22x3x10 => ?_) (fun c22x3x10 => ?_)
                · skip
                  refine g_iconst 0 18 (gd rfl) rfl rfl ?_
                  refine g_putI 21 (gd rfl) rfl rfl rfl rfl ?_
                  have hI22x3x18 := inv_sF (q := 109) (j := 0) hI rfl (in_w 0 2 (in_c 0 rfl) rfl)
                  refine g_aload_n 22 (gd rfl) rfl rfl ?_
                  refine g_getI 25 (gd rfl) rfl rfl rfl (fun z22x3x22 e22x3x22 => ?_)
                  have q22x3x22 : (Int32.ofInt 0) = z22x3x22 := (sF_get).trans e22x3x22.symm
                  subst q22x3x22
                  refine g_if_le 28 32 (gd rfl) rfl rfl (fun c22x3x25 => ?_) (fun c22x3x25 => ?_)
                  · skip
                    refine g_iconst 0 33 (gd rfl) rfl rfl ?_
                    refine g_ireturn (gd rfl) rfl (nb01 (in_w 0 1 (in_c 0 rfl) rfl)) (hp22x3 _ _ ?_)
                    show GG _ _ _ _ _ _ _ _ [.int (Int32.ofInt 0)] _ _ _
                    refine g_ireturn (gd rfl) rfl (nb01 (in_w 0 1 (in_c 0 rfl) rfl)) (hp22 _ _ ?_)
                    show GG _ _ _ _ _ _ _ _ [.int (Int32.ofInt 0)] _ _ _
                    refine g_if_eq 28 30 (gd rfl) rfl rfl (fun c25 => ?_) (fun c25 => ?_)
                    · skip
                      refine g_iconst 0 31 (gd rfl) rfl rfl ?_
                      refine g_istore_n 32 (gd rfl) rfl (Nat.le_of_ble_eq_true rfl) ?_
                      have n32 : ∀ k : Nat, (k : Int) < ((Int32.ofInt 0)).toInt → (sF s 109 0 (Int32.ofInt 0)).1 183 k = Int32.ofInt (-1) := by first | (intro k hk; exfalso; have h0 : (Int32.ofInt 0).toInt = 0 := rfl; omega) | (intro k hk; rw [sI_q]; unfold upd; have e3 : y32_3.toNatClampNeg = y32_3.toInt.toNat := rfl; by_cases c : k = y32_3.toNatClampNeg; rw [if_pos c]; (rw [if_neg c]; exact g32_0 k (by have a0 := oa6 i11x9 i3x9 ro_109_84 i3x9a ro_109_19 ((in_c 0 rfl)); omega)))
                      exact gg_w (by first | exact Nat.le_of_ble_eq_true rfl | omega) (gg_f (gf_cons rfl (gf_cons rfl (gf_cons rfl (gf_cons rfl gf_nil)))) (ct32 2001 (sF s 109 0 (Int32.ofInt 0)) (Int32.ofInt 0) hI22x3x18 (fr_sF rfl fr_rf) (in_w 0 31 i3x9 rfl) (in_w 0 31 i11x9 rfl) (in_w 0 2000 (in_c 0 rfl) rfl) n32 (m_in 2001 (in_w 0 2000 (in_c 0 rfl) rfl) rfl)))
                    · skip
                      exact zn_ne c25 (in_c 0 rfl) rfl
                  · skip
                    exact zn_gt c22x3x25 (in_c 0 rfl) rfl
                · skip
                  exact zn_eq c22x3x10 (in_c 1 rfl) rfl
              · skip
                exact zn_eq c22x3x2 (in_c 1 rfl) rfl
end
section
/-! methods, by vc.py -/
def fm_392 : FM := ([], [], [(109, 23), (109, 24), (109, 27), (109, 28), (109, 29), (109, 30)], [(109, 31)])
/-- GraphHouseModel.nextOfProgram -/
theorem k_392 {Z : AmZ} {A : Nat → Nat} {s : GS} {ex : va_W} {d : Nat} {X : AmX} {u_109_27 : Int32} {u_109_22 : Int32} (hd : 4 ≤ d) (hI : Inv s) (e_109_27 : u_109_27 = s.2.2.1 109 27) (e_109_22 : u_109_22 = s.2.2.1 109 22) (p_0 : (u_109_27).toInt ≤ (u_109_22).toInt) : GC Z d 392 [.ref (A 109)] (WW Z A s ++ ex) 0 0 (fun v u => ∃ t : GS, Inv t ∧ Fr fm_392 s t ∧ ((t.2.2.1 109 27).toInt ≤ (t.2.2.1 109 22).toInt) ∧ ((s.2.2.1 109 27).toInt ≤ (t.2.2.1 109 27).toInt) ∧ ((t.2.2.1 109 28).toInt ≠ 0 → (s.2.2.1 109 27).toInt + 1 ≤ (t.2.2.1 109 27).toInt) ∧ v = none ∧ u = WW Z A t ++ ex) X := by
  intro post xp hP hX
  have ro_109_22 := inv_F hI 0 1000 rfl e_109_22
  have ct0 : ∀ (k0 : Nat) (sc0 : GS) (w0_109_27 : Int32), Inv sc0 → Fr fm_392 s sc0 → (w0_109_27 = sc0.2.2.1 109 27) → ((w0_109_27).toInt ≤ (u_109_22).toInt) → ((u_109_27).toInt ≤ (w0_109_27).toInt) → (u_109_22).toInt - (w0_109_27).toInt < (k0 : Int) → GG Z (d - 1) 392 post (gx xp) (1 + k0 * 900) 0 (fun j => xlook j [(0, .ref (A 109))]) [] (WW Z A sc0 ++ ex) 0 0 := by
    intro k0
    induction k0 with
    | zero => intro sc0 w0_109_27 hIc0 hFc0 v0_109_27 n0_0 n0_1 mm0; exfalso; have a0 := oa2 ro_109_22 ((inv_F hIc0 0 1000 rfl v0_109_27)); omega
    | succ k0 ih0 =>
      intro sc0 w0_109_27 hIc0 hFc0 v0_109_27 n0_0 n0_1 mm0
      refine gg_w (M := 1 + k0 * 900 + 900) gws ?_
      refine g_aload_n 1 (gd rfl) rfl rfl ?_
      refine g_getI 4 (gd rfl) rfl rfl rfl (fun z1 e1 => ?_)
      have q1 : w0_109_27 = z1 := (v0_109_27).trans e1.symm
      subst q1
      refine g_aload_n 5 (gd rfl) rfl rfl ?_
      refine g_getI 8 (gd rfl) rfl rfl rfl (fun z5 e5 => ?_)
      have q5 : u_109_22 = z5 := (fr_F e_109_22 hFc0 rfl).trans e5.symm
      subst q5
      refine g_cmp_ge 11 38 (gd rfl) rfl rfl (fun c8 => ?_) (fun c8 => ?_)
      · skip
        refine g_aload_n 39 (gd rfl) rfl rfl ?_
        refine g_aload_n 40 (gd rfl) rfl rfl ?_
        refine g_getI 43 (gd rfl) rfl rfl rfl (fun z40 e40 => ?_)
        have q40 : w0_109_27 = z40 := (v0_109_27).trans e40.symm
        subst q40
        refine g_putI 46 (gd rfl) rfl rfl rfl rfl ?_
        have hI43 := inv_sF (q := 109) (j := 29) hIc0 rfl (in_w 0 1000 (inv_F hIc0 0 1000 rfl v0_109_27) rfl)
        refine g_aload_n 47 (gd rfl) rfl rfl ?_
        refine g_getI 50 (gd rfl) rfl rfl rfl (fun z47 e47 => ?_)
        have q47 : w0_109_27 = z47 := (sF_ne rfl (v0_109_27)).trans e47.symm
        subst q47
        refine g_aload_n 51 (gd rfl) rfl rfl ?_
        refine g_getI 54 (gd rfl) rfl rfl rfl (fun z51 e51 => ?_)
        have q51 : u_109_22 = z51 := (sF_ne rfl (fr_F e_109_22 hFc0 rfl)).trans e51.symm
        subst q51
        refine g_cmp_ne 57 63 (gd rfl) rfl rfl (fun c54 => ?_) (fun c54 => ?_)
        · skip
          refine g_aload_n 64 (gd rfl) rfl rfl ?_
          refine g_getA (q2 := 125) 67 (gd rfl) rfl rfl rfl rfl ?_
          refine g_aload_n 68 (gd rfl) rfl rfl ?_
          refine g_getI 71 (gd rfl) rfl rfl rfl (fun z68 e68 => ?_)
          have q68 : w0_109_27 = z68 := (sF_ne rfl (v0_109_27)).trans e68.symm
          subst q68
          have i71 : In w0_109_27 0 999 := by have a0 := oa2 ro_109_22 ((inv_F hIc0 0 1000 rfl v0_109_27)); exact ⟨by omega, by omega⟩
          refine g_iaload 72 (gd rfl) rfl (n := 1000) rfl (in_ix i71 rfl) (fun z71 e71 => ?_)
          have i71a := inv_I hI43 (n := 1000) (t := 0) 0 126 rfl (in_ix i71 rfl) rfl e71
          refine g_istore_n 73 (gd rfl) rfl (Nat.le_of_ble_eq_true rfl) ?_
          refine g_aload_n 74 (gd rfl) rfl rfl ?_
          refine g_iload_n 75 (gd rfl) rfl rfl ?_
          refine g_putI 78 (gd rfl) rfl rfl rfl rfl ?_
          have hI75 := inv_sF (q := 109) (j := 30) hI43 rfl (in_w (-2147483648) 2147483647 i71a rfl)
          refine g_iload_n 79 (gd rfl) rfl rfl ?_
          refine g_calls (As := [.int z71]) (r := []) 82 (gd rfl) rfl rfl rfl rfl rfl (Nat.le_of_ble_eq_true rfl) (mc := 0) (ms := 0) (Nat.zero_le _) (Nat.zero_le _) (P := fun v u => _) ?_ (fun v u h => h)
          intro po79 xx79 hp79 hx79
          refine g_enter2 (k := 297) (N := 300) (by first | exact dq1 hd rfl | exact dq0 hd rfl | exact dq2 hd rfl | exact dq3 hd rfl | omega) rfl (Nat.le_of_ble_eq_true rfl) ?_
          refine g_iload_n 1 (gd rfl) rfl rfl ?_
          refine g_bipush 48 3 (gd rfl) rfl rfl ?_
          refine g_cmp_lt 6 16 (gd rfl) rfl rfl (fun c79x3 => ?_) (fun c79x3 => ?_)
          · skip
            have i79x3 := r_lt1 0 47 c79x3 i71a (in_c 48 rfl) rfl
            refine g_iconst 0 17 (gd rfl) rfl rfl ?_
            refine g_ireturn (gd rfl) rfl (nb01 (in_w 0 1 (in_c 0 rfl) rfl)) (hp79 _ _ ?_)
            show GG _ _ _ _ _ _ _ _ [.int (Int32.ofInt 0)] _ _ _
            refine g_if_eq 85 97 (gd rfl) rfl rfl (fun c82 => ?_) (fun c82 => ?_)
            · skip
              refine g_aload_n 98 (gd rfl) rfl rfl ?_
              refine g_iload_n 99 (gd rfl) rfl rfl ?_
              refine g_calls (As := [.int z71]) (r := [.ref (A 109)]) 102 (gd rfl) rfl rfl rfl rfl rfl (Nat.le_of_ble_eq_true rfl) (mc := 0) (ms := 0) (Nat.zero_le _) (Nat.zero_le _) (P := fun v u => _) ?_ (fun v u h => h)
              intro po99 xx99 hp99 hx99
              refine g_enter2 (k := 296) (N := 300) (by first | exact dq1 hd rfl | exact dq0 hd rfl | exact dq2 hd rfl | exact dq3 hd rfl | omega) rfl (Nat.le_of_ble_eq_true rfl) ?_
              refine g_iload_n 1 (gd rfl) rfl rfl ?_
              refine g_bipush 97 3 (gd rfl) rfl rfl ?_
              refine g_cmp_lt 6 16 (gd rfl) rfl rfl (fun c99x3 => ?_) (fun c99x3 => ?_)
              · skip
                refine g_iconst 0 17 (gd rfl) rfl rfl ?_
                refine g_ireturn (gd rfl) rfl (nb01 (in_w 0 1 (in_c 0 rfl) rfl)) (hp99 _ _ ?_)
                show GG _ _ _ _ _ _ _ _ [.int (Int32.ofInt 0), .ref (A 109)] _ _ _
                refine g_if_eq 105 109 (gd rfl) rfl rfl (fun c102 => ?_) (fun c102 => ?_)
                · skip
                  refine g_iconst 3 110 (gd rfl) rfl rfl ?_
                  refine g_putI 113 (gd rfl) rfl rfl rfl rfl ?_
                  have hI110 := inv_sF (q := 109) (j := 28) hI75 rfl (in_w (-2147483648) 2147483647 (in_c 3 rfl) rfl)
                  refine g_aload_n 114 (gd rfl) rfl rfl ?_
                  refine g_dup 115 (gd rfl) rfl rfl ?_
                  refine g_getI 118 (gd rfl) rfl rfl rfl (fun z115 e115 => ?_)
                  have q115 : w0_109_27 = z115 := (sF_ne rfl (sF_ne rfl (sF_ne rfl (v0_109_27)))).trans e115.symm
                  subst q115
                  refine g_iconst 1 119 (gd rfl) rfl rfl ?_
                  refine g_iadd 120 (gd rfl) rfl (fun z119 e119 => ?_)
                  have i119 := in_add 1 1000 e119 i71 (in_c 1 rfl) rfl rfl
                  refine g_putI 123 (gd rfl) rfl rfl rfl rfl ?_
                  have hI120 := inv_sF (q := 109) (j := 27) hI110 rfl (in_w 0 1000 i119 rfl)
                  refine g_iload_n 124 (gd rfl) rfl rfl ?_
                  refine g_bipush 59 126 (gd rfl) rfl rfl ?_
                  refine g_cmp_eq 129 171 (gd rfl) rfl rfl (fun c126 => ?_) (fun c126 => ?_)
                  · skip
                    exact n_eq c126 i79x3 (in_c 59 rfl) rfl
                  · skip
                    refine g_iload_n 130 (gd rfl) rfl rfl ?_
                    refine g_bipush 60 132 (gd rfl) rfl rfl ?_
                    refine g_cmp_eq 135 171 (gd rfl) rfl rfl (fun c132 => ?_) (fun c132 => ?_)
                    · skip
                      exact n_eq c132 i79x3 (in_c 60 rfl) rfl
                    · skip
                      refine g_iload_n 136 (gd rfl) rfl rfl ?_
                      refine g_bipush 61 138 (gd rfl) rfl rfl ?_
                      refine g_cmp_eq 141 171 (gd rfl) rfl rfl (fun c138 => ?_) (fun c138 => ?_)
                      · skip
                        exact n_eq c138 i79x3 (in_c 61 rfl) rfl
                      · skip
                        refine g_iload_n 142 (gd rfl) rfl rfl ?_
                        refine g_bipush 43 144 (gd rfl) rfl rfl ?_
                        refine g_cmp_eq 147 171 (gd rfl) rfl rfl (fun c144 => ?_) (fun c144 => ?_)
                        · skip
                          have i144 := r_eq1 43 43 c144 i79x3 (in_c 43 rfl) rfl
                          refine g_iconst 1 172 (gd rfl) rfl rfl ?_
                          refine g_goto 176 (gd rfl) rfl ?_
                          refine g_istore_n 177 (gd rfl) rfl (Nat.le_of_ble_eq_true rfl) ?_
                          refine g_aload_n 178 (gd rfl) rfl rfl ?_
                          refine g_getI 181 (gd rfl) rfl rfl rfl (fun z178 e178 => ?_)
                          have q178 : (Int32.ofInt 3) = z178 := (sF_ne rfl (sF_get)).trans e178.symm
                          subst q178
                          refine g_iconst 3 182 (gd rfl) rfl rfl ?_
                          refine g_cmp_ne 185 198 (gd rfl) rfl rfl (fun c182 => ?_) (fun c182 => ?_)
                          · skip
                            exact n_ne c182 (in_c 3 rfl) (in_c 3 rfl) rfl
                          · skip
                            refine g_iload_n 186 (gd rfl) rfl rfl ?_
                            refine g_if_ne 189 198 (gd rfl) rfl rfl (fun c186 => ?_) (fun c186 => ?_)
                            · skip
                              have n198 : (z119).toInt ≤ (u_109_22).toInt := by have a0 := oa5 ro_109_22 i71 ((in_c 1 rfl)) i144 i119; have a5 := t_add e119 i71 (in_c 1 rfl) rfl; have a6 := in_u ((in_c 3 rfl)); omega
                              have n198a : ((sF (sF (sF (sF sc0 109 29 w0_109_27) 109 30 z71) 109 28 (Int32.ofInt 3)) 109 27 z119).2.2.1 109 27).toInt ≤ ((sF (sF (sF (sF sc0 109 29 w0_109_27) 109 30 z71) 109 28 (Int32.ofInt 3)) 109 27 z119).2.2.1 109 22).toInt := by have b0 : z119 = (sF (sF (sF (sF sc0 109 29 w0_109_27) 109 30 z71) 109 28 (Int32.ofInt 3)) 109 27 z119).2.2.1 109 27 := sF_get; have b1 : u_109_22 = (sF (sF (sF (sF sc0 109 29 w0_109_27) 109 30 z71) 109 28 (Int32.ofInt 3)) 109 27 z119).2.2.1 109 22 := sF_ne rfl (sF_ne rfl (sF_ne rfl (sF_ne rfl (fr_F e_109_22 hFc0 rfl)))); rw [← b0, ← b1]; exact n198
                              have n198b : (u_109_27).toInt ≤ (z119).toInt := by have a0 := oa5 ro_109_22 i71 ((in_c 1 rfl)) i144 i119; have a5 := t_add e119 i71 (in_c 1 rfl) rfl; have a6 := in_u ((in_c 3 rfl)); omega
                              have n198c : (s.2.2.1 109 27).toInt ≤ ((sF (sF (sF (sF sc0 109 29 w0_109_27) 109 30 z71) 109 28 (Int32.ofInt 3)) 109 27 z119).2.2.1 109 27).toInt := by have b0 : z119 = (sF (sF (sF (sF sc0 109 29 w0_109_27) 109 30 z71) 109 28 (Int32.ofInt 3)) 109 27 z119).2.2.1 109 27 := sF_get; first | (rw [← b0, ← e_109_27]; exact n198b) | (rw [← b0]; exact n198b)
                              have n198d : ((Int32.ofInt 3)).toInt ≠ 0 → (u_109_27).toInt + 1 ≤ (z119).toInt := by have a0 := oa5 ro_109_22 i71 ((in_c 1 rfl)) i144 i119; have a5 := t_add e119 i71 (in_c 1 rfl) rfl; have a6 := in_u ((in_c 3 rfl)); omega
                              have n198e : ((sF (sF (sF (sF sc0 109 29 w0_109_27) 109 30 z71) 109 28 (Int32.ofInt 3)) 109 27 z119).2.2.1 109 28).toInt ≠ 0 → (s.2.2.1 109 27).toInt + 1 ≤ ((sF (sF (sF (sF sc0 109 29 w0_109_27) 109 30 z71) 109 28 (Int32.ofInt 3)) 109 27 z119).2.2.1 109 27).toInt := by have b0 : (Int32.ofInt 3) = (sF (sF (sF (sF sc0 109 29 w0_109_27) 109 30 z71) 109 28 (Int32.ofInt 3)) 109 27 z119).2.2.1 109 28 := sF_ne rfl (sF_get); have b1 : z119 = (sF (sF (sF (sF sc0 109 29 w0_109_27) 109 30 z71) 109 28 (Int32.ofInt 3)) 109 27 z119).2.2.1 109 27 := sF_get; first | (rw [← b0, ← b1, ← e_109_27]; exact n198d) | (rw [← b0, ← b1]; exact n198d)
                              exact g_return (gd rfl) rfl (hP _ _ ⟨(sF (sF (sF (sF sc0 109 29 w0_109_27) 109 30 z71) 109 28 (Int32.ofInt 3)) 109 27 z119), hI120, (fr_sF rfl (fr_sF rfl (fr_sF rfl (fr_sF rfl hFc0)))), n198a, n198c, n198e, rfl, rfl⟩)
                            · skip
                              exact zn_eq c186 (in_c 1 rfl) rfl
                        · skip
                          refine g_iload_n 148 (gd rfl) rfl rfl ?_
                          refine g_bipush 45 150 (gd rfl) rfl rfl ?_
                          refine g_cmp_eq 153 171 (gd rfl) rfl rfl (fun c150 => ?_) (fun c150 => ?_)
                          · skip
                            have i150 := r_eq1 45 45 c150 i79x3 (in_c 45 rfl) rfl
                            refine g_iconst 1 172 (gd rfl) rfl rfl ?_
                            refine g_goto 176 (gd rfl) rfl ?_
                            refine g_istore_n 177 (gd rfl) rfl (Nat.le_of_ble_eq_true rfl) ?_
                            refine g_aload_n 178 (gd rfl) rfl rfl ?_
                            refine g_getI 181 (gd rfl) rfl rfl rfl (fun z178 e178 => ?_)
                            have q178 : (Int32.ofInt 3) = z178 := (sF_ne rfl (sF_get)).trans e178.symm
                            subst q178
                            refine g_iconst 3 182 (gd rfl) rfl rfl ?_
                            refine g_cmp_ne 185 198 (gd rfl) rfl rfl (fun c182 => ?_) (fun c182 => ?_)
                            · skip
                              exact n_ne c182 (in_c 3 rfl) (in_c 3 rfl) rfl
                            · skip
                              refine g_iload_n 186 (gd rfl) rfl rfl ?_
                              refine g_if_ne 189 198 (gd rfl) rfl rfl (fun c186 => ?_) (fun c186 => ?_)
                              · skip
                                have n198 : (z119).toInt ≤ (u_109_22).toInt := by have a0 := oa5 ro_109_22 i71 ((in_c 1 rfl)) i150 i119; have a5 := t_add e119 i71 (in_c 1 rfl) rfl; have a6 := in_u ((in_c 3 rfl)); omega
                                have n198a : ((sF (sF (sF (sF sc0 109 29 w0_109_27) 109 30 z71) 109 28 (Int32.ofInt 3)) 109 27 z119).2.2.1 109 27).toInt ≤ ((sF (sF (sF (sF sc0 109 29 w0_109_27) 109 30 z71) 109 28 (Int32.ofInt 3)) 109 27 z119).2.2.1 109 22).toInt := by have b0 : z119 = (sF (sF (sF (sF sc0 109 29 w0_109_27) 109 30 z71) 109 28 (Int32.ofInt 3)) 109 27 z119).2.2.1 109 27 := sF_get; have b1 : u_109_22 = (sF (sF (sF (sF sc0 109 29 w0_109_27) 109 30 z71) 109 28 (Int32.ofInt 3)) 109 27 z119).2.2.1 109 22 := sF_ne rfl (sF_ne rfl (sF_ne rfl (sF_ne rfl (fr_F e_109_22 hFc0 rfl)))); rw [← b0, ← b1]; exact n198
                                have n198b : (u_109_27).toInt ≤ (z119).toInt := by have a0 := oa5 ro_109_22 i71 ((in_c 1 rfl)) i150 i119; have a5 := t_add e119 i71 (in_c 1 rfl) rfl; have a6 := in_u ((in_c 3 rfl)); omega
                                have n198c : (s.2.2.1 109 27).toInt ≤ ((sF (sF (sF (sF sc0 109 29 w0_109_27) 109 30 z71) 109 28 (Int32.ofInt 3)) 109 27 z119).2.2.1 109 27).toInt := by have b0 : z119 = (sF (sF (sF (sF sc0 109 29 w0_109_27) 109 30 z71) 109 28 (Int32.ofInt 3)) 109 27 z119).2.2.1 109 27 := sF_get; first | (rw [← b0, ← e_109_27]; exact n198b) | (rw [← b0]; exact n198b)
                                have n198d : ((Int32.ofInt 3)).toInt ≠ 0 → (u_109_27).toInt + 1 ≤ (z119).toInt := by have a0 := oa5 ro_109_22 i71 ((in_c 1 rfl)) i150 i119; have a5 := t_add e119 i71 (in_c 1 rfl) rfl; have a6 := in_u ((in_c 3 rfl)); omega
                                have n198e : ((sF (sF (sF (sF sc0 109 29 w0_109_27) 109 30 z71) 109 28 (Int32.ofInt 3)) 109 27 z119).2.2.1 109 28).toInt ≠ 0 → (s.2.2.1 109 27).toInt + 1 ≤ ((sF (sF (sF (sF sc0 109 29 w0_109_27) 109 30 z71) 109 28 (Int32.ofInt 3)) 109 27 z119).2.2.1 109 27).toInt := by have b0 : (Int32.ofInt 3) = (sF (sF (sF (sF sc0 109 29 w0_109_27) 109 30 z71) 109 28 (Int32.ofInt 3)) 109 27 z119).2.2.1 109 28 := sF_ne rfl (sF_get); have b1 : z119 = (sF (sF (sF (sF sc0 109 29 w0_109_27) 109 30 z71) 109 28 (Int32.ofInt 3)) 109 27 z119).2.2.1 109 27 := sF_get; first | (rw [← b0, ← b1, ← e_109_27]; exact n198d) | (rw [← b0, ← b1]; exact n198d)
                                exact g_return (gd rfl) rfl (hP _ _ ⟨(sF (sF (sF (sF sc0 109 29 w0_109_27) 109 30 z71) 109 28 (Int32.ofInt 3)) 109 27 z119), hI120, (fr_sF rfl (fr_sF rfl (fr_sF rfl (fr_sF rfl hFc0)))), n198a, n198c, n198e, rfl, rfl⟩)
                              · skip
                                exact zn_eq c186 (in_c 1 rfl) rfl
                          · skip
                            refine g_iload_n 154 (gd rfl) rfl rfl ?_
                            refine g_bipush 42 156 (gd rfl) rfl rfl ?_
                            refine g_cmp_eq 159 171 (gd rfl) rfl rfl (fun c156 => ?_) (fun c156 => ?_)
                            · skip
                              have i156 := r_eq1 42 42 c156 i79x3 (in_c 42 rfl) rfl
                              refine g_iconst 1 172 (gd rfl) rfl rfl ?_
                              refine g_goto 176 (gd rfl) rfl ?_
                              refine g_istore_n 177 (gd rfl) rfl (Nat.le_of_ble_eq_true rfl) ?_
                              refine g_aload_n 178 (gd rfl) rfl rfl ?_
                              refine g_getI 181 (gd rfl) rfl rfl rfl (fun z178 e178 => ?_)
                              have q178 : (Int32.ofInt 3) = z178 := (sF_ne rfl (sF_get)).trans e178.symm
                              subst q178
                              refine g_iconst 3 182 (gd rfl) rfl rfl ?_
                              refine g_cmp_ne 185 198 (gd rfl) rfl rfl (fun c182 => ?_) (fun c182 => ?_)
                              · skip
                                exact n_ne c182 (in_c 3 rfl) (in_c 3 rfl) rfl
                              · skip
                                refine g_iload_n 186 (gd rfl) rfl rfl ?_
                                refine g_if_ne 189 198 (gd rfl) rfl rfl (fun c186 => ?_) (fun c186 => ?_)
                                · skip
                                  have n198 : (z119).toInt ≤ (u_109_22).toInt := by have a0 := oa5 ro_109_22 i71 ((in_c 1 rfl)) i156 i119; have a5 := t_add e119 i71 (in_c 1 rfl) rfl; have a6 := in_u ((in_c 3 rfl)); omega
                                  have n198a : ((sF (sF (sF (sF sc0 109 29 w0_109_27) 109 30 z71) 109 28 (Int32.ofInt 3)) 109 27 z119).2.2.1 109 27).toInt ≤ ((sF (sF (sF (sF sc0 109 29 w0_109_27) 109 30 z71) 109 28 (Int32.ofInt 3)) 109 27 z119).2.2.1 109 22).toInt := by have b0 : z119 = (sF (sF (sF (sF sc0 109 29 w0_109_27) 109 30 z71) 109 28 (Int32.ofInt 3)) 109 27 z119).2.2.1 109 27 := sF_get; have b1 : u_109_22 = (sF (sF (sF (sF sc0 109 29 w0_109_27) 109 30 z71) 109 28 (Int32.ofInt 3)) 109 27 z119).2.2.1 109 22 := sF_ne rfl (sF_ne rfl (sF_ne rfl (sF_ne rfl (fr_F e_109_22 hFc0 rfl)))); rw [← b0, ← b1]; exact n198
                                  have n198b : (u_109_27).toInt ≤ (z119).toInt := by have a0 := oa5 ro_109_22 i71 ((in_c 1 rfl)) i156 i119; have a5 := t_add e119 i71 (in_c 1 rfl) rfl; have a6 := in_u ((in_c 3 rfl)); omega
                                  have n198c : (s.2.2.1 109 27).toInt ≤ ((sF (sF (sF (sF sc0 109 29 w0_109_27) 109 30 z71) 109 28 (Int32.ofInt 3)) 109 27 z119).2.2.1 109 27).toInt := by have b0 : z119 = (sF (sF (sF (sF sc0 109 29 w0_109_27) 109 30 z71) 109 28 (Int32.ofInt 3)) 109 27 z119).2.2.1 109 27 := sF_get; first | (rw [← b0, ← e_109_27]; exact n198b) | (rw [← b0]; exact n198b)
                                  have n198d : ((Int32.ofInt 3)).toInt ≠ 0 → (u_109_27).toInt + 1 ≤ (z119).toInt := by have a0 := oa5 ro_109_22 i71 ((in_c 1 rfl)) i156 i119; have a5 := t_add e119 i71 (in_c 1 rfl) rfl; have a6 := in_u ((in_c 3 rfl)); omega
                                  have n198e : ((sF (sF (sF (sF sc0 109 29 w0_109_27) 109 30 z71) 109 28 (Int32.ofInt 3)) 109 27 z119).2.2.1 109 28).toInt ≠ 0 → (s.2.2.1 109 27).toInt + 1 ≤ ((sF (sF (sF (sF sc0 109 29 w0_109_27) 109 30 z71) 109 28 (Int32.ofInt 3)) 109 27 z119).2.2.1 109 27).toInt := by have b0 : (Int32.ofInt 3) = (sF (sF (sF (sF sc0 109 29 w0_109_27) 109 30 z71) 109 28 (Int32.ofInt 3)) 109 27 z119).2.2.1 109 28 := sF_ne rfl (sF_get); have b1 : z119 = (sF (sF (sF (sF sc0 109 29 w0_109_27) 109 30 z71) 109 28 (Int32.ofInt 3)) 109 27 z119).2.2.1 109 27 := sF_get; first | (rw [← b0, ← b1, ← e_109_27]; exact n198d) | (rw [← b0, ← b1]; exact n198d)
                                  exact g_return (gd rfl) rfl (hP _ _ ⟨(sF (sF (sF (sF sc0 109 29 w0_109_27) 109 30 z71) 109 28 (Int32.ofInt 3)) 109 27 z119), hI120, (fr_sF rfl (fr_sF rfl (fr_sF rfl (fr_sF rfl hFc0)))), n198a, n198c, n198e, rfl, rfl⟩)
                                · skip
                                  exact zn_eq c186 (in_c 1 rfl) rfl
                            · skip
                              refine g_iload_n 160 (gd rfl) rfl rfl ?_
                              refine g_bipush 40 162 (gd rfl) rfl rfl ?_
                              refine g_cmp_eq 165 171 (gd rfl) rfl rfl (fun c162 => ?_) (fun c162 => ?_)
                              · skip
                                have i162 := r_eq1 40 40 c162 i79x3 (in_c 40 rfl) rfl
                                refine g_iconst 1 172 (gd rfl) rfl rfl ?_
                                refine g_goto 176 (gd rfl) rfl ?_
                                refine g_istore_n 177 (gd rfl) rfl (Nat.le_of_ble_eq_true rfl) ?_
                                refine g_aload_n 178 (gd rfl) rfl rfl ?_
                                refine g_getI 181 (gd rfl) rfl rfl rfl (fun z178 e178 => ?_)
                                have q178 : (Int32.ofInt 3) = z178 := (sF_ne rfl (sF_get)).trans e178.symm
                                subst q178
                                refine g_iconst 3 182 (gd rfl) rfl rfl ?_
                                refine g_cmp_ne 185 198 (gd rfl) rfl rfl (fun c182 => ?_) (fun c182 => ?_)
                                · skip
                                  exact n_ne c182 (in_c 3 rfl) (in_c 3 rfl) rfl
                                · skip
                                  refine g_iload_n 186 (gd rfl) rfl rfl ?_
                                  refine g_if_ne 189 198 (gd rfl) rfl rfl (fun c186 => ?_) (fun c186 => ?_)
                                  · skip
                                    have n198 : (z119).toInt ≤ (u_109_22).toInt := by have a0 := oa5 ro_109_22 i71 ((in_c 1 rfl)) i162 i119; have a5 := t_add e119 i71 (in_c 1 rfl) rfl; have a6 := in_u ((in_c 3 rfl)); omega
                                    have n198a : ((sF (sF (sF (sF sc0 109 29 w0_109_27) 109 30 z71) 109 28 (Int32.ofInt 3)) 109 27 z119).2.2.1 109 27).toInt ≤ ((sF (sF (sF (sF sc0 109 29 w0_109_27) 109 30 z71) 109 28 (Int32.ofInt 3)) 109 27 z119).2.2.1 109 22).toInt := by have b0 : z119 = (sF (sF (sF (sF sc0 109 29 w0_109_27) 109 30 z71) 109 28 (Int32.ofInt 3)) 109 27 z119).2.2.1 109 27 := sF_get; have b1 : u_109_22 = (sF (sF (sF (sF sc0 109 29 w0_109_27) 109 30 z71) 109 28 (Int32.ofInt 3)) 109 27 z119).2.2.1 109 22 := sF_ne rfl (sF_ne rfl (sF_ne rfl (sF_ne rfl (fr_F e_109_22 hFc0 rfl)))); rw [← b0, ← b1]; exact n198
                                    have n198b : (u_109_27).toInt ≤ (z119).toInt := by have a0 := oa5 ro_109_22 i71 ((in_c 1 rfl)) i162 i119; have a5 := t_add e119 i71 (in_c 1 rfl) rfl; have a6 := in_u ((in_c 3 rfl)); omega
                                    have n198c : (s.2.2.1 109 27).toInt ≤ ((sF (sF (sF (sF sc0 109 29 w0_109_27) 109 30 z71) 109 28 (Int32.ofInt 3)) 109 27 z119).2.2.1 109 27).toInt := by have b0 : z119 = (sF (sF (sF (sF sc0 109 29 w0_109_27) 109 30 z71) 109 28 (Int32.ofInt 3)) 109 27 z119).2.2.1 109 27 := sF_get; first | (rw [← b0, ← e_109_27]; exact n198b) | (rw [← b0]; exact n198b)
                                    have n198d : ((Int32.ofInt 3)).toInt ≠ 0 → (u_109_27).toInt + 1 ≤ (z119).toInt := by have a0 := oa5 ro_109_22 i71 ((in_c 1 rfl)) i162 i119; have a5 := t_add e119 i71 (in_c 1 rfl) rfl; have a6 := in_u ((in_c 3 rfl)); omega
                                    have n198e : ((sF (sF (sF (sF sc0 109 29 w0_109_27) 109 30 z71) 109 28 (Int32.ofInt 3)) 109 27 z119).2.2.1 109 28).toInt ≠ 0 → (s.2.2.1 109 27).toInt + 1 ≤ ((sF (sF (sF (sF sc0 109 29 w0_109_27) 109 30 z71) 109 28 (Int32.ofInt 3)) 109 27 z119).2.2.1 109 27).toInt := by have b0 : (Int32.ofInt 3) = (sF (sF (sF (sF sc0 109 29 w0_109_27) 109 30 z71) 109 28 (Int32.ofInt 3)) 109 27 z119).2.2.1 109 28 := sF_ne rfl (sF_get); have b1 : z119 = (sF (sF (sF (sF sc0 109 29 w0_109_27) 109 30 z71) 109 28 (Int32.ofInt 3)) 109 27 z119).2.2.1 109 27 := sF_get; first | (rw [← b0, ← b1, ← e_109_27]; exact n198d) | (rw [← b0, ← b1]; exact n198d)
                                    exact g_return (gd rfl) rfl (hP _ _ ⟨(sF (sF (sF (sF sc0 109 29 w0_109_27) 109 30 z71) 109 28 (Int32.ofInt 3)) 109 27 z119), hI120, (fr_sF rfl (fr_sF rfl (fr_sF rfl (fr_sF rfl hFc0)))), n198a, n198c, n198e, rfl, rfl⟩)
                                  · skip
                                    exact zn_eq c186 (in_c 1 rfl) rfl
                              · skip
                                refine g_iload_n 166 (gd rfl) rfl rfl ?_
                                refine g_bipush 41 168 (gd rfl) rfl rfl ?_
                                refine g_cmp_ne 171 175 (gd rfl) rfl rfl (fun c168 => ?_) (fun c168 => ?_)
                                · skip
                                  refine g_iconst 0 176 (gd rfl) rfl rfl ?_
                                  refine g_istore_n 177 (gd rfl) rfl (Nat.le_of_ble_eq_true rfl) ?_
                                  refine g_aload_n 178 (gd rfl) rfl rfl ?_
                                  refine g_getI 181 (gd rfl) rfl rfl rfl (fun z178 e178 => ?_)
                                  have q178 : (Int32.ofInt 3) = z178 := (sF_ne rfl (sF_get)).trans e178.symm
                                  subst q178
                                  refine g_iconst 3 182 (gd rfl) rfl rfl ?_
                                  refine g_cmp_ne 185 198 (gd rfl) rfl rfl (fun c182 => ?_) (fun c182 => ?_)
                                  · skip
                                    exact n_ne c182 (in_c 3 rfl) (in_c 3 rfl) rfl
                                  · skip
                                    refine g_iload_n 186 (gd rfl) rfl rfl ?_
                                    refine g_if_ne 189 198 (gd rfl) rfl rfl (fun c186 => ?_) (fun c186 => ?_)
                                    · skip
                                      exact zn_ne c186 (in_c 0 rfl) rfl
                                    · skip
                                      refine g_aload_n 190 (gd rfl) rfl rfl ?_
                                      refine g_iconst 1 191 (gd rfl) rfl rfl ?_
                                      refine g_aload_n 192 (gd rfl) rfl rfl ?_
                                      refine g_getI 195 (gd rfl) rfl rfl rfl (fun z192 e192 => ?_)
                                      have q192 : w0_109_27 = z192 := (sF_ne rfl (sF_ne rfl (sF_ne rfl (sF_get)))).trans e192.symm
                                      subst q192
                                      refine g_callv (X := _) (As := [.int (Int32.ofInt 1), .int w0_109_27]) (r := []) (b := A 109) (q := 109) 198 (gd rfl) rfl rfl rfl rfl rfl (ww_o rfl) (Nat.le_of_ble_eq_true rfl) (Nat.zero_le _) (Nat.zero_le _) (k_298 (by first | exact dq1 hd rfl | exact dq0 hd rfl | exact dq2 hd rfl | exact dq3 hd rfl | omega) hI120 (in_w 1 5 (in_c 1 rfl) rfl)) (fun e u h => h) (fun v u h => ?_)
                                      obtain ⟨s195, hI195, hF195, n195, rfl, rfl⟩ := h
                                      obtain ⟨z195a, e195⟩ : ∃ w, w = s195.2.2.1 109 23 := ⟨_, rfl⟩
                                      have i195a := inv_F hI195 0 9 rfl e195
                                      rw [← (show z195a = s195.2.2.1 109 23 from e195)] at n195
                                      show GG _ _ _ _ _ _ _ _ [] _ _ _
                                      have n198 : (z119).toInt ≤ (u_109_22).toInt := by have a0 := oa6 ro_109_22 i71 ((in_c 0 rfl)) i79x3 i195a i119; have a6 := t_add e119 i71 (in_c 1 rfl) rfl; have a7 := oa2 ((in_c 1 rfl)) ((in_c 3 rfl)); omega
                                      have n198a : (s195.2.2.1 109 27).toInt ≤ (s195.2.2.1 109 22).toInt := by have b0 : z119 = s195.2.2.1 109 27 := fr_F (s := (sF (sF (sF (sF sc0 109 29 w0_109_27) 109 30 z71) 109 28 (Int32.ofInt 3)) 109 27 z119)) (sF_get) hF195 rfl; have b1 : u_109_22 = s195.2.2.1 109 22 := fr_F (s := (sF (sF (sF (sF sc0 109 29 w0_109_27) 109 30 z71) 109 28 (Int32.ofInt 3)) 109 27 z119)) (sF_ne rfl (sF_ne rfl (sF_ne rfl (sF_ne rfl (fr_F e_109_22 hFc0 rfl))))) hF195 rfl; rw [← b0, ← b1]; exact n198
                                      have n198b : (u_109_27).toInt ≤ (z119).toInt := by have a0 := oa6 ro_109_22 i71 ((in_c 0 rfl)) i79x3 i195a i119; have a6 := t_add e119 i71 (in_c 1 rfl) rfl; have a7 := oa2 ((in_c 1 rfl)) ((in_c 3 rfl)); omega
                                      have n198c : (s.2.2.1 109 27).toInt ≤ (s195.2.2.1 109 27).toInt := by have b0 : z119 = s195.2.2.1 109 27 := fr_F (s := (sF (sF (sF (sF sc0 109 29 w0_109_27) 109 30 z71) 109 28 (Int32.ofInt 3)) 109 27 z119)) (sF_get) hF195 rfl; first | (rw [← b0, ← e_109_27]; exact n198b) | (rw [← b0]; exact n198b)
                                      have n198d : ((Int32.ofInt 3)).toInt ≠ 0 → (u_109_27).toInt + 1 ≤ (z119).toInt := by have a0 := oa6 ro_109_22 i71 ((in_c 0 rfl)) i79x3 i195a i119; have a6 := t_add e119 i71 (in_c 1 rfl) rfl; have a7 := oa2 ((in_c 1 rfl)) ((in_c 3 rfl)); omega
                                      have n198e : (s195.2.2.1 109 28).toInt ≠ 0 → (s.2.2.1 109 27).toInt + 1 ≤ (s195.2.2.1 109 27).toInt := by have b0 : (Int32.ofInt 3) = s195.2.2.1 109 28 := fr_F (s := (sF (sF (sF (sF sc0 109 29 w0_109_27) 109 30 z71) 109 28 (Int32.ofInt 3)) 109 27 z119)) (sF_ne rfl (sF_get)) hF195 rfl; have b1 : z119 = s195.2.2.1 109 27 := fr_F (s := (sF (sF (sF (sF sc0 109 29 w0_109_27) 109 30 z71) 109 28 (Int32.ofInt 3)) 109 27 z119)) (sF_get) hF195 rfl; first | (rw [← b0, ← b1, ← e_109_27]; exact n198d) | (rw [← b0, ← b1]; exact n198d)
                                      exact g_return (gd rfl) rfl (hP _ _ ⟨s195, hI195, (fr_tr rfl (fr_sF rfl (fr_sF rfl (fr_sF rfl (fr_sF rfl hFc0)))) hF195), n198a, n198c, n198e, rfl, rfl⟩)
                                · skip
                                  have i168 := r_eq1 41 41 c168 i79x3 (in_c 41 rfl) rfl
                                  refine g_iconst 1 172 (gd rfl) rfl rfl ?_
                                  refine g_goto 176 (gd rfl) rfl ?_
                                  refine g_istore_n 177 (gd rfl) rfl (Nat.le_of_ble_eq_true rfl) ?_
                                  refine g_aload_n 178 (gd rfl) rfl rfl ?_
                                  refine g_getI 181 (gd rfl) rfl rfl rfl (fun z178 e178 => ?_)
                                  have q178 : (Int32.ofInt 3) = z178 := (sF_ne rfl (sF_get)).trans e178.symm
                                  subst q178
                                  refine g_iconst 3 182 (gd rfl) rfl rfl ?_
                                  refine g_cmp_ne 185 198 (gd rfl) rfl rfl (fun c182 => ?_) (fun c182 => ?_)
                                  · skip
                                    exact n_ne c182 (in_c 3 rfl) (in_c 3 rfl) rfl
                                  · skip
                                    refine g_iload_n 186 (gd rfl) rfl rfl ?_
                                    refine g_if_ne 189 198 (gd rfl) rfl rfl (fun c186 => ?_) (fun c186 => ?_)
                                    · skip
                                      have n198 : (z119).toInt ≤ (u_109_22).toInt := by have a0 := oa5 ro_109_22 i71 ((in_c 1 rfl)) i168 i119; have a5 := t_add e119 i71 (in_c 1 rfl) rfl; have a6 := in_u ((in_c 3 rfl)); omega
                                      have n198a : ((sF (sF (sF (sF sc0 109 29 w0_109_27) 109 30 z71) 109 28 (Int32.ofInt 3)) 109 27 z119).2.2.1 109 27).toInt ≤ ((sF (sF (sF (sF sc0 109 29 w0_109_27) 109 30 z71) 109 28 (Int32.ofInt 3)) 109 27 z119).2.2.1 109 22).toInt := by have b0 : z119 = (sF (sF (sF (sF sc0 109 29 w0_109_27) 109 30 z71) 109 28 (Int32.ofInt 3)) 109 27 z119).2.2.1 109 27 := sF_get; have b1 : u_109_22 = (sF (sF (sF (sF sc0 109 29 w0_109_27) 109 30 z71) 109 28 (Int32.ofInt 3)) 109 27 z119).2.2.1 109 22 := sF_ne rfl (sF_ne rfl (sF_ne rfl (sF_ne rfl (fr_F e_109_22 hFc0 rfl)))); rw [← b0, ← b1]; exact n198
                                      have n198b : (u_109_27).toInt ≤ (z119).toInt := by have a0 := oa5 ro_109_22 i71 ((in_c 1 rfl)) i168 i119; have a5 := t_add e119 i71 (in_c 1 rfl) rfl; have a6 := in_u ((in_c 3 rfl)); omega
                                      have n198c : (s.2.2.1 109 27).toInt ≤ ((sF (sF (sF (sF sc0 109 29 w0_109_27) 109 30 z71) 109 28 (Int32.ofInt 3)) 109 27 z119).2.2.1 109 27).toInt := by have b0 : z119 = (sF (sF (sF (sF sc0 109 29 w0_109_27) 109 30 z71) 109 28 (Int32.ofInt 3)) 109 27 z119).2.2.1 109 27 := sF_get; first | (rw [← b0, ← e_109_27]; exact n198b) | (rw [← b0]; exact n198b)
                                      have n198d : ((Int32.ofInt 3)).toInt ≠ 0 → (u_109_27).toInt + 1 ≤ (z119).toInt := by have a0 := oa5 ro_109_22 i71 ((in_c 1 rfl)) i168 i119; have a5 := t_add e119 i71 (in_c 1 rfl) rfl; have a6 := in_u ((in_c 3 rfl)); omega
                                      have n198e : ((sF (sF (sF (sF sc0 109 29 w0_109_27) 109 30 z71) 109 28 (Int32.ofInt 3)) 109 27 z119).2.2.1 109 28).toInt ≠ 0 → (s.2.2.1 109 27).toInt + 1 ≤ ((sF (sF (sF (sF sc0 109 29 w0_109_27) 109 30 z71) 109 28 (Int32.ofInt 3)) 109 27 z119).2.2.1 109 27).toInt := by have b0 : (Int32.ofInt 3) = (sF (sF (sF (sF sc0 109 29 w0_109_27) 109 30 z71) 109 28 (Int32.ofInt 3)) 109 27 z119).2.2.1 109 28 := sF_ne rfl (sF_get); have b1 : z119 = (sF (sF (sF (sF sc0 109 29 w0_109_27) 109 30 z71) 109 28 (Int32.ofInt 3)) 109 27 z119).2.2.1 109 27 := sF_get; first | (rw [← b0, ← b1, ← e_109_27]; exact n198d) | (rw [← b0, ← b1]; exact n198d)
                                      exact g_return (gd rfl) rfl (hP _ _ ⟨(sF (sF (sF (sF sc0 109 29 w0_109_27) 109 30 z71) 109 28 (Int32.ofInt 3)) 109 27 z119), hI120, (fr_sF rfl (fr_sF rfl (fr_sF rfl (fr_sF rfl hFc0)))), n198a, n198c, n198e, rfl, rfl⟩)
                                    · skip
                                      exact zn_eq c186 (in_c 1 rfl) rfl
                · skip
                  exact zn_ne c102 (in_c 0 rfl) rfl
              · skip
                exact n_le c99x3 (in_c 97 rfl) i79x3 rfl
            · skip
              exact zn_ne c82 (in_c 0 rfl) rfl
          · skip
            have i79x3 := r_le2 48 126 c79x3 (in_c 48 rfl) i71a rfl
            refine g_iload_n 7 (gd rfl) rfl rfl ?_
            refine g_bipush 57 9 (gd rfl) rfl rfl ?_
            refine g_cmp_gt 12 16 (gd rfl) rfl rfl (fun c79x9 => ?_) (fun c79x9 => ?_)
            · skip
              have i79x9 := r_lt2 58 126 c79x9 (in_c 57 rfl) i79x3 rfl
              refine g_iconst 0 17 (gd rfl) rfl rfl ?_
              refine g_ireturn (gd rfl) rfl (nb01 (in_w 0 1 (in_c 0 rfl) rfl)) (hp79 _ _ ?_)
              show GG _ _ _ _ _ _ _ _ [.int (Int32.ofInt 0)] _ _ _
              refine g_if_eq 85 97 (gd rfl) rfl rfl (fun c82 => ?_) (fun c82 => ?_)
              · skip
                refine g_aload_n 98 (gd rfl) rfl rfl ?_
                refine g_iload_n 99 (gd rfl) rfl rfl ?_
                refine g_calls (As := [.int z71]) (r := [.ref (A 109)]) 102 (gd rfl) rfl rfl rfl rfl rfl (Nat.le_of_ble_eq_true rfl) (mc := 0) (ms := 0) (Nat.zero_le _) (Nat.zero_le _) (P := fun v u => _) ?_ (fun v u h => h)
                intro po99 xx99 hp99 hx99
                refine g_enter2 (k := 296) (N := 300) (by first | exact dq1 hd rfl | exact dq0 hd rfl | exact dq2 hd rfl | exact dq3 hd rfl | omega) rfl (Nat.le_of_ble_eq_true rfl) ?_
                refine g_iload_n 1 (gd rfl) rfl rfl ?_
                refine g_bipush 97 3 (gd rfl) rfl rfl ?_
                refine g_cmp_lt 6 16 (gd rfl) rfl rfl (fun c99x3 => ?_) (fun c99x3 => ?_)
                · skip
                  have i99x3 := r_lt1 58 96 c99x3 i79x9 (in_c 97 rfl) rfl
                  refine g_iconst 0 17 (gd rfl) rfl rfl ?_
                  refine g_ireturn (gd rfl) rfl (nb01 (in_w 0 1 (in_c 0 rfl) rfl)) (hp99 _ _ ?_)
                  show GG _ _ _ _ _ _ _ _ [.int (Int32.ofInt 0), .ref (A 109)] _ _ _
                  refine g_if_eq 105 109 (gd rfl) rfl rfl (fun c102 => ?_) (fun c102 => ?_)
                  · skip
                    refine g_iconst 3 110 (gd rfl) rfl rfl ?_
                    refine g_putI 113 (gd rfl) rfl rfl rfl rfl ?_
                    have hI110 := inv_sF (q := 109) (j := 28) hI75 rfl (in_w (-2147483648) 2147483647 (in_c 3 rfl) rfl)
                    refine g_aload_n 114 (gd rfl) rfl rfl ?_
                    refine g_dup 115 (gd rfl) rfl rfl ?_
                    refine g_getI 118 (gd rfl) rfl rfl rfl (fun z115 e115 => ?_)
                    have q115 : w0_109_27 = z115 := (sF_ne rfl (sF_ne rfl (sF_ne rfl (v0_109_27)))).trans e115.symm
                    subst q115
                    refine g_iconst 1 119 (gd rfl) rfl rfl ?_
                    refine g_iadd 120 (gd rfl) rfl (fun z119 e119 => ?_)
                    have i119 := in_add 1 1000 e119 i71 (in_c 1 rfl) rfl rfl
                    refine g_putI 123 (gd rfl) rfl rfl rfl rfl ?_
                    have hI120 := inv_sF (q := 109) (j := 27) hI110 rfl (in_w 0 1000 i119 rfl)
                    refine g_iload_n 124 (gd rfl) rfl rfl ?_
                    refine g_bipush 59 126 (gd rfl) rfl rfl ?_
                    refine g_cmp_eq 129 171 (gd rfl) rfl rfl (fun c126 => ?_) (fun c126 => ?_)
                    · skip
                      have i126 := r_eq1 59 59 c126 i99x3 (in_c 59 rfl) rfl
                      refine g_iconst 1 172 (gd rfl) rfl rfl ?_
                      refine g_goto 176 (gd rfl) rfl ?_
                      refine g_istore_n 177 (gd rfl) rfl (Nat.le_of_ble_eq_true rfl) ?_
                      refine g_aload_n 178 (gd rfl) rfl rfl ?_
                      refine g_getI 181 (gd rfl) rfl rfl rfl (fun z178 e178 => ?_)
                      have q178 : (Int32.ofInt 3) = z178 := (sF_ne rfl (sF_get)).trans e178.symm
                      subst q178
                      refine g_iconst 3 182 (gd rfl) rfl rfl ?_
                      refine g_cmp_ne 185 198 (gd rfl) rfl rfl (fun c182 => ?_) (fun c182 => ?_)
                      · skip
                        exact n_ne c182 (in_c 3 rfl) (in_c 3 rfl) rfl
                      · skip
                        refine g_iload_n 186 (gd rfl) rfl rfl ?_
                        refine g_if_ne 189 198 (gd rfl) rfl rfl (fun c186 => ?_) (fun c186 => ?_)
                        · skip
                          have n198 : (z119).toInt ≤ (u_109_22).toInt := by have a0 := oa5 ro_109_22 i71 ((in_c 1 rfl)) i126 i119; have a5 := t_add e119 i71 (in_c 1 rfl) rfl; have a6 := in_u ((in_c 3 rfl)); omega
                          have n198a : ((sF (sF (sF (sF sc0 109 29 w0_109_27) 109 30 z71) 109 28 (Int32.ofInt 3)) 109 27 z119).2.2.1 109 27).toInt ≤ ((sF (sF (sF (sF sc0 109 29 w0_109_27) 109 30 z71) 109 28 (Int32.ofInt 3)) 109 27 z119).2.2.1 109 22).toInt := by have b0 : z119 = (sF (sF (sF (sF sc0 109 29 w0_109_27) 109 30 z71) 109 28 (Int32.ofInt 3)) 109 27 z119).2.2.1 109 27 := sF_get; have b1 : u_109_22 = (sF (sF (sF (sF sc0 109 29 w0_109_27) 109 30 z71) 109 28 (Int32.ofInt 3)) 109 27 z119).2.2.1 109 22 := sF_ne rfl (sF_ne rfl (sF_ne rfl (sF_ne rfl (fr_F e_109_22 hFc0 rfl)))); rw [← b0, ← b1]; exact n198
                          have n198b : (u_109_27).toInt ≤ (z119).toInt := by have a0 := oa5 ro_109_22 i71 ((in_c 1 rfl)) i126 i119; have a5 := t_add e119 i71 (in_c 1 rfl) rfl; have a6 := in_u ((in_c 3 rfl)); omega
                          have n198c : (s.2.2.1 109 27).toInt ≤ ((sF (sF (sF (sF sc0 109 29 w0_109_27) 109 30 z71) 109 28 (Int32.ofInt 3)) 109 27 z119).2.2.1 109 27).toInt := by have b0 : z119 = (sF (sF (sF (sF sc0 109 29 w0_109_27) 109 30 z71) 109 28 (Int32.ofInt 3)) 109 27 z119).2.2.1 109 27 := sF_get; first | (rw [← b0, ← e_109_27]; exact n198b) | (rw [← b0]; exact n198b)
                          have n198d : ((Int32.ofInt 3)).toInt ≠ 0 → (u_109_27).toInt + 1 ≤ (z119).toInt := by have a0 := oa5 ro_109_22 i71 ((in_c 1 rfl)) i126 i119; have a5 := t_add e119 i71 (in_c 1 rfl) rfl; have a6 := in_u ((in_c 3 rfl)); omega
                          have n198e : ((sF (sF (sF (sF sc0 109 29 w0_109_27) 109 30 z71) 109 28 (Int32.ofInt 3)) 109 27 z119).2.2.1 109 28).toInt ≠ 0 → (s.2.2.1 109 27).toInt + 1 ≤ ((sF (sF (sF (sF sc0 109 29 w0_109_27) 109 30 z71) 109 28 (Int32.ofInt 3)) 109 27 z119).2.2.1 109 27).toInt := by have b0 : (Int32.ofInt 3) = (sF (sF (sF (sF sc0 109 29 w0_109_27) 109 30 z71) 109 28 (Int32.ofInt 3)) 109 27 z119).2.2.1 109 28 := sF_ne rfl (sF_get); have b1 : z119 = (sF (sF (sF (sF sc0 109 29 w0_109_27) 109 30 z71) 109 28 (Int32.ofInt 3)) 109 27 z119).2.2.1 109 27 := sF_get; first | (rw [← b0, ← b1, ← e_109_27]; exact n198d) | (rw [← b0, ← b1]; exact n198d)
                          exact g_return (gd rfl) rfl (hP _ _ ⟨(sF (sF (sF (sF sc0 109 29 w0_109_27) 109 30 z71) 109 28 (Int32.ofInt 3)) 109 27 z119), hI120, (fr_sF rfl (fr_sF rfl (fr_sF rfl (fr_sF rfl hFc0)))), n198a, n198c, n198e, rfl, rfl⟩)
                        · skip
                          exact zn_eq c186 (in_c 1 rfl) rfl
                    · skip
                      refine g_iload_n 130 (gd rfl) rfl rfl ?_
                      refine g_bipush 60 132 (gd rfl) rfl rfl ?_
                      refine g_cmp_eq 135 171 (gd rfl) rfl rfl (fun c132 => ?_) (fun c132 => ?_)
                      · skip
                        have i132 := r_eq1 60 60 c132 i99x3 (in_c 60 rfl) rfl
                        refine g_iconst 1 172 (gd rfl) rfl rfl ?_
                        refine g_goto 176 (gd rfl) rfl ?_
                        refine g_istore_n 177 (gd rfl) rfl (Nat.le_of_ble_eq_true rfl) ?_
                        refine g_aload_n 178 (gd rfl) rfl rfl ?_
                        refine g_getI 181 (gd rfl) rfl rfl rfl (fun z178 e178 => ?_)
                        have q178 : (Int32.ofInt 3) = z178 := (sF_ne rfl (sF_get)).trans e178.symm
                        subst q178
                        refine g_iconst 3 182 (gd rfl) rfl rfl ?_
                        refine g_cmp_ne 185 198 (gd rfl) rfl rfl (fun c182 => ?_) (fun c182 => ?_)
                        · skip
                          exact n_ne c182 (in_c 3 rfl) (in_c 3 rfl) rfl
                        · skip
                          refine g_iload_n 186 (gd rfl) rfl rfl ?_
                          refine g_if_ne 189 198 (gd rfl) rfl rfl (fun c186 => ?_) (fun c186 => ?_)
                          · skip
                            have n198 : (z119).toInt ≤ (u_109_22).toInt := by have a0 := oa5 ro_109_22 i71 ((in_c 1 rfl)) i132 i119; have a5 := t_add e119 i71 (in_c 1 rfl) rfl; have a6 := in_u ((in_c 3 rfl)); omega
                            have n198a : ((sF (sF (sF (sF sc0 109 29 w0_109_27) 109 30 z71) 109 28 (Int32.ofInt 3)) 109 27 z119).2.2.1 109 27).toInt ≤ ((sF (sF (sF (sF sc0 109 29 w0_109_27) 109 30 z71) 109 28 (Int32.ofInt 3)) 109 27 z119).2.2.1 109 22).toInt := by have b0 : z119 = (sF (sF (sF (sF sc0 109 29 w0_109_27) 109 30 z71) 109 28 (Int32.ofInt 3)) 109 27 z119).2.2.1 109 27 := sF_get; have b1 : u_109_22 = (sF (sF (sF (sF sc0 109 29 w0_109_27) 109 30 z71) 109 28 (Int32.ofInt 3)) 109 27 z119).2.2.1 109 22 := sF_ne rfl (sF_ne rfl (sF_ne rfl (sF_ne rfl (fr_F e_109_22 hFc0 rfl)))); rw [← b0, ← b1]; exact n198
                            have n198b : (u_109_27).toInt ≤ (z119).toInt := by have a0 := oa5 ro_109_22 i71 ((in_c 1 rfl)) i132 i119; have a5 := t_add e119 i71 (in_c 1 rfl) rfl; have a6 := in_u ((in_c 3 rfl)); omega
                            have n198c : (s.2.2.1 109 27).toInt ≤ ((sF (sF (sF (sF sc0 109 29 w0_109_27) 109 30 z71) 109 28 (Int32.ofInt 3)) 109 27 z119).2.2.1 109 27).toInt := by have b0 : z119 = (sF (sF (sF (sF sc0 109 29 w0_109_27) 109 30 z71) 109 28 (Int32.ofInt 3)) 109 27 z119).2.2.1 109 27 := sF_get; first | (rw [← b0, ← e_109_27]; exact n198b) | (rw [← b0]; exact n198b)
                            have n198d : ((Int32.ofInt 3)).toInt ≠ 0 → (u_109_27).toInt + 1 ≤ (z119).toInt := by have a0 := oa5 ro_109_22 i71 ((in_c 1 rfl)) i132 i119; have a5 := t_add e119 i71 (in_c 1 rfl) rfl; have a6 := in_u ((in_c 3 rfl)); omega
                            have n198e : ((sF (sF (sF (sF sc0 109 29 w0_109_27) 109 30 z71) 109 28 (Int32.ofInt 3)) 109 27 z119).2.2.1 109 28).toInt ≠ 0 → (s.2.2.1 109 27).toInt + 1 ≤ ((sF (sF (sF (sF sc0 109 29 w0_109_27) 109 30 z71) 109 28 (Int32.ofInt 3)) 109 27 z119).2.2.1 109 27).toInt := by have b0 : (Int32.ofInt 3) = (sF (sF (sF (sF sc0 109 29 w0_109_27) 109 30 z71) 109 28 (Int32.ofInt 3)) 109 27 z119).2.2.1 109 28 := sF_ne rfl (sF_get); have b1 : z119 = (sF (sF (sF (sF sc0 109 29 w0_109_27) 109 30 z71) 109 28 (Int32.ofInt 3)) 109 27 z119).2.2.1 109 27 := sF_get; first | (rw [← b0, ← b1, ← e_109_27]; exact n198d) | (rw [← b0, ← b1]; exact n198d)
                            exact g_return (gd rfl) rfl (hP _ _ ⟨(sF (sF (sF (sF sc0 109 29 w0_109_27) 109 30 z71) 109 28 (Int32.ofInt 3)) 109 27 z119), hI120, (fr_sF rfl (fr_sF rfl (fr_sF rfl (fr_sF rfl hFc0)))), n198a, n198c, n198e, rfl, rfl⟩)
                          · skip
                            exact zn_eq c186 (in_c 1 rfl) rfl
                      · skip
                        refine g_iload_n 136 (gd rfl) rfl rfl ?_
                        refine g_bipush 61 138 (gd rfl) rfl rfl ?_
                        refine g_cmp_eq 141 171 (gd rfl) rfl rfl (fun c138 => ?_) (fun c138 => ?_)
                        · skip
                          have i138 := r_eq1 61 61 c138 i99x3 (in_c 61 rfl) rfl
                          refine g_iconst 1 172 (gd rfl) rfl rfl ?_
                          refine g_goto 176 (gd rfl) rfl ?_
                          refine g_istore_n 177 (gd rfl) rfl (Nat.le_of_ble_eq_true rfl) ?_
                          refine g_aload_n 178 (gd rfl) rfl rfl ?_
                          refine g_getI 181 (gd rfl) rfl rfl rfl (fun z178 e178 => ?_)
                          have q178 : (Int32.ofInt 3) = z178 := (sF_ne rfl (sF_get)).trans e178.symm
                          subst q178
                          refine g_iconst 3 182 (gd rfl) rfl rfl ?_
                          refine g_cmp_ne 185 198 (gd rfl) rfl rfl (fun c182 => ?_) (fun c182 => ?_)
                          · skip
                            exact n_ne c182 (in_c 3 rfl) (in_c 3 rfl) rfl
                          · skip
                            refine g_iload_n 186 (gd rfl) rfl rfl ?_
                            refine g_if_ne 189 198 (gd rfl) rfl rfl (fun c186 => ?_) (fun c186 => ?_)
                            · skip
                              have n198 : (z119).toInt ≤ (u_109_22).toInt := by have a0 := oa5 ro_109_22 i71 ((in_c 1 rfl)) i138 i119; have a5 := t_add e119 i71 (in_c 1 rfl) rfl; have a6 := in_u ((in_c 3 rfl)); omega
                              have n198a : ((sF (sF (sF (sF sc0 109 29 w0_109_27) 109 30 z71) 109 28 (Int32.ofInt 3)) 109 27 z119).2.2.1 109 27).toInt ≤ ((sF (sF (sF (sF sc0 109 29 w0_109_27) 109 30 z71) 109 28 (Int32.ofInt 3)) 109 27 z119).2.2.1 109 22).toInt := by have b0 : z119 = (sF (sF (sF (sF sc0 109 29 w0_109_27) 109 30 z71) 109 28 (Int32.ofInt 3)) 109 27 z119).2.2.1 109 27 := sF_get; have b1 : u_109_22 = (sF (sF (sF (sF sc0 109 29 w0_109_27) 109 30 z71) 109 28 (Int32.ofInt 3)) 109 27 z119).2.2.1 109 22 := sF_ne rfl (sF_ne rfl (sF_ne rfl (sF_ne rfl (fr_F e_109_22 hFc0 rfl)))); rw [← b0, ← b1]; exact n198
                              have n198b : (u_109_27).toInt ≤ (z119).toInt := by have a0 := oa5 ro_109_22 i71 ((in_c 1 rfl)) i138 i119; have a5 := t_add e119 i71 (in_c 1 rfl) rfl; have a6 := in_u ((in_c 3 rfl)); omega
                              have n198c : (s.2.2.1 109 27).toInt ≤ ((sF (sF (sF (sF sc0 109 29 w0_109_27) 109 30 z71) 109 28 (Int32.ofInt 3)) 109 27 z119).2.2.1 109 27).toInt := by have b0 : z119 = (sF (sF (sF (sF sc0 109 29 w0_109_27) 109 30 z71) 109 28 (Int32.ofInt 3)) 109 27 z119).2.2.1 109 27 := sF_get; first | (rw [← b0, ← e_109_27]; exact n198b) | (rw [← b0]; exact n198b)
                              have n198d : ((Int32.ofInt 3)).toInt ≠ 0 → (u_109_27).toInt + 1 ≤ (z119).toInt := by have a0 := oa5 ro_109_22 i71 ((in_c 1 rfl)) i138 i119; have a5 := t_add e119 i71 (in_c 1 rfl) rfl; have a6 := in_u ((in_c 3 rfl)); omega
                              have n198e : ((sF (sF (sF (sF sc0 109 29 w0_109_27) 109 30 z71) 109 28 (Int32.ofInt 3)) 109 27 z119).2.2.1 109 28).toInt ≠ 0 → (s.2.2.1 109 27).toInt + 1 ≤ ((sF (sF (sF (sF sc0 109 29 w0_109_27) 109 30 z71) 109 28 (Int32.ofInt 3)) 109 27 z119).2.2.1 109 27).toInt := by have b0 : (Int32.ofInt 3) = (sF (sF (sF (sF sc0 109 29 w0_109_27) 109 30 z71) 109 28 (Int32.ofInt 3)) 109 27 z119).2.2.1 109 28 := sF_ne rfl (sF_get); have b1 : z119 = (sF (sF (sF (sF sc0 109 29 w0_109_27) 109 30 z71) 109 28 (Int32.ofInt 3)) 109 27 z119).2.2.1 109 27 := sF_get; first | (rw [← b0, ← b1, ← e_109_27]; exact n198d) | (rw [← b0, ← b1]; exact n198d)
                              exact g_return (gd rfl) rfl (hP _ _ ⟨(sF (sF (sF (sF sc0 109 29 w0_109_27) 109 30 z71) 109 28 (Int32.ofInt 3)) 109 27 z119), hI120, (fr_sF rfl (fr_sF rfl (fr_sF rfl (fr_sF rfl hFc0)))), n198a, n198c, n198e, rfl, rfl⟩)
                            · skip
                              exact zn_eq c186 (in_c 1 rfl) rfl
                        · skip
                          refine g_iload_n 142 (gd rfl) rfl rfl ?_
                          refine g_bipush 43 144 (gd rfl) rfl rfl ?_
                          refine g_cmp_eq 147 171 (gd rfl) rfl rfl (fun c144 => ?_) (fun c144 => ?_)
                          · skip
                            exact n_eq c144 i99x3 (in_c 43 rfl) rfl
                          · skip
                            refine g_iload_n 148 (gd rfl) rfl rfl ?_
                            refine g_bipush 45 150 (gd rfl) rfl rfl ?_
                            refine g_cmp_eq 153 171 (gd rfl) rfl rfl (fun c150 => ?_) (fun c150 => ?_)
                            · skip
                              exact n_eq c150 i99x3 (in_c 45 rfl) rfl
                            · skip
                              refine g_iload_n 154 (gd rfl) rfl rfl ?_
                              refine g_bipush 42 156 (gd rfl) rfl rfl ?_
                              refine g_cmp_eq 159 171 (gd rfl) rfl rfl (fun c156 => ?_) (fun c156 => ?_)
                              · skip
                                exact n_eq c156 i99x3 (in_c 42 rfl) rfl
                              · skip
                                refine g_iload_n 160 (gd rfl) rfl rfl ?_
                                refine g_bipush 40 162 (gd rfl) rfl rfl ?_
                                refine g_cmp_eq 165 171 (gd rfl) rfl rfl (fun c162 => ?_) (fun c162 => ?_)
                                · skip
                                  exact n_eq c162 i99x3 (in_c 40 rfl) rfl
                                · skip
                                  refine g_iload_n 166 (gd rfl) rfl rfl ?_
                                  refine g_bipush 41 168 (gd rfl) rfl rfl ?_
                                  refine g_cmp_ne 171 175 (gd rfl) rfl rfl (fun c168 => ?_) (fun c168 => ?_)
                                  · skip
                                    refine g_iconst 0 176 (gd rfl) rfl rfl ?_
                                    refine g_istore_n 177 (gd rfl) rfl (Nat.le_of_ble_eq_true rfl) ?_
                                    refine g_aload_n 178 (gd rfl) rfl rfl ?_
                                    refine g_getI 181 (gd rfl) rfl rfl rfl (fun z178 e178 => ?_)
                                    have q178 : (Int32.ofInt 3) = z178 := (sF_ne rfl (sF_get)).trans e178.symm
                                    subst q178
                                    refine g_iconst 3 182 (gd rfl) rfl rfl ?_
                                    refine g_cmp_ne 185 198 (gd rfl) rfl rfl (fun c182 => ?_) (fun c182 => ?_)
                                    · skip
                                      exact n_ne c182 (in_c 3 rfl) (in_c 3 rfl) rfl
                                    · skip
                                      refine g_iload_n 186 (gd rfl) rfl rfl ?_
                                      refine g_if_ne 189 198 (gd rfl) rfl rfl (fun c186 => ?_) (fun c186 => ?_)
                                      · skip
                                        exact zn_ne c186 (in_c 0 rfl) rfl
                                      · skip
                                        refine g_aload_n 190 (gd rfl) rfl rfl ?_
                                        refine g_iconst 1 191 (gd rfl) rfl rfl ?_
                                        refine g_aload_n 192 (gd rfl) rfl rfl ?_
                                        refine g_getI 195 (gd rfl) rfl rfl rfl (fun z192 e192 => ?_)
                                        have q192 : w0_109_27 = z192 := (sF_ne rfl (sF_ne rfl (sF_ne rfl (sF_get)))).trans e192.symm
                                        subst q192
                                        refine g_callv (X := _) (As := [.int (Int32.ofInt 1), .int w0_109_27]) (r := []) (b := A 109) (q := 109) 198 (gd rfl) rfl rfl rfl rfl rfl (ww_o rfl) (Nat.le_of_ble_eq_true rfl) (Nat.zero_le _) (Nat.zero_le _) (k_298 (by first | exact dq1 hd rfl | exact dq0 hd rfl | exact dq2 hd rfl | exact dq3 hd rfl | omega) hI120 (in_w 1 5 (in_c 1 rfl) rfl)) (fun e u h => h) (fun v u h => ?_)
                                        obtain ⟨s195, hI195, hF195, n195, rfl, rfl⟩ := h
                                        obtain ⟨z195a, e195⟩ : ∃ w, w = s195.2.2.1 109 23 := ⟨_, rfl⟩
                                        have i195a := inv_F hI195 0 9 rfl e195
                                        rw [← (show z195a = s195.2.2.1 109 23 from e195)] at n195
                                        show GG _ _ _ _ _ _ _ _ [] _ _ _
                                        have n198 : (z119).toInt ≤ (u_109_22).toInt := by have a0 := oa6 ro_109_22 i71 ((in_c 0 rfl)) i99x3 i195a i119; have a6 := t_add e119 i71 (in_c 1 rfl) rfl; have a7 := oa2 ((in_c 1 rfl)) ((in_c 3 rfl)); omega
                                        have n198a : (s195.2.2.1 109 27).toInt ≤ (s195.2.2.1 109 22).toInt := by have b0 : z119 = s195.2.2.1 109 27 := fr_F (s := (sF (sF (sF (sF sc0 109 29 w0_109_27) 109 30 z71) 109 28 (Int32.ofInt 3)) 109 27 z119)) (sF_get) hF195 rfl; have b1 : u_109_22 = s195.2.2.1 109 22 := fr_F (s := (sF (sF (sF (sF sc0 109 29 w0_109_27) 109 30 z71) 109 28 (Int32.ofInt 3)) 109 27 z119)) (sF_ne rfl (sF_ne rfl (sF_ne rfl (sF_ne rfl (fr_F e_109_22 hFc0 rfl))))) hF195 rfl; rw [← b0, ← b1]; exact n198
                                        have n198b : (u_109_27).toInt ≤ (z119).toInt := by have a0 := oa6 ro_109_22 i71 ((in_c 0 rfl)) i99x3 i195a i119; have a6 := t_add e119 i71 (in_c 1 rfl) rfl; have a7 := oa2 ((in_c 1 rfl)) ((in_c 3 rfl)); omega
                                        have n198c : (s.2.2.1 109 27).toInt ≤ (s195.2.2.1 109 27).toInt := by have b0 : z119 = s195.2.2.1 109 27 := fr_F (s := (sF (sF (sF (sF sc0 109 29 w0_109_27) 109 30 z71) 109 28 (Int32.ofInt 3)) 109 27 z119)) (sF_get) hF195 rfl; first | (rw [← b0, ← e_109_27]; exact n198b) | (rw [← b0]; exact n198b)
                                        have n198d : ((Int32.ofInt 3)).toInt ≠ 0 → (u_109_27).toInt + 1 ≤ (z119).toInt := by have a0 := oa6 ro_109_22 i71 ((in_c 0 rfl)) i99x3 i195a i119; have a6 := t_add e119 i71 (in_c 1 rfl) rfl; have a7 := oa2 ((in_c 1 rfl)) ((in_c 3 rfl)); omega
                                        have n198e : (s195.2.2.1 109 28).toInt ≠ 0 → (s.2.2.1 109 27).toInt + 1 ≤ (s195.2.2.1 109 27).toInt := by have b0 : (Int32.ofInt 3) = s195.2.2.1 109 28 := fr_F (s := (sF (sF (sF (sF sc0 109 29 w0_109_27) 109 30 z71) 109 28 (Int32.ofInt 3)) 109 27 z119)) (sF_ne rfl (sF_get)) hF195 rfl; have b1 : z119 = s195.2.2.1 109 27 := fr_F (s := (sF (sF (sF (sF sc0 109 29 w0_109_27) 109 30 z71) 109 28 (Int32.ofInt 3)) 109 27 z119)) (sF_get) hF195 rfl; first | (rw [← b0, ← b1, ← e_109_27]; exact n198d) | (rw [← b0, ← b1]; exact n198d)
                                        exact g_return (gd rfl) rfl (hP _ _ ⟨s195, hI195, (fr_tr rfl (fr_sF rfl (fr_sF rfl (fr_sF rfl (fr_sF rfl hFc0)))) hF195), n198a, n198c, n198e, rfl, rfl⟩)
                                  · skip
                                    exact n_eq c168 i99x3 (in_c 41 rfl) rfl
                  · skip
                    exact zn_ne c102 (in_c 0 rfl) rfl
                · skip
                  have i99x3 := r_le2 97 126 c99x3 (in_c 97 rfl) i79x9 rfl
                  refine g_iload_n 7 (gd rfl) rfl rfl ?_
                  refine g_bipush 122 9 (gd rfl) rfl rfl ?_
                  refine g_cmp_gt 12 16 (gd rfl) rfl rfl (fun c99x9 => ?_) (fun c99x9 => ?_)
                  · skip
                    have i99x9 := r_lt2 123 126 c99x9 (in_c 122 rfl) i99x3 rfl
                    refine g_iconst 0 17 (gd rfl) rfl rfl ?_
                    refine g_ireturn (gd rfl) rfl (nb01 (in_w 0 1 (in_c 0 rfl) rfl)) (hp99 _ _ ?_)
                    show GG _ _ _ _ _ _ _ _ [.int (Int32.ofInt 0), .ref (A 109)] _ _ _
                    refine g_if_eq 105 109 (gd rfl) rfl rfl (fun c102 => ?_) (fun c102 => ?_)
                    · skip
                      refine g_iconst 3 110 (gd rfl) rfl rfl ?_
                      refine g_putI 113 (gd rfl) rfl rfl rfl rfl ?_
                      have hI110 := inv_sF (q := 109) (j := 28) hI75 rfl (in_w (-2147483648) 2147483647 (in_c 3 rfl) rfl)
                      refine g_aload_n 114 (gd rfl) rfl rfl ?_
                      refine g_dup 115 (gd rfl) rfl rfl ?_
                      refine g_getI 118 (gd rfl) rfl rfl rfl (fun z115 e115 => ?_)
                      have q115 : w0_109_27 = z115 := (sF_ne rfl (sF_ne rfl (sF_ne rfl (v0_109_27)))).trans e115.symm
                      subst q115
                      refine g_iconst 1 119 (gd rfl) rfl rfl ?_
                      refine g_iadd 120 (gd rfl) rfl (fun z119 e119 => ?_)
                      have i119 := in_add 1 1000 e119 i71 (in_c 1 rfl) rfl rfl
                      refine g_putI 123 (gd rfl) rfl rfl rfl rfl ?_
                      have hI120 := inv_sF (q := 109) (j := 27) hI110 rfl (in_w 0 1000 i119 rfl)
                      refine g_iload_n 124 (gd rfl) rfl rfl ?_
                      refine g_bipush 59 126 (gd rfl) rfl rfl ?_
                      refine g_cmp_eq 129 171 (gd rfl) rfl rfl (fun c126 => ?_) (fun c126 => ?_)
                      · skip
                        exact n_eq c126 i99x9 (in_c 59 rfl) rfl
                      · skip
                        refine g_iload_n 130 (gd rfl) rfl rfl ?_
                        refine g_bipush 60 132 (gd rfl) rfl rfl ?_
                        refine g_cmp_eq 135 171 (gd rfl) rfl rfl (fun c132 => ?_) (fun c132 => ?_)
                        · skip
                          exact n_eq c132 i99x9 (in_c 60 rfl) rfl
                        · skip
                          refine g_iload_n 136 (gd rfl) rfl rfl ?_
                          refine g_bipush 61 138 (gd rfl) rfl rfl ?_
                          refine g_cmp_eq 141 171 (gd rfl) rfl rfl (fun c138 => ?_) (fun c138 => ?_)
                          · skip
                            exact n_eq c138 i99x9 (in_c 61 rfl) rfl
                          · skip
                            refine g_iload_n 142 (gd rfl) rfl rfl ?_
                            refine g_bipush 43 144 (gd rfl) rfl rfl ?_
                            refine g_cmp_eq 147 171 (gd rfl) rfl rfl (fun c144 => ?_) (fun c144 => ?_)
                            · skip
                              exact n_eq c144 i99x9 (in_c 43 rfl) rfl
                            · skip
                              refine g_iload_n 148 (gd rfl) rfl rfl ?_
                              refine g_bipush 45 150 (gd rfl) rfl rfl ?_
                              refine g_cmp_eq 153 171 (gd rfl) rfl rfl (fun c150 => ?_) (fun c150 => ?_)
                              · skip
                                exact n_eq c150 i99x9 (in_c 45 rfl) rfl
                              · skip
                                refine g_iload_n 154 (gd rfl) rfl rfl ?_
                                refine g_bipush 42 156 (gd rfl) rfl rfl ?_
                                refine g_cmp_eq 159 171 (gd rfl) rfl rfl (fun c156 => ?_) (fun c156 => ?_)
                                · skip
                                  exact n_eq c156 i99x9 (in_c 42 rfl) rfl
                                · skip
                                  refine g_iload_n 160 (gd rfl) rfl rfl ?_
                                  refine g_bipush 40 162 (gd rfl) rfl rfl ?_
                                  refine g_cmp_eq 165 171 (gd rfl) rfl rfl (fun c162 => ?_) (fun c162 => ?_)
                                  · skip
                                    exact n_eq c162 i99x9 (in_c 40 rfl) rfl
                                  · skip
                                    refine g_iload_n 166 (gd rfl) rfl rfl ?_
                                    refine g_bipush 41 168 (gd rfl) rfl rfl ?_
                                    refine g_cmp_ne 171 175 (gd rfl) rfl rfl (fun c168 => ?_) (fun c168 => ?_)
                                    · skip
                                      refine g_iconst 0 176 (gd rfl) rfl rfl ?_
                                      refine g_istore_n 177 (gd rfl) rfl (Nat.le_of_ble_eq_true rfl) ?_
                                      refine g_aload_n 178 (gd rfl) rfl rfl ?_
                                      refine g_getI 181 (gd rfl) rfl rfl rfl (fun z178 e178 => ?_)
                                      have q178 : (Int32.ofInt 3) = z178 := (sF_ne rfl (sF_get)).trans e178.symm
                                      subst q178
                                      refine g_iconst 3 182 (gd rfl) rfl rfl ?_
                                      refine g_cmp_ne 185 198 (gd rfl) rfl rfl (fun c182 => ?_) (fun c182 => ?_)
                                      · skip
                                        exact n_ne c182 (in_c 3 rfl) (in_c 3 rfl) rfl
                                      · skip
                                        refine g_iload_n 186 (gd rfl) rfl rfl ?_
                                        refine g_if_ne 189 198 (gd rfl) rfl rfl (fun c186 => ?_) (fun c186 => ?_)
                                        · skip
                                          exact zn_ne c186 (in_c 0 rfl) rfl
                                        · skip
                                          refine g_aload_n 190 (gd rfl) rfl rfl ?_
                                          refine g_iconst 1 191 (gd rfl) rfl rfl ?_
                                          refine g_aload_n 192 (gd rfl) rfl rfl ?_
                                          refine g_getI 195 (gd rfl) rfl rfl rfl (fun z192 e192 => ?_)
                                          have q192 : w0_109_27 = z192 := (sF_ne rfl (sF_ne rfl (sF_ne rfl (sF_get)))).trans e192.symm
                                          subst q192
                                          refine g_callv (X := _) (As := [.int (Int32.ofInt 1), .int w0_109_27]) (r := []) (b := A 109) (q := 109) 198 (gd rfl) rfl rfl rfl rfl rfl (ww_o rfl) (Nat.le_of_ble_eq_true rfl) (Nat.zero_le _) (Nat.zero_le _) (k_298 (by first | exact dq1 hd rfl | exact dq0 hd rfl | exact dq2 hd rfl | exact dq3 hd rfl | omega) hI120 (in_w 1 5 (in_c 1 rfl) rfl)) (fun e u h => h) (fun v u h => ?_)
                                          obtain ⟨s195, hI195, hF195, n195, rfl, rfl⟩ := h
                                          obtain ⟨z195a, e195⟩ : ∃ w, w = s195.2.2.1 109 23 := ⟨_, rfl⟩
                                          have i195a := inv_F hI195 0 9 rfl e195
                                          rw [← (show z195a = s195.2.2.1 109 23 from e195)] at n195
                                          show GG _ _ _ _ _ _ _ _ [] _ _ _
                                          have n198 : (z119).toInt ≤ (u_109_22).toInt := by have a0 := oa6 ro_109_22 i71 ((in_c 0 rfl)) i99x9 i195a i119; have a6 := t_add e119 i71 (in_c 1 rfl) rfl; have a7 := oa2 ((in_c 1 rfl)) ((in_c 3 rfl)); omega
                                          have n198a : (s195.2.2.1 109 27).toInt ≤ (s195.2.2.1 109 22).toInt := by have b0 : z119 = s195.2.2.1 109 27 := fr_F (s := (sF (sF (sF (sF sc0 109 29 w0_109_27) 109 30 z71) 109 28 (Int32.ofInt 3)) 109 27 z119)) (sF_get) hF195 rfl; have b1 : u_109_22 = s195.2.2.1 109 22 := fr_F (s := (sF (sF (sF (sF sc0 109 29 w0_109_27) 109 30 z71) 109 28 (Int32.ofInt 3)) 109 27 z119)) (sF_ne rfl (sF_ne rfl (sF_ne rfl (sF_ne rfl (fr_F e_109_22 hFc0 rfl))))) hF195 rfl; rw [← b0, ← b1]; exact n198
                                          have n198b : (u_109_27).toInt ≤ (z119).toInt := by have a0 := oa6 ro_109_22 i71 ((in_c 0 rfl)) i99x9 i195a i119; have a6 := t_add e119 i71 (in_c 1 rfl) rfl; have a7 := oa2 ((in_c 1 rfl)) ((in_c 3 rfl)); omega
                                          have n198c : (s.2.2.1 109 27).toInt ≤ (s195.2.2.1 109 27).toInt := by have b0 : z119 = s195.2.2.1 109 27 := fr_F (s := (sF (sF (sF (sF sc0 109 29 w0_109_27) 109 30 z71) 109 28 (Int32.ofInt 3)) 109 27 z119)) (sF_get) hF195 rfl; first | (rw [← b0, ← e_109_27]; exact n198b) | (rw [← b0]; exact n198b)
                                          have n198d : ((Int32.ofInt 3)).toInt ≠ 0 → (u_109_27).toInt + 1 ≤ (z119).toInt := by have a0 := oa6 ro_109_22 i71 ((in_c 0 rfl)) i99x9 i195a i119; have a6 := t_add e119 i71 (in_c 1 rfl) rfl; have a7 := oa2 ((in_c 1 rfl)) ((in_c 3 rfl)); omega
                                          have n198e : (s195.2.2.1 109 28).toInt ≠ 0 → (s.2.2.1 109 27).toInt + 1 ≤ (s195.2.2.1 109 27).toInt := by have b0 : (Int32.ofInt 3) = s195.2.2.1 109 28 := fr_F (s := (sF (sF (sF (sF sc0 109 29 w0_109_27) 109 30 z71) 109 28 (Int32.ofInt 3)) 109 27 z119)) (sF_ne rfl (sF_get)) hF195 rfl; have b1 : z119 = s195.2.2.1 109 27 := fr_F (s := (sF (sF (sF (sF sc0 109 29 w0_109_27) 109 30 z71) 109 28 (Int32.ofInt 3)) 109 27 z119)) (sF_get) hF195 rfl; first | (rw [← b0, ← b1, ← e_109_27]; exact n198d) | (rw [← b0, ← b1]; exact n198d)
                                          exact g_return (gd rfl) rfl (hP _ _ ⟨s195, hI195, (fr_tr rfl (fr_sF rfl (fr_sF rfl (fr_sF rfl (fr_sF rfl hFc0)))) hF195), n198a, n198c, n198e, rfl, rfl⟩)
                                    · skip
                                      exact n_eq c168 i99x9 (in_c 41 rfl) rfl
                    · skip
                      exact zn_ne c102 (in_c 0 rfl) rfl
                  · skip
                    have i99x9 := r_le1 97 122 c99x9 i99x3 (in_c 122 rfl) rfl
                    refine g_iconst 1 13 (gd rfl) rfl rfl ?_
                    refine g_goto 17 (gd rfl) rfl ?_
                    refine g_ireturn (gd rfl) rfl (nb01 (in_w 0 1 (in_c 1 rfl) rfl)) (hp99 _ _ ?_)
                    show GG _ _ _ _ _ _ _ _ [.int (Int32.ofInt 1), .ref (A 109)] _ _ _
                    refine g_if_eq 105 109 (gd rfl) rfl rfl (fun c102 => ?_) (fun c102 => ?_)
                    · skip
                      exact zn_eq c102 (in_c 1 rfl) rfl
                    · skip
                      refine g_iconst 1 106 (gd rfl) rfl rfl ?_
                      refine g_goto 110 (gd rfl) rfl ?_
                      refine g_putI 113 (gd rfl) rfl rfl rfl rfl ?_
                      have hI110 := inv_sF (q := 109) (j := 28) hI75 rfl (in_w (-2147483648) 2147483647 (in_c 1 rfl) rfl)
                      refine g_aload_n 114 (gd rfl) rfl rfl ?_
                      refine g_dup 115 (gd rfl) rfl rfl ?_
                      refine g_getI 118 (gd rfl) rfl rfl rfl (fun z115 e115 => ?_)
                      have q115 : w0_109_27 = z115 := (sF_ne rfl (sF_ne rfl (sF_ne rfl (v0_109_27)))).trans e115.symm
                      subst q115
                      refine g_iconst 1 119 (gd rfl) rfl rfl ?_
                      refine g_iadd 120 (gd rfl) rfl (fun z119 e119 => ?_)
                      have i119 := in_add 1 1000 e119 i71 (in_c 1 rfl) rfl rfl
                      refine g_putI 123 (gd rfl) rfl rfl rfl rfl ?_
                      have hI120 := inv_sF (q := 109) (j := 27) hI110 rfl (in_w 0 1000 i119 rfl)
                      refine g_iload_n 124 (gd rfl) rfl rfl ?_
                      refine g_bipush 59 126 (gd rfl) rfl rfl ?_
                      refine g_cmp_eq 129 171 (gd rfl) rfl rfl (fun c126 => ?_) (fun c126 => ?_)
                      · skip
                        exact n_eq c126 i99x9 (in_c 59 rfl) rfl
                      · skip
                        refine g_iload_n 130 (gd rfl) rfl rfl ?_
                        refine g_bipush 60 132 (gd rfl) rfl rfl ?_
                        refine g_cmp_eq 135 171 (gd rfl) rfl rfl (fun c132 => ?_) (fun c132 => ?_)
                        · skip
                          exact n_eq c132 i99x9 (in_c 60 rfl) rfl
                        · skip
                          refine g_iload_n 136 (gd rfl) rfl rfl ?_
                          refine g_bipush 61 138 (gd rfl) rfl rfl ?_
                          refine g_cmp_eq 141 171 (gd rfl) rfl rfl (fun c138 => ?_) (fun c138 => ?_)
                          · skip
                            exact n_eq c138 i99x9 (in_c 61 rfl) rfl
                          · skip
                            refine g_iload_n 142 (gd rfl) rfl rfl ?_
                            refine g_bipush 43 144 (gd rfl) rfl rfl ?_
                            refine g_cmp_eq 147 171 (gd rfl) rfl rfl (fun c144 => ?_) (fun c144 => ?_)
                            · skip
                              exact n_eq c144 i99x9 (in_c 43 rfl) rfl
                            · skip
                              refine g_iload_n 148 (gd rfl) rfl rfl ?_
                              refine g_bipush 45 150 (gd rfl) rfl rfl ?_
                              refine g_cmp_eq 153 171 (gd rfl) rfl rfl (fun c150 => ?_) (fun c150 => ?_)
                              · skip
                                exact n_eq c150 i99x9 (in_c 45 rfl) rfl
                              · skip
                                refine g_iload_n 154 (gd rfl) rfl rfl ?_
                                refine g_bipush 42 156 (gd rfl) rfl rfl ?_
                                refine g_cmp_eq 159 171 (gd rfl) rfl rfl (fun c156 => ?_) (fun c156 => ?_)
                                · skip
                                  exact n_eq c156 i99x9 (in_c 42 rfl) rfl
                                · skip
                                  refine g_iload_n 160 (gd rfl) rfl rfl ?_
                                  refine g_bipush 40 162 (gd rfl) rfl rfl ?_
                                  refine g_cmp_eq 165 171 (gd rfl) rfl rfl (fun c162 => ?_) (fun c162 => ?_)
                                  · skip
                                    exact n_eq c162 i99x9 (in_c 40 rfl) rfl
                                  · skip
                                    refine g_iload_n 166 (gd rfl) rfl rfl ?_
                                    refine g_bipush 41 168 (gd rfl) rfl rfl ?_
                                    refine g_cmp_ne 171 175 (gd rfl) rfl rfl (fun c168 => ?_) (fun c168 => ?_)
                                    · skip
                                      refine g_iconst 0 176 (gd rfl) rfl rfl ?_
                                      refine g_istore_n 177 (gd rfl) rfl (Nat.le_of_ble_eq_true rfl) ?_
                                      refine g_aload_n 178 (gd rfl) rfl rfl ?_
                                      refine g_getI 181 (gd rfl) rfl rfl rfl (fun z178 e178 => ?_)
                                      have q178 : (Int32.ofInt 1) = z178 := (sF_ne rfl (sF_get)).trans e178.symm
                                      subst q178
                                      refine g_iconst 3 182 (gd rfl) rfl rfl ?_
                                      refine g_cmp_ne 185 198 (gd rfl) rfl rfl (fun c182 => ?_) (fun c182 => ?_)
                                      · skip
                                        have n198 : (z119).toInt ≤ (u_109_22).toInt := by have a0 := oa5 ro_109_22 i71 ((in_c 0 rfl)) i99x9 i119; have a5 := t_add e119 i71 (in_c 1 rfl) rfl; have a6 := in_u ((in_c 1 rfl)); omega
                                        have n198a : ((sF (sF (sF (sF sc0 109 29 w0_109_27) 109 30 z71) 109 28 (Int32.ofInt 1)) 109 27 z119).2.2.1 109 27).toInt ≤ ((sF (sF (sF (sF sc0 109 29 w0_109_27) 109 30 z71) 109 28 (Int32.ofInt 1)) 109 27 z119).2.2.1 109 22).toInt := by have b0 : z119 = (sF (sF (sF (sF sc0 109 29 w0_109_27) 109 30 z71) 109 28 (Int32.ofInt 1)) 109 27 z119).2.2.1 109 27 := sF_get; have b1 : u_109_22 = (sF (sF (sF (sF sc0 109 29 w0_109_27) 109 30 z71) 109 28 (Int32.ofInt 1)) 109 27 z119).2.2.1 109 22 := sF_ne rfl (sF_ne rfl (sF_ne rfl (sF_ne rfl (fr_F e_109_22 hFc0 rfl)))); rw [← b0, ← b1]; exact n198
                                        have n198b : (u_109_27).toInt ≤ (z119).toInt := by have a0 := oa5 ro_109_22 i71 ((in_c 0 rfl)) i99x9 i119; have a5 := t_add e119 i71 (in_c 1 rfl) rfl; have a6 := in_u ((in_c 1 rfl)); omega
                                        have n198c : (s.2.2.1 109 27).toInt ≤ ((sF (sF (sF (sF sc0 109 29 w0_109_27) 109 30 z71) 109 28 (Int32.ofInt 1)) 109 27 z119).2.2.1 109 27).toInt := by have b0 : z119 = (sF (sF (sF (sF sc0 109 29 w0_109_27) 109 30 z71) 109 28 (Int32.ofInt 1)) 109 27 z119).2.2.1 109 27 := sF_get; first | (rw [← b0, ← e_109_27]; exact n198b) | (rw [← b0]; exact n198b)
                                        have n198d : ((Int32.ofInt 1)).toInt ≠ 0 → (u_109_27).toInt + 1 ≤ (z119).toInt := by have a0 := oa5 ro_109_22 i71 ((in_c 0 rfl)) i99x9 i119; have a5 := t_add e119 i71 (in_c 1 rfl) rfl; have a6 := in_u ((in_c 1 rfl)); omega
                                        have n198e : ((sF (sF (sF (sF sc0 109 29 w0_109_27) 109 30 z71) 109 28 (Int32.ofInt 1)) 109 27 z119).2.2.1 109 28).toInt ≠ 0 → (s.2.2.1 109 27).toInt + 1 ≤ ((sF (sF (sF (sF sc0 109 29 w0_109_27) 109 30 z71) 109 28 (Int32.ofInt 1)) 109 27 z119).2.2.1 109 27).toInt := by have b0 : (Int32.ofInt 1) = (sF (sF (sF (sF sc0 109 29 w0_109_27) 109 30 z71) 109 28 (Int32.ofInt 1)) 109 27 z119).2.2.1 109 28 := sF_ne rfl (sF_get); have b1 : z119 = (sF (sF (sF (sF sc0 109 29 w0_109_27) 109 30 z71) 109 28 (Int32.ofInt 1)) 109 27 z119).2.2.1 109 27 := sF_get; first | (rw [← b0, ← b1, ← e_109_27]; exact n198d) | (rw [← b0, ← b1]; exact n198d)
                                        exact g_return (gd rfl) rfl (hP _ _ ⟨(sF (sF (sF (sF sc0 109 29 w0_109_27) 109 30 z71) 109 28 (Int32.ofInt 1)) 109 27 z119), hI120, (fr_sF rfl (fr_sF rfl (fr_sF rfl (fr_sF rfl hFc0)))), n198a, n198c, n198e, rfl, rfl⟩)
                                      · skip
                                        exact n_eq c182 (in_c 1 rfl) (in_c 3 rfl) rfl
                                    · skip
                                      exact n_eq c168 i99x9 (in_c 41 rfl) rfl
              · skip
                exact zn_ne c82 (in_c 0 rfl) rfl
            · skip
              have i79x9 := r_le1 48 57 c79x9 i79x3 (in_c 57 rfl) rfl
              refine g_iconst 1 13 (gd rfl) rfl rfl ?_
              refine g_goto 17 (gd rfl) rfl ?_
              refine g_ireturn (gd rfl) rfl (nb01 (in_w 0 1 (in_c 1 rfl) rfl)) (hp79 _ _ ?_)
              show GG _ _ _ _ _ _ _ _ [.int (Int32.ofInt 1)] _ _ _
              refine g_if_eq 85 97 (gd rfl) rfl rfl (fun c82 => ?_) (fun c82 => ?_)
              · skip
                exact zn_eq c82 (in_c 1 rfl) rfl
              · skip
                refine g_aload_n 86 (gd rfl) rfl rfl ?_
                refine g_iconst 2 87 (gd rfl) rfl rfl ?_
                refine g_putI 90 (gd rfl) rfl rfl rfl rfl ?_
                have hI87 := inv_sF (q := 109) (j := 28) hI75 rfl (in_w (-2147483648) 2147483647 (in_c 2 rfl) rfl)
                refine g_aload_n 91 (gd rfl) rfl rfl ?_
                refine g_bipush 6 93 (gd rfl) rfl rfl ?_
                have v93 : w0_109_27 = (sF (sF (sF sc0 109 29 w0_109_27) 109 30 z71) 109 28 (Int32.ofInt 2)).2.2.1 109 27 := sF_ne rfl (sF_ne rfl (sF_ne rfl (v0_109_27)))
                have v93a : u_109_22 = (sF (sF (sF sc0 109 29 w0_109_27) 109 30 z71) 109 28 (Int32.ofInt 2)).2.2.1 109 22 := sF_ne rfl (sF_ne rfl (sF_ne rfl (fr_F e_109_22 hFc0 rfl)))
                have n93 : (w0_109_27).toInt < (u_109_22).toInt := by have a0 := oa4 ro_109_22 i71 i79x9 ((in_c 2 rfl)); omega
                have p93 : 48 ≤ ((sF (sF (sF sc0 109 29 w0_109_27) 109 30 z71) 109 28 (Int32.ofInt 2)).1 125 ((sF (sF (sF sc0 109 29 w0_109_27) 109 30 z71) 109 28 (Int32.ofInt 2)).2.2.1 109 27).toNatClampNeg).toInt ∧ ((sF (sF (sF sc0 109 29 w0_109_27) 109 30 z71) 109 28 (Int32.ofInt 2)).1 125 ((sF (sF (sF sc0 109 29 w0_109_27) 109 30 z71) 109 28 (Int32.ofInt 2)).2.2.1 109 27).toNatClampNeg).toInt ≤ 57 := by first | (have hz : z19 = (sF (sF (sF sc0 109 29 w0_109_27) 109 30 z71) 109 28 (Int32.ofInt 2)).1 125 ((sF (sF (sF sc0 109 29 w0_109_27) 109 30 z71) 109 28 (Int32.ofInt 2)).2.2.1 109 27).toNatClampNeg := (by rw [← (show w0_109_27 = (sF (sF (sF sc0 109 29 w0_109_27) 109 30 z71) 109 28 (Int32.ofInt 2)).2.2.1 109 27 from sF_ne rfl (sF_ne rfl (sF_ne rfl (v0_109_27))))]; exact e19); rw [← hz]; exact i79x9) | (have hz : z71 = (sF (sF (sF sc0 109 29 w0_109_27) 109 30 z71) 109 28 (Int32.ofInt 2)).1 125 ((sF (sF (sF sc0 109 29 w0_109_27) 109 30 z71) 109 28 (Int32.ofInt 2)).2.2.1 109 27).toNatClampNeg := (by rw [← (show w0_109_27 = (sF (sF (sF sc0 109 29 w0_109_27) 109 30 z71) 109 28 (Int32.ofInt 2)).2.2.1 109 27 from sF_ne rfl (sF_ne rfl (sF_ne rfl (v0_109_27))))]; exact e71); rw [← hz]; exact i79x9)
                refine g_callv (X := _) (As := [.int (Int32.ofInt 6)]) (r := []) (b := A 109) (q := 109) 96 (gd rfl) rfl rfl rfl rfl rfl (ww_o rfl) (Nat.le_of_ble_eq_true rfl) (Nat.zero_le _) (Nat.zero_le _) (k_300 (by first | exact dq1 hd rfl | exact dq0 hd rfl | exact dq2 hd rfl | exact dq3 hd rfl | omega) hI87 (in_w 6 7 (in_c 6 rfl) rfl) v93 v93a n93 p93) (fun e u h => h) (fun v u h => ?_)
                obtain ⟨s93, hI93, hF93, n93a, n93b, rfl, rfl⟩ := h
                obtain ⟨z93a, e93⟩ : ∃ w, w = s93.2.2.1 109 27 := ⟨_, rfl⟩
                have i93a := inv_F hI93 0 1000 rfl e93
                rw [← (show z93a = s93.2.2.1 109 27 from e93)] at n93a
                rw [← (show u_109_22 = s93.2.2.1 109 22 from fr_F (s := (sF (sF (sF sc0 109 29 w0_109_27) 109 30 z71) 109 28 (Int32.ofInt 2))) (sF_ne rfl (sF_ne rfl (sF_ne rfl (fr_F e_109_22 hFc0 rfl)))) hF93 rfl)] at n93a
                rw [← (show w0_109_27 = (sF (sF (sF sc0 109 29 w0_109_27) 109 30 z71) 109 28 (Int32.ofInt 2)).2.2.1 109 27 from sF_ne rfl (sF_ne rfl (sF_ne rfl (v0_109_27))))] at n93b
                rw [← (show z93a = s93.2.2.1 109 27 from e93)] at n93b
                show GG _ _ _ _ _ _ _ _ [] _ _ _
                have n96 : (z93a).toInt ≤ (u_109_22).toInt := by have a0 := oa5 ro_109_22 i71 i79x9 i93a ((in_c 2 rfl)); omega
                have n96a : (s93.2.2.1 109 27).toInt ≤ (s93.2.2.1 109 22).toInt := by have b0 : z93a = s93.2.2.1 109 27 := e93; have b1 : u_109_22 = s93.2.2.1 109 22 := fr_F (s := (sF (sF (sF sc0 109 29 w0_109_27) 109 30 z71) 109 28 (Int32.ofInt 2))) (sF_ne rfl (sF_ne rfl (sF_ne rfl (fr_F e_109_22 hFc0 rfl)))) hF93 rfl; rw [← b0, ← b1]; exact n96
                have n96b : (u_109_27).toInt ≤ (z93a).toInt := by have a0 := oa5 ro_109_22 i71 i79x9 i93a ((in_c 2 rfl)); omega
                have n96c : (s.2.2.1 109 27).toInt ≤ (s93.2.2.1 109 27).toInt := by have b0 : z93a = s93.2.2.1 109 27 := e93; first | (rw [← b0, ← e_109_27]; exact n96b) | (rw [← b0]; exact n96b)
                have n96d : ((Int32.ofInt 2)).toInt ≠ 0 → (u_109_27).toInt + 1 ≤ (z93a).toInt := by have a0 := oa5 ro_109_22 i71 i79x9 i93a ((in_c 2 rfl)); omega
                have n96e : (s93.2.2.1 109 28).toInt ≠ 0 → (s.2.2.1 109 27).toInt + 1 ≤ (s93.2.2.1 109 27).toInt := by have b0 : (Int32.ofInt 2) = s93.2.2.1 109 28 := fr_F (s := (sF (sF (sF sc0 109 29 w0_109_27) 109 30 z71) 109 28 (Int32.ofInt 2))) (sF_get) hF93 rfl; have b1 : z93a = s93.2.2.1 109 27 := e93; first | (rw [← b0, ← b1, ← e_109_27]; exact n96d) | (rw [← b0, ← b1]; exact n96d)
                exact g_return (gd rfl) rfl (hP _ _ ⟨s93, hI93, (fr_tr rfl (fr_sF rfl (fr_sF rfl (fr_sF rfl hFc0))) hF93), n96a, n96c, n96e, rfl, rfl⟩)
        · skip
          refine g_aload_n 58 (gd rfl) rfl rfl ?_
          refine g_iconst 0 59 (gd rfl) rfl rfl ?_
          refine g_putI 62 (gd rfl) rfl rfl rfl rfl ?_
          have hI59 := inv_sF (q := 109) (j := 28) hI43 rfl (in_w (-2147483648) 2147483647 (in_c 0 rfl) rfl)
          have n62 : (w0_109_27).toInt ≤ (u_109_22).toInt := by first | exact n0_0 | (have a0 := oa3 ro_109_22 ((inv_F hIc0 0 1000 rfl v0_109_27)) ((in_c 0 rfl)); omega)
          have n62a : ((sF (sF sc0 109 29 w0_109_27) 109 28 (Int32.ofInt 0)).2.2.1 109 27).toInt ≤ ((sF (sF sc0 109 29 w0_109_27) 109 28 (Int32.ofInt 0)).2.2.1 109 22).toInt := by have b0 : w0_109_27 = (sF (sF sc0 109 29 w0_109_27) 109 28 (Int32.ofInt 0)).2.2.1 109 27 := sF_ne rfl (sF_ne rfl (v0_109_27)); have b1 : u_109_22 = (sF (sF sc0 109 29 w0_109_27) 109 28 (Int32.ofInt 0)).2.2.1 109 22 := sF_ne rfl (sF_ne rfl (fr_F e_109_22 hFc0 rfl)); rw [← b0, ← b1]; exact n62
          have n62b : (u_109_27).toInt ≤ (w0_109_27).toInt := by first | exact n0_1 | (have a0 := oa3 ro_109_22 ((inv_F hIc0 0 1000 rfl v0_109_27)) ((in_c 0 rfl)); omega)
          have n62c : (s.2.2.1 109 27).toInt ≤ ((sF (sF sc0 109 29 w0_109_27) 109 28 (Int32.ofInt 0)).2.2.1 109 27).toInt := by have b0 : w0_109_27 = (sF (sF sc0 109 29 w0_109_27) 109 28 (Int32.ofInt 0)).2.2.1 109 27 := sF_ne rfl (sF_ne rfl (v0_109_27)); first | (rw [← b0, ← e_109_27]; exact n62b) | (rw [← b0]; exact n62b)
          have n62d : ((Int32.ofInt 0)).toInt ≠ 0 → (u_109_27).toInt + 1 ≤ (w0_109_27).toInt := by exact fun h => absurd rfl h
          have n62e : ((sF (sF sc0 109 29 w0_109_27) 109 28 (Int32.ofInt 0)).2.2.1 109 28).toInt ≠ 0 → (s.2.2.1 109 27).toInt + 1 ≤ ((sF (sF sc0 109 29 w0_109_27) 109 28 (Int32.ofInt 0)).2.2.1 109 27).toInt := by have b0 : (Int32.ofInt 0) = (sF (sF sc0 109 29 w0_109_27) 109 28 (Int32.ofInt 0)).2.2.1 109 28 := sF_get; have b1 : w0_109_27 = (sF (sF sc0 109 29 w0_109_27) 109 28 (Int32.ofInt 0)).2.2.1 109 27 := sF_ne rfl (sF_ne rfl (v0_109_27)); first | (rw [← b0, ← b1, ← e_109_27]; exact n62d) | (rw [← b0, ← b1]; exact n62d)
          exact g_return (gd rfl) rfl (hP _ _ ⟨(sF (sF sc0 109 29 w0_109_27) 109 28 (Int32.ofInt 0)), hI59, (fr_sF rfl (fr_sF rfl hFc0)), n62a, n62c, n62e, rfl, rfl⟩)
      · skip
        have i8 := r_lt1 0 999 c8 (inv_F hIc0 0 1000 rfl v0_109_27) ro_109_22 rfl
        have i8a := r_lt2 1 1000 c8 (inv_F hIc0 0 1000 rfl v0_109_27) ro_109_22 rfl
        refine g_aload_n 12 (gd rfl) rfl rfl ?_
        refine g_getA (q2 := 125) 15 (gd rfl) rfl rfl rfl rfl ?_
        refine g_aload_n 16 (gd rfl) rfl rfl ?_
        refine g_getI 19 (gd rfl) rfl rfl rfl (fun z16 e16 => ?_)
        have q16 : w0_109_27 = z16 := (v0_109_27).trans e16.symm
        subst q16
        refine g_iaload 20 (gd rfl) rfl (n := 1000) rfl (in_ix i8 rfl) (fun z19 e19 => ?_)
        have i19 := inv_I hIc0 (n := 1000) (t := 0) 0 126 rfl (in_ix i8 rfl) rfl e19
        refine g_bipush 32 22 (gd rfl) rfl rfl ?_
        refine g_cmp_ne 25 38 (gd rfl) rfl rfl (fun c22 => ?_) (fun c22 => ?_)
        · skip
          refine g_aload_n 39 (gd rfl) rfl rfl ?_
          refine g_aload_n 40 (gd rfl) rfl rfl ?_
          refine g_getI 43 (gd rfl) rfl rfl rfl (fun z40 e40 => ?_)
          have q40 : w0_109_27 = z40 := (v0_109_27).trans e40.symm
          subst q40
          refine g_putI 46 (gd rfl) rfl rfl rfl rfl ?_
          have hI43 := inv_sF (q := 109) (j := 29) hIc0 rfl (in_w 0 1000 i8 rfl)
          refine g_aload_n 47 (gd rfl) rfl rfl ?_
          refine g_getI 50 (gd rfl) rfl rfl rfl (fun z47 e47 => ?_)
          have q47 : w0_109_27 = z47 := (sF_ne rfl (v0_109_27)).trans e47.symm
          subst q47
          refine g_aload_n 51 (gd rfl) rfl rfl ?_
          refine g_getI 54 (gd rfl) rfl rfl rfl (fun z51 e51 => ?_)
          have q51 : u_109_22 = z51 := (sF_ne rfl (fr_F e_109_22 hFc0 rfl)).trans e51.symm
          subst q51
          refine g_cmp_ne 57 63 (gd rfl) rfl rfl (fun c54 => ?_) (fun c54 => ?_)
          · skip
            refine g_aload_n 64 (gd rfl) rfl rfl ?_
            refine g_getA (q2 := 125) 67 (gd rfl) rfl rfl rfl rfl ?_
            refine g_aload_n 68 (gd rfl) rfl rfl ?_
            refine g_getI 71 (gd rfl) rfl rfl rfl (fun z68 e68 => ?_)
            have q68 : w0_109_27 = z68 := (sF_ne rfl (v0_109_27)).trans e68.symm
            subst q68
            refine g_iaload 72 (gd rfl) rfl (n := 1000) rfl (in_ix i8 rfl) (fun z71 e71 => ?_)
            have q71 : z19 = z71 := (sF_I (e19)).trans e71.symm
            subst q71
            refine g_istore_n 73 (gd rfl) rfl (Nat.le_of_ble_eq_true rfl) ?_
            refine g_aload_n 74 (gd rfl) rfl rfl ?_
            refine g_iload_n 75 (gd rfl) rfl rfl ?_
            refine g_putI 78 (gd rfl) rfl rfl rfl rfl ?_
            have hI75 := inv_sF (q := 109) (j := 30) hI43 rfl (in_w (-2147483648) 2147483647 i19 rfl)
            refine g_iload_n 79 (gd rfl) rfl rfl ?_
            refine g_calls (As := [.int z19]) (r := []) 82 (gd rfl) rfl rfl rfl rfl rfl (Nat.le_of_ble_eq_true rfl) (mc := 0) (ms := 0) (Nat.zero_le _) (Nat.zero_le _) (P := fun v u => _) ?_ (fun v u h => h)
            intro po79 xx79 hp79 hx79
            refine g_enter2 (k := 297) (N := 300) (by first | exact dq1 hd rfl | exact dq0 hd rfl | exact dq2 hd rfl | exact dq3 hd rfl | omega) rfl (Nat.le_of_ble_eq_true rfl) ?_
            refine g_iload_n 1 (gd rfl) rfl rfl ?_
            refine g_bipush 48 3 (gd rfl) rfl rfl ?_
            refine g_cmp_lt 6 16 (gd rfl) rfl rfl (fun c79x3 => ?_) (fun c79x3 => ?_)
            · skip
              have i79x3 := r_lt1 0 47 c79x3 i19 (in_c 48 rfl) rfl
              refine g_iconst 0 17 (gd rfl) rfl rfl ?_
              refine g_ireturn (gd rfl) rfl (nb01 (in_w 0 1 (in_c 0 rfl) rfl)) (hp79 _ _ ?_)
              show GG _ _ _ _ _ _ _ _ [.int (Int32.ofInt 0)] _ _ _
              refine g_if_eq 85 97 (gd rfl) rfl rfl (fun c82 => ?_) (fun c82 => ?_)
              · skip
                refine g_aload_n 98 (gd rfl) rfl rfl ?_
                refine g_iload_n 99 (gd rfl) rfl rfl ?_
                refine g_calls (As := [.int z19]) (r := [.ref (A 109)]) 102 (gd rfl) rfl rfl rfl rfl rfl (Nat.le_of_ble_eq_true rfl) (mc := 0) (ms := 0) (Nat.zero_le _) (Nat.zero_le _) (P := fun v u => _) ?_ (fun v u h => h)
                intro po99 xx99 hp99 hx99
                refine g_enter2 (k := 296) (N := 300) (by first | exact dq1 hd rfl | exact dq0 hd rfl | exact dq2 hd rfl | exact dq3 hd rfl | omega) rfl (Nat.le_of_ble_eq_true rfl) ?_
                refine g_iload_n 1 (gd rfl) rfl rfl ?_
                refine g_bipush 97 3 (gd rfl) rfl rfl ?_
                refine g_cmp_lt 6 16 (gd rfl) rfl rfl (fun c99x3 => ?_) (fun c99x3 => ?_)
                · skip
                  refine g_iconst 0 17 (gd rfl) rfl rfl ?_
                  refine g_ireturn (gd rfl) rfl (nb01 (in_w 0 1 (in_c 0 rfl) rfl)) (hp99 _ _ ?_)
                  show GG _ _ _ _ _ _ _ _ [.int (Int32.ofInt 0), .ref (A 109)] _ _ _
                  refine g_if_eq 105 109 (gd rfl) rfl rfl (fun c102 => ?_) (fun c102 => ?_)
                  · skip
                    refine g_iconst 3 110 (gd rfl) rfl rfl ?_
                    refine g_putI 113 (gd rfl) rfl rfl rfl rfl ?_
                    have hI110 := inv_sF (q := 109) (j := 28) hI75 rfl (in_w (-2147483648) 2147483647 (in_c 3 rfl) rfl)
                    refine g_aload_n 114 (gd rfl) rfl rfl ?_
                    refine g_dup 115 (gd rfl) rfl rfl ?_
                    refine g_getI 118 (gd rfl) rfl rfl rfl (fun z115 e115 => ?_)
                    have q115 : w0_109_27 = z115 := (sF_ne rfl (sF_ne rfl (sF_ne rfl (v0_109_27)))).trans e115.symm
                    subst q115
                    refine g_iconst 1 119 (gd rfl) rfl rfl ?_
                    refine g_iadd 120 (gd rfl) rfl (fun z119 e119 => ?_)
                    have i119 := in_add 1 1000 e119 i8 (in_c 1 rfl) rfl rfl
                    refine g_putI 123 (gd rfl) rfl rfl rfl rfl ?_
                    have hI120 := inv_sF (q := 109) (j := 27) hI110 rfl (in_w 0 1000 i119 rfl)
                    refine g_iload_n 124 (gd rfl) rfl rfl ?_
                    refine g_bipush 59 126 (gd rfl) rfl rfl ?_
                    refine g_cmp_eq 129 171 (gd rfl) rfl rfl (fun c126 => ?_) (fun c126 => ?_)
                    · skip
                      exact n_eq c126 i79x3 (in_c 59 rfl) rfl
                    · skip
                      refine g_iload_n 130 (gd rfl) rfl rfl ?_
                      refine g_bipush 60 132 (gd rfl) rfl rfl ?_
                      refine g_cmp_eq 135 171 (gd rfl) rfl rfl (fun c132 => ?_) (fun c132 => ?_)
                      · skip
                        exact n_eq c132 i79x3 (in_c 60 rfl) rfl
                      · skip
                        refine g_iload_n 136 (gd rfl) rfl rfl ?_
                        refine g_bipush 61 138 (gd rfl) rfl rfl ?_
                        refine g_cmp_eq 141 171 (gd rfl) rfl rfl (fun c138 => ?_) (fun c138 => ?_)
                        · skip
                          exact n_eq c138 i79x3 (in_c 61 rfl) rfl
                        · skip
                          refine g_iload_n 142 (gd rfl) rfl rfl ?_
                          refine g_bipush 43 144 (gd rfl) rfl rfl ?_
                          refine g_cmp_eq 147 171 (gd rfl) rfl rfl (fun c144 => ?_) (fun c144 => ?_)
                          · skip
                            have i144 := r_eq1 43 43 c144 i79x3 (in_c 43 rfl) rfl
                            refine g_iconst 1 172 (gd rfl) rfl rfl ?_
                            refine g_goto 176 (gd rfl) rfl ?_
                            refine g_istore_n 177 (gd rfl) rfl (Nat.le_of_ble_eq_true rfl) ?_
                            refine g_aload_n 178 (gd rfl) rfl rfl ?_
                            refine g_getI 181 (gd rfl) rfl rfl rfl (fun z178 e178 => ?_)
                            have q178 : (Int32.ofInt 3) = z178 := (sF_ne rfl (sF_get)).trans e178.symm
                            subst q178
                            refine g_iconst 3 182 (gd rfl) rfl rfl ?_
                            refine g_cmp_ne 185 198 (gd rfl) rfl rfl (fun c182 => ?_) (fun c182 => ?_)
                            · skip
                              exact n_ne c182 (in_c 3 rfl) (in_c 3 rfl) rfl
                            · skip
                              refine g_iload_n 186 (gd rfl) rfl rfl ?_
                              refine g_if_ne 189 198 (gd rfl) rfl rfl (fun c186 => ?_) (fun c186 => ?_)
                              · skip
                                have n198 : (z119).toInt ≤ (u_109_22).toInt := by have a0 := oa5 i8a i8 ((in_c 1 rfl)) i144 i119; have a5 := t_add e119 i8 (in_c 1 rfl) rfl; have a6 := in_u ((in_c 3 rfl)); omega
                                have n198a : ((sF (sF (sF (sF sc0 109 29 w0_109_27) 109 30 z19) 109 28 (Int32.ofInt 3)) 109 27 z119).2.2.1 109 27).toInt ≤ ((sF (sF (sF (sF sc0 109 29 w0_109_27) 109 30 z19) 109 28 (Int32.ofInt 3)) 109 27 z119).2.2.1 109 22).toInt := by have b0 : z119 = (sF (sF (sF (sF sc0 109 29 w0_109_27) 109 30 z19) 109 28 (Int32.ofInt 3)) 109 27 z119).2.2.1 109 27 := sF_get; have b1 : u_109_22 = (sF (sF (sF (sF sc0 109 29 w0_109_27) 109 30 z19) 109 28 (Int32.ofInt 3)) 109 27 z119).2.2.1 109 22 := sF_ne rfl (sF_ne rfl (sF_ne rfl (sF_ne rfl (fr_F e_109_22 hFc0 rfl)))); rw [← b0, ← b1]; exact n198
                                have n198b : (u_109_27).toInt ≤ (z119).toInt := by have a0 := oa5 i8a i8 ((in_c 1 rfl)) i144 i119; have a5 := t_add e119 i8 (in_c 1 rfl) rfl; have a6 := in_u ((in_c 3 rfl)); omega
                                have n198c : (s.2.2.1 109 27).toInt ≤ ((sF (sF (sF (sF sc0 109 29 w0_109_27) 109 30 z19) 109 28 (Int32.ofInt 3)) 109 27 z119).2.2.1 109 27).toInt := by have b0 : z119 = (sF (sF (sF (sF sc0 109 29 w0_109_27) 109 30 z19) 109 28 (Int32.ofInt 3)) 109 27 z119).2.2.1 109 27 := sF_get; first | (rw [← b0, ← e_109_27]; exact n198b) | (rw [← b0]; exact n198b)
                                have n198d : ((Int32.ofInt 3)).toInt ≠ 0 → (u_109_27).toInt + 1 ≤ (z119).toInt := by have a0 := oa5 i8a i8 ((in_c 1 rfl)) i144 i119; have a5 := t_add e119 i8 (in_c 1 rfl) rfl; have a6 := in_u ((in_c 3 rfl)); omega
                                have n198e : ((sF (sF (sF (sF sc0 109 29 w0_109_27) 109 30 z19) 109 28 (Int32.ofInt 3)) 109 27 z119).2.2.1 109 28).toInt ≠ 0 → (s.2.2.1 109 27).toInt + 1 ≤ ((sF (sF (sF (sF sc0 109 29 w0_109_27) 109 30 z19) 109 28 (Int32.ofInt 3)) 109 27 z119).2.2.1 109 27).toInt := by have b0 : (Int32.ofInt 3) = (sF (sF (sF (sF sc0 109 29 w0_109_27) 109 30 z19) 109 28 (Int32.ofInt 3)) 109 27 z119).2.2.1 109 28 := sF_ne rfl (sF_get); have b1 : z119 = (sF (sF (sF (sF sc0 109 29 w0_109_27) 109 30 z19) 109 28 (Int32.ofInt 3)) 109 27 z119).2.2.1 109 27 := sF_get; first | (rw [← b0, ← b1, ← e_109_27]; exact n198d) | (rw [← b0, ← b1]; exact n198d)
                                exact g_return (gd rfl) rfl (hP _ _ ⟨(sF (sF (sF (sF sc0 109 29 w0_109_27) 109 30 z19) 109 28 (Int32.ofInt 3)) 109 27 z119), hI120, (fr_sF rfl (fr_sF rfl (fr_sF rfl (fr_sF rfl hFc0)))), n198a, n198c, n198e, rfl, rfl⟩)
                              · skip
                                exact zn_eq c186 (in_c 1 rfl) rfl
                          · skip
                            refine g_iload_n 148 (gd rfl) rfl rfl ?_
                            refine g_bipush 45 150 (gd rfl) rfl rfl ?_
                            refine g_cmp_eq 153 171 (gd rfl) rfl rfl (fun c150 => ?_) (fun c150 => ?_)
                            · skip
                              have i150 := r_eq1 45 45 c150 i79x3 (in_c 45 rfl) rfl
                              refine g_iconst 1 172 (gd rfl) rfl rfl ?_
                              refine g_goto 176 (gd rfl) rfl ?_
                              refine g_istore_n 177 (gd rfl) rfl (Nat.le_of_ble_eq_true rfl) ?_
                              refine g_aload_n 178 (gd rfl) rfl rfl ?_
                              refine g_getI 181 (gd rfl) rfl rfl rfl (fun z178 e178 => ?_)
                              have q178 : (Int32.ofInt 3) = z178 := (sF_ne rfl (sF_get)).trans e178.symm
                              subst q178
                              refine g_iconst 3 182 (gd rfl) rfl rfl ?_
                              refine g_cmp_ne 185 198 (gd rfl) rfl rfl (fun c182 => ?_) (fun c182 => ?_)
                              · skip
                                exact n_ne c182 (in_c 3 rfl) (in_c 3 rfl) rfl
                              · skip
                                refine g_iload_n 186 (gd rfl) rfl rfl ?_
                                refine g_if_ne 189 198 (gd rfl) rfl rfl (fun c186 => ?_) (fun c186 => ?_)
                                · skip
                                  have n198 : (z119).toInt ≤ (u_109_22).toInt := by have a0 := oa5 i8a i8 ((in_c 1 rfl)) i150 i119; have a5 := t_add e119 i8 (in_c 1 rfl) rfl; have a6 := in_u ((in_c 3 rfl)); omega
                                  have n198a : ((sF (sF (sF (sF sc0 109 29 w0_109_27) 109 30 z19) 109 28 (Int32.ofInt 3)) 109 27 z119).2.2.1 109 27).toInt ≤ ((sF (sF (sF (sF sc0 109 29 w0_109_27) 109 30 z19) 109 28 (Int32.ofInt 3)) 109 27 z119).2.2.1 109 22).toInt := by have b0 : z119 = (sF (sF (sF (sF sc0 109 29 w0_109_27) 109 30 z19) 109 28 (Int32.ofInt 3)) 109 27 z119).2.2.1 109 27 := sF_get; have b1 : u_109_22 = (sF (sF (sF (sF sc0 109 29 w0_109_27) 109 30 z19) 109 28 (Int32.ofInt 3)) 109 27 z119).2.2.1 109 22 := sF_ne rfl (sF_ne rfl (sF_ne rfl (sF_ne rfl (fr_F e_109_22 hFc0 rfl)))); rw [← b0, ← b1]; exact n198
                                  have n198b : (u_109_27).toInt ≤ (z119).toInt := by have a0 := oa5 i8a i8 ((in_c 1 rfl)) i150 i119; have a5 := t_add e119 i8 (in_c 1 rfl) rfl; have a6 := in_u ((in_c 3 rfl)); omega
                                  have n198c : (s.2.2.1 109 27).toInt ≤ ((sF (sF (sF (sF sc0 109 29 w0_109_27) 109 30 z19) 109 28 (Int32.ofInt 3)) 109 27 z119).2.2.1 109 27).toInt := by have b0 : z119 = (sF (sF (sF (sF sc0 109 29 w0_109_27) 109 30 z19) 109 28 (Int32.ofInt 3)) 109 27 z119).2.2.1 109 27 := sF_get; first | (rw [← b0, ← e_109_27]; exact n198b) | (rw [← b0]; exact n198b)
                                  have n198d : ((Int32.ofInt 3)).toInt ≠ 0 → (u_109_27).toInt + 1 ≤ (z119).toInt := by have a0 := oa5 i8a i8 ((in_c 1 rfl)) i150 i119; have a5 := t_add e119 i8 (in_c 1 rfl) rfl; have a6 := in_u ((in_c 3 rfl)); omega
                                  have n198e : ((sF (sF (sF (sF sc0 109 29 w0_109_27) 109 30 z19) 109 28 (Int32.ofInt 3)) 109 27 z119).2.2.1 109 28).toInt ≠ 0 → (s.2.2.1 109 27).toInt + 1 ≤ ((sF (sF (sF (sF sc0 109 29 w0_109_27) 109 30 z19) 109 28 (Int32.ofInt 3)) 109 27 z119).2.2.1 109 27).toInt := by have b0 : (Int32.ofInt 3) = (sF (sF (sF (sF sc0 109 29 w0_109_27) 109 30 z19) 109 28 (Int32.ofInt 3)) 109 27 z119).2.2.1 109 28 := sF_ne rfl (sF_get); have b1 : z119 = (sF (sF (sF (sF sc0 109 29 w0_109_27) 109 30 z19) 109 28 (Int32.ofInt 3)) 109 27 z119).2.2.1 109 27 := sF_get; first | (rw [← b0, ← b1, ← e_109_27]; exact n198d) | (rw [← b0, ← b1]; exact n198d)
                                  exact g_return (gd rfl) rfl (hP _ _ ⟨(sF (sF (sF (sF sc0 109 29 w0_109_27) 109 30 z19) 109 28 (Int32.ofInt 3)) 109 27 z119), hI120, (fr_sF rfl (fr_sF rfl (fr_sF rfl (fr_sF rfl hFc0)))), n198a, n198c, n198e, rfl, rfl⟩)
                                · skip
                                  exact zn_eq c186 (in_c 1 rfl) rfl
                            · skip
                              refine g_iload_n 154 (gd rfl) rfl rfl ?_
                              refine g_bipush 42 156 (gd rfl) rfl rfl ?_
                              refine g_cmp_eq 159 171 (gd rfl) rfl rfl (fun c156 => ?_) (fun c156 => ?_)
                              · skip
                                have i156 := r_eq1 42 42 c156 i79x3 (in_c 42 rfl) rfl
                                refine g_iconst 1 172 (gd rfl) rfl rfl ?_
                                refine g_goto 176 (gd rfl) rfl ?_
                                refine g_istore_n 177 (gd rfl) rfl (Nat.le_of_ble_eq_true rfl) ?_
                                refine g_aload_n 178 (gd rfl) rfl rfl ?_
                                refine g_getI 181 (gd rfl) rfl rfl rfl (fun z178 e178 => ?_)
                                have q178 : (Int32.ofInt 3) = z178 := (sF_ne rfl (sF_get)).trans e178.symm
                                subst q178
                                refine g_iconst 3 182 (gd rfl) rfl rfl ?_
                                refine g_cmp_ne 185 198 (gd rfl) rfl rfl (fun c182 => ?_) (fun c182 => ?_)
                                · skip
                                  exact n_ne c182 (in_c 3 rfl) (in_c 3 rfl) rfl
                                · skip
                                  refine g_iload_n 186 (gd rfl) rfl rfl ?_
                                  refine g_if_ne 189 198 (gd rfl) rfl rfl (fun c186 => ?_) (fun c186 => ?_)
                                  · skip
                                    have n198 : (z119).toInt ≤ (u_109_22).toInt := by have a0 := oa5 i8a i8 ((in_c 1 rfl)) i156 i119; have a5 := t_add e119 i8 (in_c 1 rfl) rfl; have a6 := in_u ((in_c 3 rfl)); omega
                                    have n198a : ((sF (sF (sF (sF sc0 109 29 w0_109_27) 109 30 z19) 109 28 (Int32.ofInt 3)) 109 27 z119).2.2.1 109 27).toInt ≤ ((sF (sF (sF (sF sc0 109 29 w0_109_27) 109 30 z19) 109 28 (Int32.ofInt 3)) 109 27 z119).2.2.1 109 22).toInt := by have b0 : z119 = (sF (sF (sF (sF sc0 109 29 w0_109_27) 109 30 z19) 109 28 (Int32.ofInt 3)) 109 27 z119).2.2.1 109 27 := sF_get; have b1 : u_109_22 = (sF (sF (sF (sF sc0 109 29 w0_109_27) 109 30 z19) 109 28 (Int32.ofInt 3)) 109 27 z119).2.2.1 109 22 := sF_ne rfl (sF_ne rfl (sF_ne rfl (sF_ne rfl (fr_F e_109_22 hFc0 rfl)))); rw [← b0, ← b1]; exact n198
                                    have n198b : (u_109_27).toInt ≤ (z119).toInt := by have a0 := oa5 i8a i8 ((in_c 1 rfl)) i156 i119; have a5 := t_add e119 i8 (in_c 1 rfl) rfl; have a6 := in_u ((in_c 3 rfl)); omega
                                    have n198c : (s.2.2.1 109 27).toInt ≤ ((sF (sF (sF (sF sc0 109 29 w0_109_27) 109 30 z19) 109 28 (Int32.ofInt 3)) 109 27 z119).2.2.1 109 27).toInt := by have b0 : z119 = (sF (sF (sF (sF sc0 109 29 w0_109_27) 109 30 z19) 109 28 (Int32.ofInt 3)) 109 27 z119).2.2.1 109 27 := sF_get; first | (rw [← b0, ← e_109_27]; exact n198b) | (rw [← b0]; exact n198b)
                                    have n198d : ((Int32.ofInt 3)).toInt ≠ 0 → (u_109_27).toInt + 1 ≤ (z119).toInt := by have a0 := oa5 i8a i8 ((in_c 1 rfl)) i156 i119; have a5 := t_add e119 i8 (in_c 1 rfl) rfl; have a6 := in_u ((in_c 3 rfl)); omega
                                    have n198e : ((sF (sF (sF (sF sc0 109 29 w0_109_27) 109 30 z19) 109 28 (Int32.ofInt 3)) 109 27 z119).2.2.1 109 28).toInt ≠ 0 → (s.2.2.1 109 27).toInt + 1 ≤ ((sF (sF (sF (sF sc0 109 29 w0_109_27) 109 30 z19) 109 28 (Int32.ofInt 3)) 109 27 z119).2.2.1 109 27).toInt := by have b0 : (Int32.ofInt 3) = (sF (sF (sF (sF sc0 109 29 w0_109_27) 109 30 z19) 109 28 (Int32.ofInt 3)) 109 27 z119).2.2.1 109 28 := sF_ne rfl (sF_get); have b1 : z119 = (sF (sF (sF (sF sc0 109 29 w0_109_27) 109 30 z19) 109 28 (Int32.ofInt 3)) 109 27 z119).2.2.1 109 27 := sF_get; first | (rw [← b0, ← b1, ← e_109_27]; exact n198d) | (rw [← b0, ← b1]; exact n198d)
                                    exact g_return (gd rfl) rfl (hP _ _ ⟨(sF (sF (sF (sF sc0 109 29 w0_109_27) 109 30 z19) 109 28 (Int32.ofInt 3)) 109 27 z119), hI120, (fr_sF rfl (fr_sF rfl (fr_sF rfl (fr_sF rfl hFc0)))), n198a, n198c, n198e, rfl, rfl⟩)
                                  · skip
                                    exact zn_eq c186 (in_c 1 rfl) rfl
                              · skip
                                refine g_iload_n 160 (gd rfl) rfl rfl ?_
                                refine g_bipush 40 162 (gd rfl) rfl rfl ?_
                                refine g_cmp_eq 165 171 (gd rfl) rfl rfl (fun c162 => ?_) (fun c162 => ?_)
                                · skip
                                  have i162 := r_eq1 40 40 c162 i79x3 (in_c 40 rfl) rfl
                                  refine g_iconst 1 172 (gd rfl) rfl rfl ?_
                                  refine g_goto 176 (gd rfl) rfl ?_
                                  refine g_istore_n 177 (gd rfl) rfl (Nat.le_of_ble_eq_true rfl) ?_
                                  refine g_aload_n 178 (gd rfl) rfl rfl ?_
                                  refine g_getI 181 (gd rfl) rfl rfl rfl (fun z178 e178 => ?_)
                                  have q178 : (Int32.ofInt 3) = z178 := (sF_ne rfl (sF_get)).trans e178.symm
                                  subst q178
                                  refine g_iconst 3 182 (gd rfl) rfl rfl ?_
                                  refine g_cmp_ne 185 198 (gd rfl) rfl rfl (fun c182 => ?_) (fun c182 => ?_)
                                  · skip
                                    exact n_ne c182 (in_c 3 rfl) (in_c 3 rfl) rfl
                                  · skip
                                    refine g_iload_n 186 (gd rfl) rfl rfl ?_
                                    refine g_if_ne 189 198 (gd rfl) rfl rfl (fun c186 => ?_) (fun c186 => ?_)
                                    · skip
                                      have n198 : (z119).toInt ≤ (u_109_22).toInt := by have a0 := oa5 i8a i8 ((in_c 1 rfl)) i162 i119; have a5 := t_add e119 i8 (in_c 1 rfl) rfl; have a6 := in_u ((in_c 3 rfl)); omega
                                      have n198a : ((sF (sF (sF (sF sc0 109 29 w0_109_27) 109 30 z19) 109 28 (Int32.ofInt 3)) 109 27 z119).2.2.1 109 27).toInt ≤ ((sF (sF (sF (sF sc0 109 29 w0_109_27) 109 30 z19) 109 28 (Int32.ofInt 3)) 109 27 z119).2.2.1 109 22).toInt := by have b0 : z119 = (sF (sF (sF (sF sc0 109 29 w0_109_27) 109 30 z19) 109 28 (Int32.ofInt 3)) 109 27 z119).2.2.1 109 27 := sF_get; have b1 : u_109_22 = (sF (sF (sF (sF sc0 109 29 w0_109_27) 109 30 z19) 109 28 (Int32.ofInt 3)) 109 27 z119).2.2.1 109 22 := sF_ne rfl (sF_ne rfl (sF_ne rfl (sF_ne rfl (fr_F e_109_22 hFc0 rfl)))); rw [← b0, ← b1]; exact n198
                                      have n198b : (u_109_27).toInt ≤ (z119).toInt := by have a0 := oa5 i8a i8 ((in_c 1 rfl)) i162 i119; have a5 := t_add e119 i8 (in_c 1 rfl) rfl; have a6 := in_u ((in_c 3 rfl)); omega
                                      have n198c : (s.2.2.1 109 27).toInt ≤ ((sF (sF (sF (sF sc0 109 29 w0_109_27) 109 30 z19) 109 28 (Int32.ofInt 3)) 109 27 z119).2.2.1 109 27).toInt := by have b0 : z119 = (sF (sF (sF (sF sc0 109 29 w0_109_27) 109 30 z19) 109 28 (Int32.ofInt 3)) 109 27 z119).2.2.1 109 27 := sF_get; first | (rw [← b0, ← e_109_27]; exact n198b) | (rw [← b0]; exact n198b)
                                      have n198d : ((Int32.ofInt 3)).toInt ≠ 0 → (u_109_27).toInt + 1 ≤ (z119).toInt := by have a0 := oa5 i8a i8 ((in_c 1 rfl)) i162 i119; have a5 := t_add e119 i8 (in_c 1 rfl) rfl; have a6 := in_u ((in_c 3 rfl)); omega
                                      have n198e : ((sF (sF (sF (sF sc0 109 29 w0_109_27) 109 30 z19) 109 28 (Int32.ofInt 3)) 109 27 z119).2.2.1 109 28).toInt ≠ 0 → (s.2.2.1 109 27).toInt + 1 ≤ ((sF (sF (sF (sF sc0 109 29 w0_109_27) 109 30 z19) 109 28 (Int32.ofInt 3)) 109 27 z119).2.2.1 109 27).toInt := by have b0 : (Int32.ofInt 3) = (sF (sF (sF (sF sc0 109 29 w0_109_27) 109 30 z19) 109 28 (Int32.ofInt 3)) 109 27 z119).2.2.1 109 28 := sF_ne rfl (sF_get); have b1 : z119 = (sF (sF (sF (sF sc0 109 29 w0_109_27) 109 30 z19) 109 28 (Int32.ofInt 3)) 109 27 z119).2.2.1 109 27 := sF_get; first | (rw [← b0, ← b1, ← e_109_27]; exact n198d) | (rw [← b0, ← b1]; exact n198d)
                                      exact g_return (gd rfl) rfl (hP _ _ ⟨(sF (sF (sF (sF sc0 109 29 w0_109_27) 109 30 z19) 109 28 (Int32.ofInt 3)) 109 27 z119), hI120, (fr_sF rfl (fr_sF rfl (fr_sF rfl (fr_sF rfl hFc0)))), n198a, n198c, n198e, rfl, rfl⟩)
                                    · skip
                                      exact zn_eq c186 (in_c 1 rfl) rfl
                                · skip
                                  refine g_iload_n 166 (gd rfl) rfl rfl ?_
                                  refine g_bipush 41 168 (gd rfl) rfl rfl ?_
                                  refine g_cmp_ne 171 175 (gd rfl) rfl rfl (fun c168 => ?_) (fun c168 => ?_)
                                  · skip
                                    refine g_iconst 0 176 (gd rfl) rfl rfl ?_
                                    refine g_istore_n 177 (gd rfl) rfl (Nat.le_of_ble_eq_true rfl) ?_
                                    refine g_aload_n 178 (gd rfl) rfl rfl ?_
                                    refine g_getI 181 (gd rfl) rfl rfl rfl (fun z178 e178 => ?_)
                                    have q178 : (Int32.ofInt 3) = z178 := (sF_ne rfl (sF_get)).trans e178.symm
                                    subst q178
                                    refine g_iconst 3 182 (gd rfl) rfl rfl ?_
                                    refine g_cmp_ne 185 198 (gd rfl) rfl rfl (fun c182 => ?_) (fun c182 => ?_)
                                    · skip
                                      exact n_ne c182 (in_c 3 rfl) (in_c 3 rfl) rfl
                                    · skip
                                      refine g_iload_n 186 (gd rfl) rfl rfl ?_
                                      refine g_if_ne 189 198 (gd rfl) rfl rfl (fun c186 => ?_) (fun c186 => ?_)
                                      · skip
                                        exact zn_ne c186 (in_c 0 rfl) rfl
                                      · skip
                                        refine g_aload_n 190 (gd rfl) rfl rfl ?_
                                        refine g_iconst 1 191 (gd rfl) rfl rfl ?_
                                        refine g_aload_n 192 (gd rfl) rfl rfl ?_
                                        refine g_getI 195 (gd rfl) rfl rfl rfl (fun z192 e192 => ?_)
                                        have q192 : w0_109_27 = z192 := (sF_ne rfl (sF_ne rfl (sF_ne rfl (sF_get)))).trans e192.symm
                                        subst q192
                                        refine g_callv (X := _) (As := [.int (Int32.ofInt 1), .int w0_109_27]) (r := []) (b := A 109) (q := 109) 198 (gd rfl) rfl rfl rfl rfl rfl (ww_o rfl) (Nat.le_of_ble_eq_true rfl) (Nat.zero_le _) (Nat.zero_le _) (k_298 (by first | exact dq1 hd rfl | exact dq0 hd rfl | exact dq2 hd rfl | exact dq3 hd rfl | omega) hI120 (in_w 1 5 (in_c 1 rfl) rfl)) (fun e u h => h) (fun v u h => ?_)
                                        obtain ⟨s195, hI195, hF195, n195, rfl, rfl⟩ := h
                                        obtain ⟨z195a, e195⟩ : ∃ w, w = s195.2.2.1 109 23 := ⟨_, rfl⟩
                                        have i195a := inv_F hI195 0 9 rfl e195
                                        rw [← (show z195a = s195.2.2.1 109 23 from e195)] at n195
                                        show GG _ _ _ _ _ _ _ _ [] _ _ _
                                        have n198 : (z119).toInt ≤ (u_109_22).toInt := by have a0 := oa6 i8a i8 ((in_c 0 rfl)) i79x3 i195a i119; have a6 := t_add e119 i8 (in_c 1 rfl) rfl; have a7 := oa2 ((in_c 1 rfl)) ((in_c 3 rfl)); omega
                                        have n198a : (s195.2.2.1 109 27).toInt ≤ (s195.2.2.1 109 22).toInt := by have b0 : z119 = s195.2.2.1 109 27 := fr_F (s := (sF (sF (sF (sF sc0 109 29 w0_109_27) 109 30 z19) 109 28 (Int32.ofInt 3)) 109 27 z119)) (sF_get) hF195 rfl; have b1 : u_109_22 = s195.2.2.1 109 22 := fr_F (s := (sF (sF (sF (sF sc0 109 29 w0_109_27) 109 30 z19) 109 28 (Int32.ofInt 3)) 109 27 z119)) (sF_ne rfl (sF_ne rfl (sF_ne rfl (sF_ne rfl (fr_F e_109_22 hFc0 rfl))))) hF195 rfl; rw [← b0, ← b1]; exact n198
                                        have n198b : (u_109_27).toInt ≤ (z119).toInt := by have a0 := oa6 i8a i8 ((in_c 0 rfl)) i79x3 i195a i119; have a6 := t_add e119 i8 (in_c 1 rfl) rfl; have a7 := oa2 ((in_c 1 rfl)) ((in_c 3 rfl)); omega
                                        have n198c : (s.2.2.1 109 27).toInt ≤ (s195.2.2.1 109 27).toInt := by have b0 : z119 = s195.2.2.1 109 27 := fr_F (s := (sF (sF (sF (sF sc0 109 29 w0_109_27) 109 30 z19) 109 28 (Int32.ofInt 3)) 109 27 z119)) (sF_get) hF195 rfl; first | (rw [← b0, ← e_109_27]; exact n198b) | (rw [← b0]; exact n198b)
                                        have n198d : ((Int32.ofInt 3)).toInt ≠ 0 → (u_109_27).toInt + 1 ≤ (z119).toInt := by have a0 := oa6 i8a i8 ((in_c 0 rfl)) i79x3 i195a i119; have a6 := t_add e119 i8 (in_c 1 rfl) rfl; have a7 := oa2 ((in_c 1 rfl)) ((in_c 3 rfl)); omega
                                        have n198e : (s195.2.2.1 109 28).toInt ≠ 0 → (s.2.2.1 109 27).toInt + 1 ≤ (s195.2.2.1 109 27).toInt := by have b0 : (Int32.ofInt 3) = s195.2.2.1 109 28 := fr_F (s := (sF (sF (sF (sF sc0 109 29 w0_109_27) 109 30 z19) 109 28 (Int32.ofInt 3)) 109 27 z119)) (sF_ne rfl (sF_get)) hF195 rfl; have b1 : z119 = s195.2.2.1 109 27 := fr_F (s := (sF (sF (sF (sF sc0 109 29 w0_109_27) 109 30 z19) 109 28 (Int32.ofInt 3)) 109 27 z119)) (sF_get) hF195 rfl; first | (rw [← b0, ← b1, ← e_109_27]; exact n198d) | (rw [← b0, ← b1]; exact n198d)
                                        exact g_return (gd rfl) rfl (hP _ _ ⟨s195, hI195, (fr_tr rfl (fr_sF rfl (fr_sF rfl (fr_sF rfl (fr_sF rfl hFc0)))) hF195), n198a, n198c, n198e, rfl, rfl⟩)
                                  · skip
                                    have i168 := r_eq1 41 41 c168 i79x3 (in_c 41 rfl) rfl
                                    refine g_iconst 1 172 (gd rfl) rfl rfl ?_
                                    refine g_goto 176 (gd rfl) rfl ?_
                                    refine g_istore_n 177 (gd rfl) rfl (Nat.le_of_ble_eq_true rfl) ?_
                                    refine g_aload_n 178 (gd rfl) rfl rfl ?_
                                    refine g_getI 181 (gd rfl) rfl rfl rfl (fun z178 e178 => ?_)
                                    have q178 : (Int32.ofInt 3) = z178 := (sF_ne rfl (sF_get)).trans e178.symm
                                    subst q178
                                    refine g_iconst 3 182 (gd rfl) rfl rfl ?_
                                    refine g_cmp_ne 185 198 (gd rfl) rfl rfl (fun c182 => ?_) (fun c182 => ?_)
                                    · skip
                                      exact n_ne c182 (in_c 3 rfl) (in_c 3 rfl) rfl
                                    · skip
                                      refine g_iload_n 186 (gd rfl) rfl rfl ?_
                                      refine g_if_ne 189 198 (gd rfl) rfl rfl (fun c186 => ?_) (fun c186 => ?_)
                                      · skip
                                        have n198 : (z119).toInt ≤ (u_109_22).toInt := by have a0 := oa5 i8a i8 ((in_c 1 rfl)) i168 i119; have a5 := t_add e119 i8 (in_c 1 rfl) rfl; have a6 := in_u ((in_c 3 rfl)); omega
                                        have n198a : ((sF (sF (sF (sF sc0 109 29 w0_109_27) 109 30 z19) 109 28 (Int32.ofInt 3)) 109 27 z119).2.2.1 109 27).toInt ≤ ((sF (sF (sF (sF sc0 109 29 w0_109_27) 109 30 z19) 109 28 (Int32.ofInt 3)) 109 27 z119).2.2.1 109 22).toInt := by have b0 : z119 = (sF (sF (sF (sF sc0 109 29 w0_109_27) 109 30 z19) 109 28 (Int32.ofInt 3)) 109 27 z119).2.2.1 109 27 := sF_get; have b1 : u_109_22 = (sF (sF (sF (sF sc0 109 29 w0_109_27) 109 30 z19) 109 28 (Int32.ofInt 3)) 109 27 z119).2.2.1 109 22 := sF_ne rfl (sF_ne rfl (sF_ne rfl (sF_ne rfl (fr_F e_109_22 hFc0 rfl)))); rw [← b0, ← b1]; exact n198
                                        have n198b : (u_109_27).toInt ≤ (z119).toInt := by have a0 := oa5 i8a i8 ((in_c 1 rfl)) i168 i119; have a5 := t_add e119 i8 (in_c 1 rfl) rfl; have a6 := in_u ((in_c 3 rfl)); omega
                                        have n198c : (s.2.2.1 109 27).toInt ≤ ((sF (sF (sF (sF sc0 109 29 w0_109_27) 109 30 z19) 109 28 (Int32.ofInt 3)) 109 27 z119).2.2.1 109 27).toInt := by have b0 : z119 = (sF (sF (sF (sF sc0 109 29 w0_109_27) 109 30 z19) 109 28 (Int32.ofInt 3)) 109 27 z119).2.2.1 109 27 := sF_get; first | (rw [← b0, ← e_109_27]; exact n198b) | (rw [← b0]; exact n198b)
                                        have n198d : ((Int32.ofInt 3)).toInt ≠ 0 → (u_109_27).toInt + 1 ≤ (z119).toInt := by have a0 := oa5 i8a i8 ((in_c 1 rfl)) i168 i119; have a5 := t_add e119 i8 (in_c 1 rfl) rfl; have a6 := in_u ((in_c 3 rfl)); omega
                                        have n198e : ((sF (sF (sF (sF sc0 109 29 w0_109_27) 109 30 z19) 109 28 (Int32.ofInt 3)) 109 27 z119).2.2.1 109 28).toInt ≠ 0 → (s.2.2.1 109 27).toInt + 1 ≤ ((sF (sF (sF (sF sc0 109 29 w0_109_27) 109 30 z19) 109 28 (Int32.ofInt 3)) 109 27 z119).2.2.1 109 27).toInt := by have b0 : (Int32.ofInt 3) = (sF (sF (sF (sF sc0 109 29 w0_109_27) 109 30 z19) 109 28 (Int32.ofInt 3)) 109 27 z119).2.2.1 109 28 := sF_ne rfl (sF_get); have b1 : z119 = (sF (sF (sF (sF sc0 109 29 w0_109_27) 109 30 z19) 109 28 (Int32.ofInt 3)) 109 27 z119).2.2.1 109 27 := sF_get; first | (rw [← b0, ← b1, ← e_109_27]; exact n198d) | (rw [← b0, ← b1]; exact n198d)
                                        exact g_return (gd rfl) rfl (hP _ _ ⟨(sF (sF (sF (sF sc0 109 29 w0_109_27) 109 30 z19) 109 28 (Int32.ofInt 3)) 109 27 z119), hI120, (fr_sF rfl (fr_sF rfl (fr_sF rfl (fr_sF rfl hFc0)))), n198a, n198c, n198e, rfl, rfl⟩)
                                      · skip
                                        exact zn_eq c186 (in_c 1 rfl) rfl
                  · skip
                    exact zn_ne c102 (in_c 0 rfl) rfl
                · skip
                  exact n_le c99x3 (in_c 97 rfl) i79x3 rfl
              · skip
                exact zn_ne c82 (in_c 0 rfl) rfl
            · skip
              have i79x3 := r_le2 48 126 c79x3 (in_c 48 rfl) i19 rfl
              refine g_iload_n 7 (gd rfl) rfl rfl ?_
              refine g_bipush 57 9 (gd rfl) rfl rfl ?_
              refine g_cmp_gt 12 16 (gd rfl) rfl rfl (fun c79x9 => ?_) (fun c79x9 => ?_)
              · skip
                have i79x9 := r_lt2 58 126 c79x9 (in_c 57 rfl) i79x3 rfl
                refine g_iconst 0 17 (gd rfl) rfl rfl ?_
                refine g_ireturn (gd rfl) rfl (nb01 (in_w 0 1 (in_c 0 rfl) rfl)) (hp79 _ _ ?_)
                show GG _ _ _ _ _ _ _ _ [.int (Int32.ofInt 0)] _ _ _
                refine g_if_eq 85 97 (gd rfl) rfl rfl (fun c82 => ?_) (fun c82 => ?_)
                · skip
                  refine g_aload_n 98 (gd rfl) rfl rfl ?_
                  refine g_iload_n 99 (gd rfl) rfl rfl ?_
                  refine g_calls (As := [.int z19]) (r := [.ref (A 109)]) 102 (gd rfl) rfl rfl rfl rfl rfl (Nat.le_of_ble_eq_true rfl) (mc := 0) (ms := 0) (Nat.zero_le _) (Nat.zero_le _) (P := fun v u => _) ?_ (fun v u h => h)
                  intro po99 xx99 hp99 hx99
                  refine g_enter2 (k := 296) (N := 300) (by first | exact dq1 hd rfl | exact dq0 hd rfl | exact dq2 hd rfl | exact dq3 hd rfl | omega) rfl (Nat.le_of_ble_eq_true rfl) ?_
                  refine g_iload_n 1 (gd rfl) rfl rfl ?_
                  refine g_bipush 97 3 (gd rfl) rfl rfl ?_
                  refine g_cmp_lt 6 16 (gd rfl) rfl rfl (fun c99x3 => ?_) (fun c99x3 => ?_)
                  · skip
                    have i99x3 := r_lt1 58 96 c99x3 i79x9 (in_c 97 rfl) rfl
                    refine g_iconst 0 17 (gd rfl) rfl rfl ?_
                    refine g_ireturn (gd rfl) rfl (nb01 (in_w 0 1 (in_c 0 rfl) rfl)) (hp99 _ _ ?_)
                    show GG _ _ _ _ _ _ _ _ [.int (Int32.ofInt 0), .ref (A 109)] _ _ _
                    refine g_if_eq 105 109 (gd rfl) rfl rfl (fun c102 => ?_) (fun c102 => ?_)
                    · skip
                      refine g_iconst 3 110 (gd rfl) rfl rfl ?_
                      refine g_putI 113 (gd rfl) rfl rfl rfl rfl ?_
                      have hI110 := inv_sF (q := 109) (j := 28) hI75 rfl (in_w (-2147483648) 2147483647 (in_c 3 rfl) rfl)
                      refine g_aload_n 114 (gd rfl) rfl rfl ?_
                      refine g_dup 115 (gd rfl) rfl rfl ?_
                      refine g_getI 118 (gd rfl) rfl rfl rfl (fun z115 e115 => ?_)
                      have q115 : w0_109_27 = z115 := (sF_ne rfl (sF_ne rfl (sF_ne rfl (v0_109_27)))).trans e115.symm
                      subst q115
                      refine g_iconst 1 119 (gd rfl) rfl rfl ?_
                      refine g_iadd 120 (gd rfl) rfl (fun z119 e119 => ?_)
                      have i119 := in_add 1 1000 e119 i8 (in_c 1 rfl) rfl rfl
                      refine g_putI 123 (gd rfl) rfl rfl rfl rfl ?_
                      have hI120 := inv_sF (q := 109) (j := 27) hI110 rfl (in_w 0 1000 i119 rfl)
                      refine g_iload_n 124 (gd rfl) rfl rfl ?_
                      refine g_bipush 59 126 (gd rfl) rfl rfl ?_
                      refine g_cmp_eq 129 171 (gd rfl) rfl rfl (fun c126 => ?_) (fun c126 => ?_)
                      · skip
                        have i126 := r_eq1 59 59 c126 i99x3 (in_c 59 rfl) rfl
                        refine g_iconst 1 172 (gd rfl) rfl rfl ?_
                        refine g_goto 176 (gd rfl) rfl ?_
                        refine g_istore_n 177 (gd rfl) rfl (Nat.le_of_ble_eq_true rfl) ?_
                        refine g_aload_n 178 (gd rfl) rfl rfl ?_
                        refine g_getI 181 (gd rfl) rfl rfl rfl (fun z178 e178 => ?_)
                        have q178 : (Int32.ofInt 3) = z178 := (sF_ne rfl (sF_get)).trans e178.symm
                        subst q178
                        refine g_iconst 3 182 (gd rfl) rfl rfl ?_
                        refine g_cmp_ne 185 198 (gd rfl) rfl rfl (fun c182 => ?_) (fun c182 => ?_)
                        · skip
                          exact n_ne c182 (in_c 3 rfl) (in_c 3 rfl) rfl
                        · skip
                          refine g_iload_n 186 (gd rfl) rfl rfl ?_
                          refine g_if_ne 189 198 (gd rfl) rfl rfl (fun c186 => ?_) (fun c186 => ?_)
                          · skip
                            have n198 : (z119).toInt ≤ (u_109_22).toInt := by have a0 := oa5 i8a i8 ((in_c 1 rfl)) i126 i119; have a5 := t_add e119 i8 (in_c 1 rfl) rfl; have a6 := in_u ((in_c 3 rfl)); omega
                            have n198a : ((sF (sF (sF (sF sc0 109 29 w0_109_27) 109 30 z19) 109 28 (Int32.ofInt 3)) 109 27 z119).2.2.1 109 27).toInt ≤ ((sF (sF (sF (sF sc0 109 29 w0_109_27) 109 30 z19) 109 28 (Int32.ofInt 3)) 109 27 z119).2.2.1 109 22).toInt := by have b0 : z119 = (sF (sF (sF (sF sc0 109 29 w0_109_27) 109 30 z19) 109 28 (Int32.ofInt 3)) 109 27 z119).2.2.1 109 27 := sF_get; have b1 : u_109_22 = (sF (sF (sF (sF sc0 109 29 w0_109_27) 109 30 z19) 109 28 (Int32.ofInt 3)) 109 27 z119).2.2.1 109 22 := sF_ne rfl (sF_ne rfl (sF_ne rfl (sF_ne rfl (fr_F e_109_22 hFc0 rfl)))); rw [← b0, ← b1]; exact n198
                            have n198b : (u_109_27).toInt ≤ (z119).toInt := by have a0 := oa5 i8a i8 ((in_c 1 rfl)) i126 i119; have a5 := t_add e119 i8 (in_c 1 rfl) rfl; have a6 := in_u ((in_c 3 rfl)); omega
                            have n198c : (s.2.2.1 109 27).toInt ≤ ((sF (sF (sF (sF sc0 109 29 w0_109_27) 109 30 z19) 109 28 (Int32.ofInt 3)) 109 27 z119).2.2.1 109 27).toInt := by have b0 : z119 = (sF (sF (sF (sF sc0 109 29 w0_109_27) 109 30 z19) 109 28 (Int32.ofInt 3)) 109 27 z119).2.2.1 109 27 := sF_get; first | (rw [← b0, ← e_109_27]; exact n198b) | (rw [← b0]; exact n198b)
                            have n198d : ((Int32.ofInt 3)).toInt ≠ 0 → (u_109_27).toInt + 1 ≤ (z119).toInt := by have a0 := oa5 i8a i8 ((in_c 1 rfl)) i126 i119; have a5 := t_add e119 i8 (in_c 1 rfl) rfl; have a6 := in_u ((in_c 3 rfl)); omega
                            have n198e : ((sF (sF (sF (sF sc0 109 29 w0_109_27) 109 30 z19) 109 28 (Int32.ofInt 3)) 109 27 z119).2.2.1 109 28).toInt ≠ 0 → (s.2.2.1 109 27).toInt + 1 ≤ ((sF (sF (sF (sF sc0 109 29 w0_109_27) 109 30 z19) 109 28 (Int32.ofInt 3)) 109 27 z119).2.2.1 109 27).toInt := by have b0 : (Int32.ofInt 3) = (sF (sF (sF (sF sc0 109 29 w0_109_27) 109 30 z19) 109 28 (Int32.ofInt 3)) 109 27 z119).2.2.1 109 28 := sF_ne rfl (sF_get); have b1 : z119 = (sF (sF (sF (sF sc0 109 29 w0_109_27) 109 30 z19) 109 28 (Int32.ofInt 3)) 109 27 z119).2.2.1 109 27 := sF_get; first | (rw [← b0, ← b1, ← e_109_27]; exact n198d) | (rw [← b0, ← b1]; exact n198d)
                            exact g_return (gd rfl) rfl (hP _ _ ⟨(sF (sF (sF (sF sc0 109 29 w0_109_27) 109 30 z19) 109 28 (Int32.ofInt 3)) 109 27 z119), hI120, (fr_sF rfl (fr_sF rfl (fr_sF rfl (fr_sF rfl hFc0)))), n198a, n198c, n198e, rfl, rfl⟩)
                          · skip
                            exact zn_eq c186 (in_c 1 rfl) rfl
                      · skip
                        refine g_iload_n 130 (gd rfl) rfl rfl ?_
                        refine g_bipush 60 132 (gd rfl) rfl rfl ?_
                        refine g_cmp_eq 135 171 (gd rfl) rfl rfl (fun c132 => ?_) (fun c132 => ?_)
                        · skip
                          have i132 := r_eq1 60 60 c132 i99x3 (in_c 60 rfl) rfl
                          refine g_iconst 1 172 (gd rfl) rfl rfl ?_
                          refine g_goto 176 (gd rfl) rfl ?_
                          refine g_istore_n 177 (gd rfl) rfl (Nat.le_of_ble_eq_true rfl) ?_
                          refine g_aload_n 178 (gd rfl) rfl rfl ?_
                          refine g_getI 181 (gd rfl) rfl rfl rfl (fun z178 e178 => ?_)
                          have q178 : (Int32.ofInt 3) = z178 := (sF_ne rfl (sF_get)).trans e178.symm
                          subst q178
                          refine g_iconst 3 182 (gd rfl) rfl rfl ?_
                          refine g_cmp_ne 185 198 (gd rfl) rfl rfl (fun c182 => ?_) (fun c182 => ?_)
                          · skip
                            exact n_ne c182 (in_c 3 rfl) (in_c 3 rfl) rfl
                          · skip
                            refine g_iload_n 186 (gd rfl) rfl rfl ?_
                            refine g_if_ne 189 198 (gd rfl) rfl rfl (fun c186 => ?_) (fun c186 => ?_)
                            · skip
                              have n198 : (z119).toInt ≤ (u_109_22).toInt := by have a0 := oa5 i8a i8 ((in_c 1 rfl)) i132 i119; have a5 := t_add e119 i8 (in_c 1 rfl) rfl; have a6 := in_u ((in_c 3 rfl)); omega
                              have n198a : ((sF (sF (sF (sF sc0 109 29 w0_109_27) 109 30 z19) 109 28 (Int32.ofInt 3)) 109 27 z119).2.2.1 109 27).toInt ≤ ((sF (sF (sF (sF sc0 109 29 w0_109_27) 109 30 z19) 109 28 (Int32.ofInt 3)) 109 27 z119).2.2.1 109 22).toInt := by have b0 : z119 = (sF (sF (sF (sF sc0 109 29 w0_109_27) 109 30 z19) 109 28 (Int32.ofInt 3)) 109 27 z119).2.2.1 109 27 := sF_get; have b1 : u_109_22 = (sF (sF (sF (sF sc0 109 29 w0_109_27) 109 30 z19) 109 28 (Int32.ofInt 3)) 109 27 z119).2.2.1 109 22 := sF_ne rfl (sF_ne rfl (sF_ne rfl (sF_ne rfl (fr_F e_109_22 hFc0 rfl)))); rw [← b0, ← b1]; exact n198
                              have n198b : (u_109_27).toInt ≤ (z119).toInt := by have a0 := oa5 i8a i8 ((in_c 1 rfl)) i132 i119; have a5 := t_add e119 i8 (in_c 1 rfl) rfl; have a6 := in_u ((in_c 3 rfl)); omega
                              have n198c : (s.2.2.1 109 27).toInt ≤ ((sF (sF (sF (sF sc0 109 29 w0_109_27) 109 30 z19) 109 28 (Int32.ofInt 3)) 109 27 z119).2.2.1 109 27).toInt := by have b0 : z119 = (sF (sF (sF (sF sc0 109 29 w0_109_27) 109 30 z19) 109 28 (Int32.ofInt 3)) 109 27 z119).2.2.1 109 27 := sF_get; first | (rw [← b0, ← e_109_27]; exact n198b) | (rw [← b0]; exact n198b)
                              have n198d : ((Int32.ofInt 3)).toInt ≠ 0 → (u_109_27).toInt + 1 ≤ (z119).toInt := by have a0 := oa5 i8a i8 ((in_c 1 rfl)) i132 i119; have a5 := t_add e119 i8 (in_c 1 rfl) rfl; have a6 := in_u ((in_c 3 rfl)); omega
                              have n198e : ((sF (sF (sF (sF sc0 109 29 w0_109_27) 109 30 z19) 109 28 (Int32.ofInt 3)) 109 27 z119).2.2.1 109 28).toInt ≠ 0 → (s.2.2.1 109 27).toInt + 1 ≤ ((sF (sF (sF (sF sc0 109 29 w0_109_27) 109 30 z19) 109 28 (Int32.ofInt 3)) 109 27 z119).2.2.1 109 27).toInt := by have b0 : (Int32.ofInt 3) = (sF (sF (sF (sF sc0 109 29 w0_109_27) 109 30 z19) 109 28 (Int32.ofInt 3)) 109 27 z119).2.2.1 109 28 := sF_ne rfl (sF_get); have b1 : z119 = (sF (sF (sF (sF sc0 109 29 w0_109_27) 109 30 z19) 109 28 (Int32.ofInt 3)) 109 27 z119).2.2.1 109 27 := sF_get; first | (rw [← b0, ← b1, ← e_109_27]; exact n198d) | (rw [← b0, ← b1]; exact n198d)
                              exact g_return (gd rfl) rfl (hP _ _ ⟨(sF (sF (sF (sF sc0 109 29 w0_109_27) 109 30 z19) 109 28 (Int32.ofInt 3)) 109 27 z119), hI120, (fr_sF rfl (fr_sF rfl (fr_sF rfl (fr_sF rfl hFc0)))), n198a, n198c, n198e, rfl, rfl⟩)
                            · skip
                              exact zn_eq c186 (in_c 1 rfl) rfl
                        · skip
                          refine g_iload_n 136 (gd rfl) rfl rfl ?_
                          refine g_bipush 61 138 (gd rfl) rfl rfl ?_
                          refine g_cmp_eq 141 171 (gd rfl) rfl rfl (fun c138 => ?_) (fun c138 => ?_)
                          · skip
                            have i138 := r_eq1 61 61 c138 i99x3 (in_c 61 rfl) rfl
                            refine g_iconst 1 172 (gd rfl) rfl rfl ?_
                            refine g_goto 176 (gd rfl) rfl ?_
                            refine g_istore_n 177 (gd rfl) rfl (Nat.le_of_ble_eq_true rfl) ?_
                            refine g_aload_n 178 (gd rfl) rfl rfl ?_
                            refine g_getI 181 (gd rfl) rfl rfl rfl (fun z178 e178 => ?_)
                            have q178 : (Int32.ofInt 3) = z178 := (sF_ne rfl (sF_get)).trans e178.symm
                            subst q178
                            refine g_iconst 3 182 (gd rfl) rfl rfl ?_
                            refine g_cmp_ne 185 198 (gd rfl) rfl rfl (fun c182 => ?_) (fun c182 => ?_)
                            · skip
                              exact n_ne c182 (in_c 3 rfl) (in_c 3 rfl) rfl
                            · skip
                              refine g_iload_n 186 (gd rfl) rfl rfl ?_
                              refine g_if_ne 189 198 (gd rfl) rfl rfl (fun c186 => ?_) (fun c186 => ?_)
                              · skip
                                have n198 : (z119).toInt ≤ (u_109_22).toInt := by have a0 := oa5 i8a i8 ((in_c 1 rfl)) i138 i119; have a5 := t_add e119 i8 (in_c 1 rfl) rfl; have a6 := in_u ((in_c 3 rfl)); omega
                                have n198a : ((sF (sF (sF (sF sc0 109 29 w0_109_27) 109 30 z19) 109 28 (Int32.ofInt 3)) 109 27 z119).2.2.1 109 27).toInt ≤ ((sF (sF (sF (sF sc0 109 29 w0_109_27) 109 30 z19) 109 28 (Int32.ofInt 3)) 109 27 z119).2.2.1 109 22).toInt := by have b0 : z119 = (sF (sF (sF (sF sc0 109 29 w0_109_27) 109 30 z19) 109 28 (Int32.ofInt 3)) 109 27 z119).2.2.1 109 27 := sF_get; have b1 : u_109_22 = (sF (sF (sF (sF sc0 109 29 w0_109_27) 109 30 z19) 109 28 (Int32.ofInt 3)) 109 27 z119).2.2.1 109 22 := sF_ne rfl (sF_ne rfl (sF_ne rfl (sF_ne rfl (fr_F e_109_22 hFc0 rfl)))); rw [← b0, ← b1]; exact n198
                                have n198b : (u_109_27).toInt ≤ (z119).toInt := by have a0 := oa5 i8a i8 ((in_c 1 rfl)) i138 i119; have a5 := t_add e119 i8 (in_c 1 rfl) rfl; have a6 := in_u ((in_c 3 rfl)); omega
                                have n198c : (s.2.2.1 109 27).toInt ≤ ((sF (sF (sF (sF sc0 109 29 w0_109_27) 109 30 z19) 109 28 (Int32.ofInt 3)) 109 27 z119).2.2.1 109 27).toInt := by have b0 : z119 = (sF (sF (sF (sF sc0 109 29 w0_109_27) 109 30 z19) 109 28 (Int32.ofInt 3)) 109 27 z119).2.2.1 109 27 := sF_get; first | (rw [← b0, ← e_109_27]; exact n198b) | (rw [← b0]; exact n198b)
                                have n198d : ((Int32.ofInt 3)).toInt ≠ 0 → (u_109_27).toInt + 1 ≤ (z119).toInt := by have a0 := oa5 i8a i8 ((in_c 1 rfl)) i138 i119; have a5 := t_add e119 i8 (in_c 1 rfl) rfl; have a6 := in_u ((in_c 3 rfl)); omega
                                have n198e : ((sF (sF (sF (sF sc0 109 29 w0_109_27) 109 30 z19) 109 28 (Int32.ofInt 3)) 109 27 z119).2.2.1 109 28).toInt ≠ 0 → (s.2.2.1 109 27).toInt + 1 ≤ ((sF (sF (sF (sF sc0 109 29 w0_109_27) 109 30 z19) 109 28 (Int32.ofInt 3)) 109 27 z119).2.2.1 109 27).toInt := by have b0 : (Int32.ofInt 3) = (sF (sF (sF (sF sc0 109 29 w0_109_27) 109 30 z19) 109 28 (Int32.ofInt 3)) 109 27 z119).2.2.1 109 28 := sF_ne rfl (sF_get); have b1 : z119 = (sF (sF (sF (sF sc0 109 29 w0_109_27) 109 30 z19) 109 28 (Int32.ofInt 3)) 109 27 z119).2.2.1 109 27 := sF_get; first | (rw [← b0, ← b1, ← e_109_27]; exact n198d) | (rw [← b0, ← b1]; exact n198d)
                                exact g_return (gd rfl) rfl (hP _ _ ⟨(sF (sF (sF (sF sc0 109 29 w0_109_27) 109 30 z19) 109 28 (Int32.ofInt 3)) 109 27 z119), hI120, (fr_sF rfl (fr_sF rfl (fr_sF rfl (fr_sF rfl hFc0)))), n198a, n198c, n198e, rfl, rfl⟩)
                              · skip
                                exact zn_eq c186 (in_c 1 rfl) rfl
                          · skip
                            refine g_iload_n 142 (gd rfl) rfl rfl ?_
                            refine g_bipush 43 144 (gd rfl) rfl rfl ?_
                            refine g_cmp_eq 147 171 (gd rfl) rfl rfl (fun c144 => ?_) (fun c144 => ?_)
                            · skip
                              exact n_eq c144 i99x3 (in_c 43 rfl) rfl
                            · skip
                              refine g_iload_n 148 (gd rfl) rfl rfl ?_
                              refine g_bipush 45 150 (gd rfl) rfl rfl ?_
                              refine g_cmp_eq 153 171 (gd rfl) rfl rfl (fun c150 => ?_) (fun c150 => ?_)
                              · skip
                                exact n_eq c150 i99x3 (in_c 45 rfl) rfl
                              · skip
                                refine g_iload_n 154 (gd rfl) rfl rfl ?_
                                refine g_bipush 42 156 (gd rfl) rfl rfl ?_
                                refine g_cmp_eq 159 171 (gd rfl) rfl rfl (fun c156 => ?_) (fun c156 => ?_)
                                · skip
                                  exact n_eq c156 i99x3 (in_c 42 rfl) rfl
                                · skip
                                  refine g_iload_n 160 (gd rfl) rfl rfl ?_
                                  refine g_bipush 40 162 (gd rfl) rfl rfl ?_
                                  refine g_cmp_eq 165 171 (gd rfl) rfl rfl (fun c162 => ?_) (fun c162 => ?_)
                                  · skip
                                    exact n_eq c162 i99x3 (in_c 40 rfl) rfl
                                  · skip
                                    refine g_iload_n 166 (gd rfl) rfl rfl ?_
                                    refine g_bipush 41 168 (gd rfl) rfl rfl ?_
                                    refine g_cmp_ne 171 175 (gd rfl) rfl rfl (fun c168 => ?_) (fun c168 => ?_)
                                    · skip
                                      refine g_iconst 0 176 (gd rfl) rfl rfl ?_
                                      refine g_istore_n 177 (gd rfl) rfl (Nat.le_of_ble_eq_true rfl) ?_
                                      refine g_aload_n 178 (gd rfl) rfl rfl ?_
                                      refine g_getI 181 (gd rfl) rfl rfl rfl (fun z178 e178 => ?_)
                                      have q178 : (Int32.ofInt 3) = z178 := (sF_ne rfl (sF_get)).trans e178.symm
                                      subst q178
                                      refine g_iconst 3 182 (gd rfl) rfl rfl ?_
                                      refine g_cmp_ne 185 198 (gd rfl) rfl rfl (fun c182 => ?_) (fun c182 => ?_)
                                      · skip
                                        exact n_ne c182 (in_c 3 rfl) (in_c 3 rfl) rfl
                                      · skip
                                        refine g_iload_n 186 (gd rfl) rfl rfl ?_
                                        refine g_if_ne 189 198 (gd rfl) rfl rfl (fun c186 => ?_) (fun c186 => ?_)
                                        · skip
                                          exact zn_ne c186 (in_c 0 rfl) rfl
                                        · skip
                                          refine g_aload_n 190 (gd rfl) rfl rfl ?_
                                          refine g_iconst 1 191 (gd rfl) rfl rfl ?_
                                          refine g_aload_n 192 (gd rfl) rfl rfl ?_
                                          refine g_getI 195 (gd rfl) rfl rfl rfl (fun z192 e192 => ?_)
                                          have q192 : w0_109_27 = z192 := (sF_ne rfl (sF_ne rfl (sF_ne rfl (sF_get)))).trans e192.symm
                                          subst q192
                                          refine g_callv (X := _) (As := [.int (Int32.ofInt 1), .int w0_109_27]) (r := []) (b := A 109) (q := 109) 198 (gd rfl) rfl rfl rfl rfl rfl (ww_o rfl) (Nat.le_of_ble_eq_true rfl) (Nat.zero_le _) (Nat.zero_le _) (k_298 (by first | exact dq1 hd rfl | exact dq0 hd rfl | exact dq2 hd rfl | exact dq3 hd rfl | omega) hI120 (in_w 1 5 (in_c 1 rfl) rfl)) (fun e u h => h) (fun v u h => ?_)
                                          obtain ⟨s195, hI195, hF195, n195, rfl, rfl⟩ := h
                                          obtain ⟨z195a, e195⟩ : ∃ w, w = s195.2.2.1 109 23 := ⟨_, rfl⟩
                                          have i195a := inv_F hI195 0 9 rfl e195
                                          rw [← (show z195a = s195.2.2.1 109 23 from e195)] at n195
                                          show GG _ _ _ _ _ _ _ _ [] _ _ _
                                          have n198 : (z119).toInt ≤ (u_109_22).toInt := by have a0 := oa6 i8a i8 ((in_c 0 rfl)) i99x3 i195a i119; have a6 := t_add e119 i8 (in_c 1 rfl) rfl; have a7 := oa2 ((in_c 1 rfl)) ((in_c 3 rfl)); omega
                                          have n198a : (s195.2.2.1 109 27).toInt ≤ (s195.2.2.1 109 22).toInt := by have b0 : z119 = s195.2.2.1 109 27 := fr_F (s := (sF (sF (sF (sF sc0 109 29 w0_109_27) 109 30 z19) 109 28 (Int32.ofInt 3)) 109 27 z119)) (sF_get) hF195 rfl; have b1 : u_109_22 = s195.2.2.1 109 22 := fr_F (s := (sF (sF (sF (sF sc0 109 29 w0_109_27) 109 30 z19) 109 28 (Int32.ofInt 3)) 109 27 z119)) (sF_ne rfl (sF_ne rfl (sF_ne rfl (sF_ne rfl (fr_F e_109_22 hFc0 rfl))))) hF195 rfl; rw [← b0, ← b1]; exact n198
                                          have n198b : (u_109_27).toInt ≤ (z119).toInt := by have a0 := oa6 i8a i8 ((in_c 0 rfl)) i99x3 i195a i119; have a6 := t_add e119 i8 (in_c 1 rfl) rfl; have a7 := oa2 ((in_c 1 rfl)) ((in_c 3 rfl)); omega
                                          have n198c : (s.2.2.1 109 27).toInt ≤ (s195.2.2.1 109 27).toInt := by have b0 : z119 = s195.2.2.1 109 27 := fr_F (s := (sF (sF (sF (sF sc0 109 29 w0_109_27) 109 30 z19) 109 28 (Int32.ofInt 3)) 109 27 z119)) (sF_get) hF195 rfl; first | (rw [← b0, ← e_109_27]; exact n198b) | (rw [← b0]; exact n198b)
                                          have n198d : ((Int32.ofInt 3)).toInt ≠ 0 → (u_109_27).toInt + 1 ≤ (z119).toInt := by have a0 := oa6 i8a i8 ((in_c 0 rfl)) i99x3 i195a i119; have a6 := t_add e119 i8 (in_c 1 rfl) rfl; have a7 := oa2 ((in_c 1 rfl)) ((in_c 3 rfl)); omega
                                          have n198e : (s195.2.2.1 109 28).toInt ≠ 0 → (s.2.2.1 109 27).toInt + 1 ≤ (s195.2.2.1 109 27).toInt := by have b0 : (Int32.ofInt 3) = s195.2.2.1 109 28 := fr_F (s := (sF (sF (sF (sF sc0 109 29 w0_109_27) 109 30 z19) 109 28 (Int32.ofInt 3)) 109 27 z119)) (sF_ne rfl (sF_get)) hF195 rfl; have b1 : z119 = s195.2.2.1 109 27 := fr_F (s := (sF (sF (sF (sF sc0 109 29 w0_109_27) 109 30 z19) 109 28 (Int32.ofInt 3)) 109 27 z119)) (sF_get) hF195 rfl; first | (rw [← b0, ← b1, ← e_109_27]; exact n198d) | (rw [← b0, ← b1]; exact n198d)
                                          exact g_return (gd rfl) rfl (hP _ _ ⟨s195, hI195, (fr_tr rfl (fr_sF rfl (fr_sF rfl (fr_sF rfl (fr_sF rfl hFc0)))) hF195), n198a, n198c, n198e, rfl, rfl⟩)
                                    · skip
                                      exact n_eq c168 i99x3 (in_c 41 rfl) rfl
                    · skip
                      exact zn_ne c102 (in_c 0 rfl) rfl
                  · skip
                    have i99x3 := r_le2 97 126 c99x3 (in_c 97 rfl) i79x9 rfl
                    refine g_iload_n 7 (gd rfl) rfl rfl ?_
                    refine g_bipush 122 9 (gd rfl) rfl rfl ?_
                    refine g_cmp_gt 12 16 (gd rfl) rfl rfl (fun c99x9 => ?_) (fun c99x9 => ?_)
                    · skip
                      have i99x9 := r_lt2 123 126 c99x9 (in_c 122 rfl) i99x3 rfl
                      refine g_iconst 0 17 (gd rfl) rfl rfl ?_
                      refine g_ireturn (gd rfl) rfl (nb01 (in_w 0 1 (in_c 0 rfl) rfl)) (hp99 _ _ ?_)
                      show GG _ _ _ _ _ _ _ _ [.int (Int32.ofInt 0), .ref (A 109)] _ _ _
                      refine g_if_eq 105 109 (gd rfl) rfl rfl (fun c102 => ?_) (fun c102 => ?_)
                      · skip
                        refine g_iconst 3 110 (gd rfl) rfl rfl ?_
                        refine g_putI 113 (gd rfl) rfl rfl rfl rfl ?_
                        have hI110 := inv_sF (q := 109) (j := 28) hI75 rfl (in_w (-2147483648) 2147483647 (in_c 3 rfl) rfl)
                        refine g_aload_n 114 (gd rfl) rfl rfl ?_
                        refine g_dup 115 (gd rfl) rfl rfl ?_
                        refine g_getI 118 (gd rfl) rfl rfl rfl (fun z115 e115 => ?_)
                        have q115 : w0_109_27 = z115 := (sF_ne rfl (sF_ne rfl (sF_ne rfl (v0_109_27)))).trans e115.symm
                        subst q115
                        refine g_iconst 1 119 (gd rfl) rfl rfl ?_
                        refine g_iadd 120 (gd rfl) rfl (fun z119 e119 => ?_)
                        have i119 := in_add 1 1000 e119 i8 (in_c 1 rfl) rfl rfl
                        refine g_putI 123 (gd rfl) rfl rfl rfl rfl ?_
                        have hI120 := inv_sF (q := 109) (j := 27) hI110 rfl (in_w 0 1000 i119 rfl)
                        refine g_iload_n 124 (gd rfl) rfl rfl ?_
                        refine g_bipush 59 126 (gd rfl) rfl rfl ?_
                        refine g_cmp_eq 129 171 (gd rfl) rfl rfl (fun c126 => ?_) (fun c126 => ?_)
                        · skip
                          exact n_eq c126 i99x9 (in_c 59 rfl) rfl
                        · skip
                          refine g_iload_n 130 (gd rfl) rfl rfl ?_
                          refine g_bipush 60 132 (gd rfl) rfl rfl ?_
                          refine g_cmp_eq 135 171 (gd rfl) rfl rfl (fun c132 => ?_) (fun c132 => ?_)
                          · skip
                            exact n_eq c132 i99x9 (in_c 60 rfl) rfl
                          · skip
                            refine g_iload_n 136 (gd rfl) rfl rfl ?_
                            refine g_bipush 61 138 (gd rfl) rfl rfl ?_
                            refine g_cmp_eq 141 171 (gd rfl) rfl rfl (fun c138 => ?_) (fun c138 => ?_)
                            · skip
                              exact n_eq c138 i99x9 (in_c 61 rfl) rfl
                            · skip
                              refine g_iload_n 142 (gd rfl) rfl rfl ?_
                              refine g_bipush 43 144 (gd rfl) rfl rfl ?_
                              refine g_cmp_eq 147 171 (gd rfl) rfl rfl (fun c144 => ?_) (fun c144 => ?_)
                              · skip
                                exact n_eq c144 i99x9 (in_c 43 rfl) rfl
                              · skip
                                refine g_iload_n 148 (gd rfl) rfl rfl ?_
                                refine g_bipush 45 150 (gd rfl) rfl rfl ?_
                                refine g_cmp_eq 153 171 (gd rfl) rfl rfl (fun c150 => ?_) (fun c150 => ?_)
                                · skip
                                  exact n_eq c150 i99x9 (in_c 45 rfl) rfl
                                · skip
                                  refine g_iload_n 154 (gd rfl) rfl rfl ?_
                                  refine g_bipush 42 156 (gd rfl) rfl rfl ?_
                                  refine g_cmp_eq 159 171 (gd rfl) rfl rfl (fun c156 => ?_) (fun c156 => ?_)
                                  · skip
                                    exact n_eq c156 i99x9 (in_c 42 rfl) rfl
                                  · skip
                                    refine g_iload_n 160 (gd rfl) rfl rfl ?_
                                    refine g_bipush 40 162 (gd rfl) rfl rfl ?_
                                    refine g_cmp_eq 165 171 (gd rfl) rfl rfl (fun c162 => ?_) (fun c162 => ?_)
                                    · skip
                                      exact n_eq c162 i99x9 (in_c 40 rfl) rfl
                                    · skip
                                      refine g_iload_n 166 (gd rfl) rfl rfl ?_
                                      refine g_bipush 41 168 (gd rfl) rfl rfl ?_
                                      refine g_cmp_ne 171 175 (gd rfl) rfl rfl (fun c168 => ?_) (fun c168 => ?_)
                                      · skip
                                        refine g_iconst 0 176 (gd rfl) rfl rfl ?_
                                        refine g_istore_n 177 (gd rfl) rfl (Nat.le_of_ble_eq_true rfl) ?_
                                        refine g_aload_n 178 (gd rfl) rfl rfl ?_
                                        refine g_getI 181 (gd rfl) rfl rfl rfl (fun z178 e178 => ?_)
                                        have q178 : (Int32.ofInt 3) = z178 := (sF_ne rfl (sF_get)).trans e178.symm
                                        subst q178
                                        refine g_iconst 3 182 (gd rfl) rfl rfl ?_
                                        refine g_cmp_ne 185 198 (gd rfl) rfl rfl (fun c182 => ?_) (fun c182 => ?_)
                                        · skip
                                          exact n_ne c182 (in_c 3 rfl) (in_c 3 rfl) rfl
                                        · skip
                                          refine g_iload_n 186 (gd rfl) rfl rfl ?_
                                          refine g_if_ne 189 198 (gd rfl) rfl rfl (fun c186 => ?_) (fun c186 => ?_)
                                          · skip
                                            exact zn_ne c186 (in_c 0 rfl) rfl
                                          · skip
                                            refine g_aload_n 190 (gd rfl) rfl rfl ?_
                                            refine g_iconst 1 191 (gd rfl) rfl rfl ?_
                                            refine g_aload_n 192 (gd rfl) rfl rfl ?_
                                            refine g_getI 195 (gd rfl) rfl rfl rfl (fun z192 e192 => ?_)
                                            have q192 : w0_109_27 = z192 := (sF_ne rfl (sF_ne rfl (sF_ne rfl (sF_get)))).trans e192.symm
                                            subst q192
                                            refine g_callv (X := _) (As := [.int (Int32.ofInt 1), .int w0_109_27]) (r := []) (b := A 109) (q := 109) 198 (gd rfl) rfl rfl rfl rfl rfl (ww_o rfl) (Nat.le_of_ble_eq_true rfl) (Nat.zero_le _) (Nat.zero_le _) (k_298 (by first | exact dq1 hd rfl | exact dq0 hd rfl | exact dq2 hd rfl | exact dq3 hd rfl | omega) hI120 (in_w 1 5 (in_c 1 rfl) rfl)) (fun e u h => h) (fun v u h => ?_)
                                            obtain ⟨s195, hI195, hF195, n195, rfl, rfl⟩ := h
                                            obtain ⟨z195a, e195⟩ : ∃ w, w = s195.2.2.1 109 23 := ⟨_, rfl⟩
                                            have i195a := inv_F hI195 0 9 rfl e195
                                            rw [← (show z195a = s195.2.2.1 109 23 from e195)] at n195
                                            show GG _ _ _ _ _ _ _ _ [] _ _ _
                                            have n198 : (z119).toInt ≤ (u_109_22).toInt := by have a0 := oa6 i8a i8 ((in_c 0 rfl)) i99x9 i195a i119; have a6 := t_add e119 i8 (in_c 1 rfl) rfl; have a7 := oa2 ((in_c 1 rfl)) ((in_c 3 rfl)); omega
                                            have n198a : (s195.2.2.1 109 27).toInt ≤ (s195.2.2.1 109 22).toInt := by have b0 : z119 = s195.2.2.1 109 27 := fr_F (s := (sF (sF (sF (sF sc0 109 29 w0_109_27) 109 30 z19) 109 28 (Int32.ofInt 3)) 109 27 z119)) (sF_get) hF195 rfl; have b1 : u_109_22 = s195.2.2.1 109 22 := fr_F (s := (sF (sF (sF (sF sc0 109 29 w0_109_27) 109 30 z19) 109 28 (Int32.ofInt 3)) 109 27 z119)) (sF_ne rfl (sF_ne rfl (sF_ne rfl (sF_ne rfl (fr_F e_109_22 hFc0 rfl))))) hF195 rfl; rw [← b0, ← b1]; exact n198
                                            have n198b : (u_109_27).toInt ≤ (z119).toInt := by have a0 := oa6 i8a i8 ((in_c 0 rfl)) i99x9 i195a i119; have a6 := t_add e119 i8 (in_c 1 rfl) rfl; have a7 := oa2 ((in_c 1 rfl)) ((in_c 3 rfl)); omega
                                            have n198c : (s.2.2.1 109 27).toInt ≤ (s195.2.2.1 109 27).toInt := by have b0 : z119 = s195.2.2.1 109 27 := fr_F (s := (sF (sF (sF (sF sc0 109 29 w0_109_27) 109 30 z19) 109 28 (Int32.ofInt 3)) 109 27 z119)) (sF_get) hF195 rfl; first | (rw [← b0, ← e_109_27]; exact n198b) | (rw [← b0]; exact n198b)
                                            have n198d : ((Int32.ofInt 3)).toInt ≠ 0 → (u_109_27).toInt + 1 ≤ (z119).toInt := by have a0 := oa6 i8a i8 ((in_c 0 rfl)) i99x9 i195a i119; have a6 := t_add e119 i8 (in_c 1 rfl) rfl; have a7 := oa2 ((in_c 1 rfl)) ((in_c 3 rfl)); omega
                                            have n198e : (s195.2.2.1 109 28).toInt ≠ 0 → (s.2.2.1 109 27).toInt + 1 ≤ (s195.2.2.1 109 27).toInt := by have b0 : (Int32.ofInt 3) = s195.2.2.1 109 28 := fr_F (s := (sF (sF (sF (sF sc0 109 29 w0_109_27) 109 30 z19) 109 28 (Int32.ofInt 3)) 109 27 z119)) (sF_ne rfl (sF_get)) hF195 rfl; have b1 : z119 = s195.2.2.1 109 27 := fr_F (s := (sF (sF (sF (sF sc0 109 29 w0_109_27) 109 30 z19) 109 28 (Int32.ofInt 3)) 109 27 z119)) (sF_get) hF195 rfl; first | (rw [← b0, ← b1, ← e_109_27]; exact n198d) | (rw [← b0, ← b1]; exact n198d)
                                            exact g_return (gd rfl) rfl (hP _ _ ⟨s195, hI195, (fr_tr rfl (fr_sF rfl (fr_sF rfl (fr_sF rfl (fr_sF rfl hFc0)))) hF195), n198a, n198c, n198e, rfl, rfl⟩)
                                      · skip
                                        exact n_eq c168 i99x9 (in_c 41 rfl) rfl
                      · skip
                        exact zn_ne c102 (in_c 0 rfl) rfl
                    · skip
                      have i99x9 := r_le1 97 122 c99x9 i99x3 (in_c 122 rfl) rfl
                      refine g_iconst 1 13 (gd rfl) rfl rfl ?_
                      refine g_goto 17 (gd rfl) rfl ?_
                      refine g_ireturn (gd rfl) rfl (nb01 (in_w 0 1 (in_c 1 rfl) rfl)) (hp99 _ _ ?_)
                      show GG _ _ _ _ _ _ _ _ [.int (Int32.ofInt 1), .ref (A 109)] _ _ _
                      refine g_if_eq 105 109 (gd rfl) rfl rfl (fun c102 => ?_) (fun c102 => ?_)
                      · skip
                        exact zn_eq c102 (in_c 1 rfl) rfl
                      · skip
                        refine g_iconst 1 106 (gd rfl) rfl rfl ?_
                        refine g_goto 110 (gd rfl) rfl ?_
                        refine g_putI 113 (gd rfl) rfl rfl rfl rfl ?_
                        have hI110 := inv_sF (q := 109) (j := 28) hI75 rfl (in_w (-2147483648) 2147483647 (in_c 1 rfl) rfl)
                        refine g_aload_n 114 (gd rfl) rfl rfl ?_
                        refine g_dup 115 (gd rfl) rfl rfl ?_
                        refine g_getI 118 (gd rfl) rfl rfl rfl (fun z115 e115 => ?_)
                        have q115 : w0_109_27 = z115 := (sF_ne rfl (sF_ne rfl (sF_ne rfl (v0_109_27)))).trans e115.symm
                        subst q115
                        refine g_iconst 1 119 (gd rfl) rfl rfl ?_
                        refine g_iadd 120 (gd rfl) rfl (fun z119 e119 => ?_)
                        have i119 := in_add 1 1000 e119 i8 (in_c 1 rfl) rfl rfl
                        refine g_putI 123 (gd rfl) rfl rfl rfl rfl ?_
                        have hI120 := inv_sF (q := 109) (j := 27) hI110 rfl (in_w 0 1000 i119 rfl)
                        refine g_iload_n 124 (gd rfl) rfl rfl ?_
                        refine g_bipush 59 126 (gd rfl) rfl rfl ?_
                        refine g_cmp_eq 129 171 (gd rfl) rfl rfl (fun c126 => ?_) (fun c126 => ?_)
                        · skip
                          exact n_eq c126 i99x9 (in_c 59 rfl) rfl
                        · skip
                          refine g_iload_n 130 (gd rfl) rfl rfl ?_
                          refine g_bipush 60 132 (gd rfl) rfl rfl ?_
                          refine g_cmp_eq 135 171 (gd rfl) rfl rfl (fun c132 => ?_) (fun c132 => ?_)
                          · skip
                            exact n_eq c132 i99x9 (in_c 60 rfl) rfl
                          · skip
                            refine g_iload_n 136 (gd rfl) rfl rfl ?_
                            refine g_bipush 61 138 (gd rfl) rfl rfl ?_
                            refine g_cmp_eq 141 171 (gd rfl) rfl rfl (fun c138 => ?_) (fun c138 => ?_)
                            · skip
                              exact n_eq c138 i99x9 (in_c 61 rfl) rfl
                            · skip
                              refine g_iload_n 142 (gd rfl) rfl rfl ?_
                              refine g_bipush 43 144 (gd rfl) rfl rfl ?_
                              refine g_cmp_eq 147 171 (gd rfl) rfl rfl (fun c144 => ?_) (fun c144 => ?_)
                              · skip
                                exact n_eq c144 i99x9 (in_c 43 rfl) rfl
                              · skip
                                refine g_iload_n 148 (gd rfl) rfl rfl ?_
                                refine g_bipush 45 150 (gd rfl) rfl rfl ?_
                                refine g_cmp_eq 153 171 (gd rfl) rfl rfl (fun c150 => ?_) (fun c150 => ?_)
                                · skip
                                  exact n_eq c150 i99x9 (in_c 45 rfl) rfl
                                · skip
                                  refine g_iload_n 154 (gd rfl) rfl rfl ?_
                                  refine g_bipush 42 156 (gd rfl) rfl rfl ?_
                                  refine g_cmp_eq 159 171 (gd rfl) rfl rfl (fun c156 => ?_) (fun c156 => ?_)
                                  · skip
                                    exact n_eq c156 i99x9 (in_c 42 rfl) rfl
                                  · skip
                                    refine g_iload_n 160 (gd rfl) rfl rfl ?_
                                    refine g_bipush 40 162 (gd rfl) rfl rfl ?_
                                    refine g_cmp_eq 165 171 (gd rfl) rfl rfl (fun c162 => ?_) (fun c162 => ?_)
                                    · skip
                                      exact n_eq c162 i99x9 (in_c 40 rfl) rfl
                                    · skip
                                      refine g_iload_n 166 (gd rfl) rfl rfl ?_
                                      refine g_bipush 41 168 (gd rfl) rfl rfl ?_
                                      refine g_cmp_ne 171 175 (gd rfl) rfl rfl (fun c168 => ?_) (fun c168 => ?_)
                                      · skip
                                        refine g_iconst 0 176 (gd rfl) rfl rfl ?_
                                        refine g_istore_n 177 (gd rfl) rfl (Nat.le_of_ble_eq_true rfl) ?_
                                        refine g_aload_n 178 (gd rfl) rfl rfl ?_
                                        refine g_getI 181 (gd rfl) rfl rfl rfl (fun z178 e178 => ?_)
                                        have q178 : (Int32.ofInt 1) = z178 := (sF_ne rfl (sF_get)).trans e178.symm
                                        subst q178
                                        refine g_iconst 3 182 (gd rfl) rfl rfl ?_
                                        refine g_cmp_ne 185 198 (gd rfl) rfl rfl (fun c182 => ?_) (fun c182 => ?_)
                                        · skip
                                          have n198 : (z119).toInt ≤ (u_109_22).toInt := by have a0 := oa5 i8a i8 ((in_c 0 rfl)) i99x9 i119; have a5 := t_add e119 i8 (in_c 1 rfl) rfl; have a6 := in_u ((in_c 1 rfl)); omega
                                          have n198a : ((sF (sF (sF (sF sc0 109 29 w0_109_27) 109 30 z19) 109 28 (Int32.ofInt 1)) 109 27 z119).2.2.1 109 27).toInt ≤ ((sF (sF (sF (sF sc0 109 29 w0_109_27) 109 30 z19) 109 28 (Int32.ofInt 1)) 109 27 z119).2.2.1 109 22).toInt := by have b0 : z119 = (sF (sF (sF (sF sc0 109 29 w0_109_27) 109 30 z19) 109 28 (Int32.ofInt 1)) 109 27 z119).2.2.1 109 27 := sF_get; have b1 : u_109_22 = (sF (sF (sF (sF sc0 109 29 w0_109_27) 109 30 z19) 109 28 (Int32.ofInt 1)) 109 27 z119).2.2.1 109 22 := sF_ne rfl (sF_ne rfl (sF_ne rfl (sF_ne rfl (fr_F e_109_22 hFc0 rfl)))); rw [← b0, ← b1]; exact n198
                                          have n198b : (u_109_27).toInt ≤ (z119).toInt := by have a0 := oa5 i8a i8 ((in_c 0 rfl)) i99x9 i119; have a5 := t_add e119 i8 (in_c 1 rfl) rfl; have a6 := in_u ((in_c 1 rfl)); omega
                                          have n198c : (s.2.2.1 109 27).toInt ≤ ((sF (sF (sF (sF sc0 109 29 w0_109_27) 109 30 z19) 109 28 (Int32.ofInt 1)) 109 27 z119).2.2.1 109 27).toInt := by have b0 : z119 = (sF (sF (sF (sF sc0 109 29 w0_109_27) 109 30 z19) 109 28 (Int32.ofInt 1)) 109 27 z119).2.2.1 109 27 := sF_get; first | (rw [← b0, ← e_109_27]; exact n198b) | (rw [← b0]; exact n198b)
                                          have n198d : ((Int32.ofInt 1)).toInt ≠ 0 → (u_109_27).toInt + 1 ≤ (z119).toInt := by have a0 := oa5 i8a i8 ((in_c 0 rfl)) i99x9 i119; have a5 := t_add e119 i8 (in_c 1 rfl) rfl; have a6 := in_u ((in_c 1 rfl)); omega
                                          have n198e : ((sF (sF (sF (sF sc0 109 29 w0_109_27) 109 30 z19) 109 28 (Int32.ofInt 1)) 109 27 z119).2.2.1 109 28).toInt ≠ 0 → (s.2.2.1 109 27).toInt + 1 ≤ ((sF (sF (sF (sF sc0 109 29 w0_109_27) 109 30 z19) 109 28 (Int32.ofInt 1)) 109 27 z119).2.2.1 109 27).toInt := by have b0 : (Int32.ofInt 1) = (sF (sF (sF (sF sc0 109 29 w0_109_27) 109 30 z19) 109 28 (Int32.ofInt 1)) 109 27 z119).2.2.1 109 28 := sF_ne rfl (sF_get); have b1 : z119 = (sF (sF (sF (sF sc0 109 29 w0_109_27) 109 30 z19) 109 28 (Int32.ofInt 1)) 109 27 z119).2.2.1 109 27 := sF_get; first | (rw [← b0, ← b1, ← e_109_27]; exact n198d) | (rw [← b0, ← b1]; exact n198d)
                                          exact g_return (gd rfl) rfl (hP _ _ ⟨(sF (sF (sF (sF sc0 109 29 w0_109_27) 109 30 z19) 109 28 (Int32.ofInt 1)) 109 27 z119), hI120, (fr_sF rfl (fr_sF rfl (fr_sF rfl (fr_sF rfl hFc0)))), n198a, n198c, n198e, rfl, rfl⟩)
                                        · skip
                                          exact n_eq c182 (in_c 1 rfl) (in_c 3 rfl) rfl
                                      · skip
                                        exact n_eq c168 i99x9 (in_c 41 rfl) rfl
                · skip
                  exact zn_ne c82 (in_c 0 rfl) rfl
              · skip
                have i79x9 := r_le1 48 57 c79x9 i79x3 (in_c 57 rfl) rfl
                refine g_iconst 1 13 (gd rfl) rfl rfl ?_
                refine g_goto 17 (gd rfl) rfl ?_
                refine g_ireturn (gd rfl) rfl (nb01 (in_w 0 1 (in_c 1 rfl) rfl)) (hp79 _ _ ?_)
                show GG _ _ _ _ _ _ _ _ [.int (Int32.ofInt 1)] _ _ _
                refine g_if_eq 85 97 (gd rfl) rfl rfl (fun c82 => ?_) (fun c82 => ?_)
                · skip
                  exact zn_eq c82 (in_c 1 rfl) rfl
                · skip
                  refine g_aload_n 86 (gd rfl) rfl rfl ?_
                  refine g_iconst 2 87 (gd rfl) rfl rfl ?_
                  refine g_putI 90 (gd rfl) rfl rfl rfl rfl ?_
                  have hI87 := inv_sF (q := 109) (j := 28) hI75 rfl (in_w (-2147483648) 2147483647 (in_c 2 rfl) rfl)
                  refine g_aload_n 91 (gd rfl) rfl rfl ?_
                  refine g_bipush 6 93 (gd rfl) rfl rfl ?_
                  have v93 : w0_109_27 = (sF (sF (sF sc0 109 29 w0_109_27) 109 30 z19) 109 28 (Int32.ofInt 2)).2.2.1 109 27 := sF_ne rfl (sF_ne rfl (sF_ne rfl (v0_109_27)))
                  have v93a : u_109_22 = (sF (sF (sF sc0 109 29 w0_109_27) 109 30 z19) 109 28 (Int32.ofInt 2)).2.2.1 109 22 := sF_ne rfl (sF_ne rfl (sF_ne rfl (fr_F e_109_22 hFc0 rfl)))
                  have n93 : (w0_109_27).toInt < (u_109_22).toInt := by have a0 := oa4 i8a i8 i79x9 ((in_c 2 rfl)); omega
                  have p93 : 48 ≤ ((sF (sF (sF sc0 109 29 w0_109_27) 109 30 z19) 109 28 (Int32.ofInt 2)).1 125 ((sF (sF (sF sc0 109 29 w0_109_27) 109 30 z19) 109 28 (Int32.ofInt 2)).2.2.1 109 27).toNatClampNeg).toInt ∧ ((sF (sF (sF sc0 109 29 w0_109_27) 109 30 z19) 109 28 (Int32.ofInt 2)).1 125 ((sF (sF (sF sc0 109 29 w0_109_27) 109 30 z19) 109 28 (Int32.ofInt 2)).2.2.1 109 27).toNatClampNeg).toInt ≤ 57 := by first | (have hz : z19 = (sF (sF (sF sc0 109 29 w0_109_27) 109 30 z19) 109 28 (Int32.ofInt 2)).1 125 ((sF (sF (sF sc0 109 29 w0_109_27) 109 30 z19) 109 28 (Int32.ofInt 2)).2.2.1 109 27).toNatClampNeg := (by rw [← (show w0_109_27 = (sF (sF (sF sc0 109 29 w0_109_27) 109 30 z19) 109 28 (Int32.ofInt 2)).2.2.1 109 27 from sF_ne rfl (sF_ne rfl (sF_ne rfl (v0_109_27))))]; exact e19); rw [← hz]; exact i79x9) | (have hz : z71 = (sF (sF (sF sc0 109 29 w0_109_27) 109 30 z19) 109 28 (Int32.ofInt 2)).1 125 ((sF (sF (sF sc0 109 29 w0_109_27) 109 30 z19) 109 28 (Int32.ofInt 2)).2.2.1 109 27).toNatClampNeg := (by rw [← (show w0_109_27 = (sF (sF (sF sc0 109 29 w0_109_27) 109 30 z19) 109 28 (Int32.ofInt 2)).2.2.1 109 27 from sF_ne rfl (sF_ne rfl (sF_ne rfl (v0_109_27))))]; exact e71); rw [← hz]; exact i79x9)
                  refine g_callv (X := _) (As := [.int (Int32.ofInt 6)]) (r := []) (b := A 109) (q := 109) 96 (gd rfl) rfl rfl rfl rfl rfl (ww_o rfl) (Nat.le_of_ble_eq_true rfl) (Nat.zero_le _) (Nat.zero_le _) (k_300 (by first | exact dq1 hd rfl | exact dq0 hd rfl | exact dq2 hd rfl | exact dq3 hd rfl | omega) hI87 (in_w 6 7 (in_c 6 rfl) rfl) v93 v93a n93 p93) (fun e u h => h) (fun v u h => ?_)
                  obtain ⟨s93, hI93, hF93, n93a, n93b, rfl, rfl⟩ := h
                  obtain ⟨z93a, e93⟩ : ∃ w, w = s93.2.2.1 109 27 := ⟨_, rfl⟩
                  have i93a := inv_F hI93 0 1000 rfl e93
                  rw [← (show z93a = s93.2.2.1 109 27 from e93)] at n93a
                  rw [← (show u_109_22 = s93.2.2.1 109 22 from fr_F (s := (sF (sF (sF sc0 109 29 w0_109_27) 109 30 z19) 109 28 (Int32.ofInt 2))) (sF_ne rfl (sF_ne rfl (sF_ne rfl (fr_F e_109_22 hFc0 rfl)))) hF93 rfl)] at n93a
                  rw [← (show w0_109_27 = (sF (sF (sF sc0 109 29 w0_109_27) 109 30 z19) 109 28 (Int32.ofInt 2)).2.2.1 109 27 from sF_ne rfl (sF_ne rfl (sF_ne rfl (v0_109_27))))] at n93b
                  rw [← (show z93a = s93.2.2.1 109 27 from e93)] at n93b
                  show GG _ _ _ _ _ _ _ _ [] _ _ _
                  have n96 : (z93a).toInt ≤ (u_109_22).toInt := by have a0 := oa5 i8a i8 i79x9 i93a ((in_c 2 rfl)); omega
                  have n96a : (s93.2.2.1 109 27).toInt ≤ (s93.2.2.1 109 22).toInt := by have b0 : z93a = s93.2.2.1 109 27 := e93; have b1 : u_109_22 = s93.2.2.1 109 22 := fr_F (s := (sF (sF (sF sc0 109 29 w0_109_27) 109 30 z19) 109 28 (Int32.ofInt 2))) (sF_ne rfl (sF_ne rfl (sF_ne rfl (fr_F e_109_22 hFc0 rfl)))) hF93 rfl; rw [← b0, ← b1]; exact n96
                  have n96b : (u_109_27).toInt ≤ (z93a).toInt := by have a0 := oa5 i8a i8 i79x9 i93a ((in_c 2 rfl)); omega
                  have n96c : (s.2.2.1 109 27).toInt ≤ (s93.2.2.1 109 27).toInt := by have b0 : z93a = s93.2.2.1 109 27 := e93; first | (rw [← b0, ← e_109_27]; exact n96b) | (rw [← b0]; exact n96b)
                  have n96d : ((Int32.ofInt 2)).toInt ≠ 0 → (u_109_27).toInt + 1 ≤ (z93a).toInt := by have a0 := oa5 i8a i8 i79x9 i93a ((in_c 2 rfl)); omega
                  have n96e : (s93.2.2.1 109 28).toInt ≠ 0 → (s.2.2.1 109 27).toInt + 1 ≤ (s93.2.2.1 109 27).toInt := by have b0 : (Int32.ofInt 2) = s93.2.2.1 109 28 := fr_F (s := (sF (sF (sF sc0 109 29 w0_109_27) 109 30 z19) 109 28 (Int32.ofInt 2))) (sF_get) hF93 rfl; have b1 : z93a = s93.2.2.1 109 27 := e93; first | (rw [← b0, ← b1, ← e_109_27]; exact n96d) | (rw [← b0, ← b1]; exact n96d)
                  exact g_return (gd rfl) rfl (hP _ _ ⟨s93, hI93, (fr_tr rfl (fr_sF rfl (fr_sF rfl (fr_sF rfl hFc0))) hF93), n96a, n96c, n96e, rfl, rfl⟩)
          · skip
            have i54 := r_eq1 1 999 c54 i8 i8a rfl
            have i54a := r_eq2 1 999 c54 i8 i8a rfl
            refine g_aload_n 58 (gd rfl) rfl rfl ?_
            refine g_iconst 0 59 (gd rfl) rfl rfl ?_
            refine g_putI 62 (gd rfl) rfl rfl rfl rfl ?_
            have hI59 := inv_sF (q := 109) (j := 28) hI43 rfl (in_w (-2147483648) 2147483647 (in_c 0 rfl) rfl)
            have n62 : (w0_109_27).toInt ≤ (u_109_22).toInt := by first | exact n0_0 | (have a0 := oa3 i54a i54 ((in_c 0 rfl)); omega)
            have n62a : ((sF (sF sc0 109 29 w0_109_27) 109 28 (Int32.ofInt 0)).2.2.1 109 27).toInt ≤ ((sF (sF sc0 109 29 w0_109_27) 109 28 (Int32.ofInt 0)).2.2.1 109 22).toInt := by have b0 : w0_109_27 = (sF (sF sc0 109 29 w0_109_27) 109 28 (Int32.ofInt 0)).2.2.1 109 27 := sF_ne rfl (sF_ne rfl (v0_109_27)); have b1 : u_109_22 = (sF (sF sc0 109 29 w0_109_27) 109 28 (Int32.ofInt 0)).2.2.1 109 22 := sF_ne rfl (sF_ne rfl (fr_F e_109_22 hFc0 rfl)); rw [← b0, ← b1]; exact n62
            have n62b : (u_109_27).toInt ≤ (w0_109_27).toInt := by first | exact n0_1 | (have a0 := oa3 i54a i54 ((in_c 0 rfl)); omega)
            have n62c : (s.2.2.1 109 27).toInt ≤ ((sF (sF sc0 109 29 w0_109_27) 109 28 (Int32.ofInt 0)).2.2.1 109 27).toInt := by have b0 : w0_109_27 = (sF (sF sc0 109 29 w0_109_27) 109 28 (Int32.ofInt 0)).2.2.1 109 27 := sF_ne rfl (sF_ne rfl (v0_109_27)); first | (rw [← b0, ← e_109_27]; exact n62b) | (rw [← b0]; exact n62b)
            have n62d : ((Int32.ofInt 0)).toInt ≠ 0 → (u_109_27).toInt + 1 ≤ (w0_109_27).toInt := by exact fun h => absurd rfl h
            have n62e : ((sF (sF sc0 109 29 w0_109_27) 109 28 (Int32.ofInt 0)).2.2.1 109 28).toInt ≠ 0 → (s.2.2.1 109 27).toInt + 1 ≤ ((sF (sF sc0 109 29 w0_109_27) 109 28 (Int32.ofInt 0)).2.2.1 109 27).toInt := by have b0 : (Int32.ofInt 0) = (sF (sF sc0 109 29 w0_109_27) 109 28 (Int32.ofInt 0)).2.2.1 109 28 := sF_get; have b1 : w0_109_27 = (sF (sF sc0 109 29 w0_109_27) 109 28 (Int32.ofInt 0)).2.2.1 109 27 := sF_ne rfl (sF_ne rfl (v0_109_27)); first | (rw [← b0, ← b1, ← e_109_27]; exact n62d) | (rw [← b0, ← b1]; exact n62d)
            exact g_return (gd rfl) rfl (hP _ _ ⟨(sF (sF sc0 109 29 w0_109_27) 109 28 (Int32.ofInt 0)), hI59, (fr_sF rfl (fr_sF rfl hFc0)), n62a, n62c, n62e, rfl, rfl⟩)
        · skip
          have i22 := r_eq1 32 32 c22 i19 (in_c 32 rfl) rfl
          refine g_aload_n 26 (gd rfl) rfl rfl ?_
          refine g_dup 27 (gd rfl) rfl rfl ?_
          refine g_getI 30 (gd rfl) rfl rfl rfl (fun z27 e27 => ?_)
          have q27 : w0_109_27 = z27 := (v0_109_27).trans e27.symm
          subst q27
          refine g_iconst 1 31 (gd rfl) rfl rfl ?_
          refine g_iadd 32 (gd rfl) rfl (fun z31 e31 => ?_)
          have i31 := in_add 1 1000 e31 i8 (in_c 1 rfl) rfl rfl
          refine g_putI 35 (gd rfl) rfl rfl rfl rfl ?_
          have hI32 := inv_sF (q := 109) (j := 27) hIc0 rfl (in_w 0 1000 i31 rfl)
          refine g_goto 0 (gd rfl) rfl ?_
          have v0 : z31 = (sF sc0 109 27 z31).2.2.1 109 27 := sF_get
          have n0 : (z31).toInt ≤ (u_109_22).toInt := by have a0 := oa3 i8a i8 i31; have a3 := t_add e31 i8 (in_c 1 rfl) rfl; have a4 := in_u ((in_c 1 rfl)); omega
          have n0a : (u_109_27).toInt ≤ (z31).toInt := by have a0 := oa3 i8a i8 i31; have a3 := t_add e31 i8 (in_c 1 rfl) rfl; have a4 := in_u ((in_c 1 rfl)); omega
          have m0 : (u_109_22).toInt - (z31).toInt < ((k0 : Nat) : Int) := by have a0 := oa3 i8a i8 i31; have a3 := t_add e31 i8 (in_c 1 rfl) rfl; have a4 := in_u ((in_c 1 rfl)); omega
          exact gg_w (by first | exact Nat.le_add_right _ _ | exact gw2 | exact gw3 | exact gwe rfl | exact gwf rfl | exact gwg rfl | exact gwh rfl | omega) (gg_f (gf_cons rfl gf_nil) (ih0  (sF sc0 109 27 z31) z31 hI32 (fr_sF rfl hFc0) v0 n0 n0a m0))
  refine g_enter2 (k := 392) (N := 901801) (by first | exact dq1 hd rfl | exact dq0 hd rfl | exact dq2 hd rfl | exact dq3 hd rfl | omega) rfl (Nat.le_of_ble_eq_true rfl) ?_
  have n0 : (u_109_27).toInt ≤ (u_109_22).toInt := by have a0 := oa2 ((inv_F hI 0 1000 rfl e_109_22)) ((inv_F hI 0 1000 rfl e_109_27)); omega
  have n0a : (u_109_27).toInt ≤ (u_109_27).toInt := by exact Int.le_refl _
  have m0 : (u_109_22).toInt - (u_109_27).toInt < ((1001 : Nat) : Int) := by have a0 := oa2 ((inv_F hI 0 1000 rfl e_109_22)) ((inv_F hI 0 1000 rfl e_109_27)); omega
  exact gg_w (by first | exact Nat.le_of_ble_eq_true rfl | omega) (gg_f (gf_cons rfl gf_nil) (ct0 1001 s u_109_27 hI fr_rf e_109_27 n0 n0a m0))

def fm_399 : FM := ([187, 188], [], [(109, 109), (109, 111), (109, 112)], [])
/-- GraphHouseModel.settle -/
theorem k_399 {Z : AmZ} {A : Nat → Nat} {s : GS} {ex : va_W} {d : Nat} {X : AmX} {x1 : Int32} {u_109_109 : Int32} {u_109_111 : Int32} (hd : 3 ≤ d) (hI : Inv s) (h1 : In x1 1 3) (e_109_109 : u_109_109 = s.2.2.1 109 109) (e_109_111 : u_109_111 = s.2.2.1 109 111) (p_0 : (u_109_109).toInt + (u_109_111).toInt ≤ 120) : GC Z d 399 [.ref (A 109), .int x1] (WW Z A s ++ ex) 0 0 (fun v u => ∃ t : GS, Inv t ∧ Fr fm_399 s t ∧ ((t.2.2.1 109 109).toInt + (t.2.2.1 109 111).toInt = (s.2.2.1 109 109).toInt + (s.2.2.1 109 111).toInt) ∧ v = none ∧ u = WW Z A t ++ ex ∧ (PR s t 1 1)) X := by
  intro post xp hP hX
  have ct0 : ∀ (k0 : Nat) (sc0 : GS) (w0_109_109 : Int32) (w0_109_111 : Int32), Inv sc0 → Fr fm_399 s sc0 → (w0_109_109 = sc0.2.2.1 109 109) → (w0_109_111 = sc0.2.2.1 109 111) → ((w0_109_109).toInt + (w0_109_111).toInt = (u_109_109).toInt + (u_109_111).toInt) → (PR s sc0 1 1) → (w0_109_111).toInt < (k0 : Int) → GG Z (d - 1) 399 post (gx xp) (1 + k0 * 900) 0 (fun j => xlook j [(0, .ref (A 109)), (1, .int x1)]) [] (WW Z A sc0 ++ ex) 0 0 := by
    intro k0
    induction k0 with
    | zero => intro sc0 w0_109_109 w0_109_111 hIc0 hFc0 v0_109_109 v0_109_111 n0_0 g0_0 mm0; exfalso; have a0 := oa3 h1 ((inv_F hIc0 0 200 rfl v0_109_111)) ((inv_F hIc0 0 400 rfl v0_109_109)); omega
    | succ k0 ih0 =>
      intro sc0 w0_109_109 w0_109_111 hIc0 hFc0 v0_109_109 v0_109_111 n0_0 g0_0 mm0
      refine gg_w (M := 1 + k0 * 900 + 900) gws ?_
      refine g_aload_n 1 (gd rfl) rfl rfl ?_
      refine g_getI 4 (gd rfl) rfl rfl rfl (fun z1 e1 => ?_)
      have q1 : w0_109_111 = z1 := (v0_109_111).trans e1.symm
      subst q1
      refine g_if_le 7 34 (gd rfl) rfl rfl (fun c4 => ?_) (fun c4 => ?_)
      · skip
        have i4 := z_le 0 0 c4 (inv_F hIc0 0 200 rfl v0_109_111) rfl
        have n34 : PR s sc0 1 1 := by exact g0_0
        have n34a : (w0_109_109).toInt + (w0_109_111).toInt = (u_109_109).toInt + (u_109_111).toInt := by first | exact n0_0 | (have a0 := oa3 h1 i4 ((inv_F hIc0 0 400 rfl v0_109_109)); omega)
        have n34b : (sc0.2.2.1 109 109).toInt + (sc0.2.2.1 109 111).toInt = (s.2.2.1 109 109).toInt + (s.2.2.1 109 111).toInt := by have b0 : w0_109_109 = sc0.2.2.1 109 109 := v0_109_109; have b1 : w0_109_111 = sc0.2.2.1 109 111 := v0_109_111; first | (rw [← b0, ← b1, ← e_109_109, ← e_109_111]; exact n34a) | (rw [← b0, ← b1]; exact n34a)
        exact g_return (gd rfl) rfl (hP _ _ ⟨sc0, hIc0, hFc0, n34b, rfl, rfl, n34⟩)
      · skip
        have i4 := z_gt 1 200 c4 (inv_F hIc0 0 200 rfl v0_109_111) rfl
        refine g_aload_n 8 (gd rfl) rfl rfl ?_
        refine g_callv (X := _) (As := []) (r := []) (b := A 109) (q := 109) 11 (gd rfl) rfl rfl rfl rfl rfl (ww_o rfl) (Nat.le_of_ble_eq_true rfl) (mc := 0) (ms := 0) (Nat.zero_le _) (Nat.zero_le _) (P := fun v u => _) ?_ (fun e u h => h) (fun v u h => h)
        intro po8 xx8 hp8 hx8
        refine g_enter2 (k := 395) (N := 300) (by first | exact dq1 hd rfl | exact dq0 hd rfl | exact dq2 hd rfl | exact dq3 hd rfl | omega) rfl (Nat.le_of_ble_eq_true rfl) ?_
        refine g_aload_n 1 (gd rfl) rfl rfl ?_
        refine g_getI 4 (gd rfl) rfl rfl rfl (fun z8x1 e8x1 => ?_)
        have q8x1 : w0_109_111 = z8x1 := (v0_109_111).trans e8x1.symm
        subst q8x1
        refine g_if_ne 7 11 (gd rfl) rfl rfl (fun c8x4 => ?_) (fun c8x4 => ?_)
        · skip
          refine g_aload_n 12 (gd rfl) rfl rfl ?_
          refine g_getA (q2 := 190) 15 (gd rfl) rfl rfl rfl rfl ?_
          refine g_aload_n 16 (gd rfl) rfl rfl ?_
          refine g_getI 19 (gd rfl) rfl rfl rfl (fun z8x16 e8x16 => ?_)
          have q8x16 : w0_109_111 = z8x16 := (v0_109_111).trans e8x16.symm
          subst q8x16
          refine g_iconst 1 20 (gd rfl) rfl rfl ?_
          refine g_isub 21 (gd rfl) rfl (fun z8x20 e8x20 => ?_)
          have i8x20 := in_sub 0 199 e8x20 i4 (in_c 1 rfl) rfl rfl
          refine g_iaload 22 (gd rfl) rfl (n := 200) rfl (in_ix i8x20 rfl) (fun z8x21 e8x21 => ?_)
          refine g_ireturn (gd rfl) rfl rfl (hp8 _ _ ?_)
          show GG _ _ _ _ _ _ _ _ [.int z8x21] _ _ _
          refine g_calls (As := [.int z8x21]) (r := []) 14 (gd rfl) rfl rfl rfl rfl rfl (Nat.le_of_ble_eq_true rfl) (mc := 0) (ms := 0) (Nat.zero_le _) (Nat.zero_le _) (P := fun v u => _) ?_ (fun v u h => h)
          intro po11 xx11 hp11 hx11
          refine g_enter2 (k := 398) (N := 300) (by first | exact dq1 hd rfl | exact dq0 hd rfl | exact dq2 hd rfl | exact dq3 hd rfl | omega) rfl (Nat.le_of_ble_eq_true rfl) ?_
          refine g_iload_n 1 (gd rfl) rfl rfl ?_
          refine g_bipush 42 3 (gd rfl) rfl rfl ?_
          refine g_cmp_ne 6 10 (gd rfl) rfl rfl (fun c11x3 => ?_) (fun c11x3 => ?_)
          · skip
            refine g_iload_n 11 (gd rfl) rfl rfl ?_
            refine g_bipush 43 13 (gd rfl) rfl rfl ?_
            refine g_cmp_eq 16 22 (gd rfl) rfl rfl (fun c11x13 => ?_) (fun c11x13 => ?_)
            · skip
              have i11x13 := r_eq1 43 43 c11x13 (i_rng z8x21) (in_c 43 rfl) rfl
              refine g_iconst 2 23 (gd rfl) rfl rfl ?_
              refine g_goto 43 (gd rfl) rfl ?_
              refine g_ireturn (gd rfl) rfl rfl (hp11 _ _ ?_)
              show GG _ _ _ _ _ _ _ _ [.int (Int32.ofInt 2)] _ _ _
              refine g_iload_n 15 (gd rfl) rfl rfl ?_
              refine g_cmp_lt 18 34 (gd rfl) rfl rfl (fun c15 => ?_) (fun c15 => ?_)
              · skip
                have i15 := r_lt2 3 3 c15 (in_c 2 rfl) h1 rfl
                have n34 : PR s sc0 1 1 := by exact g0_0
                have n34a : (w0_109_109).toInt + (w0_109_111).toInt = (u_109_109).toInt + (u_109_111).toInt := by first | exact n0_0 | (have a0 := oa4 i15 i4 ((inv_F hIc0 0 400 rfl v0_109_109)) i8x20; have a4 := t_sub e8x20 i4 (in_c 1 rfl) rfl; have a5 := in_u ((in_c 1 rfl)); omega)
                have n34b : (sc0.2.2.1 109 109).toInt + (sc0.2.2.1 109 111).toInt = (s.2.2.1 109 109).toInt + (s.2.2.1 109 111).toInt := by have b0 : w0_109_109 = sc0.2.2.1 109 109 := v0_109_109; have b1 : w0_109_111 = sc0.2.2.1 109 111 := v0_109_111; first | (rw [← b0, ← b1, ← e_109_109, ← e_109_111]; exact n34a) | (rw [← b0, ← b1]; exact n34a)
                exact g_return (gd rfl) rfl (hP _ _ ⟨sc0, hIc0, hFc0, n34b, rfl, rfl, n34⟩)
              · skip
                have i15 := r_le1 1 2 c15 h1 (in_c 2 rfl) rfl
                refine g_aload_n 19 (gd rfl) rfl rfl ?_
                refine g_aload_n 20 (gd rfl) rfl rfl ?_
                refine g_callv (X := _) (As := []) (r := [.ref (A 109)]) (b := A 109) (q := 109) 23 (gd rfl) rfl rfl rfl rfl rfl (ww_o rfl) (Nat.le_of_ble_eq_true rfl) (mc := 0) (ms := 0) (Nat.zero_le _) (Nat.zero_le _) (P := fun v u => _) ?_ (fun e u h => h) (fun v u h => h)
                intro po20 xx20 hp20 hx20
                refine g_enter2 (k := 395) (N := 300) (by first | exact dq1 hd rfl | exact dq0 hd rfl | exact dq2 hd rfl | exact dq3 hd rfl | omega) rfl (Nat.le_of_ble_eq_true rfl) ?_
                refine g_aload_n 1 (gd rfl) rfl rfl ?_
                refine g_getI 4 (gd rfl) rfl rfl rfl (fun z20x1 e20x1 => ?_)
                have q20x1 : w0_109_111 = z20x1 := (v0_109_111).trans e20x1.symm
                subst q20x1
                refine g_if_ne 7 11 (gd rfl) rfl rfl (fun c20x4 => ?_) (fun c20x4 => ?_)
                · skip
                  refine g_aload_n 12 (gd rfl) rfl rfl ?_
                  refine g_getA (q2 := 190) 15 (gd rfl) rfl rfl rfl rfl ?_
                  refine g_aload_n 16 (gd rfl) rfl rfl ?_
                  refine g_getI 19 (gd rfl) rfl rfl rfl (fun z20x16 e20x16 => ?_)
                  have q20x16 : w0_109_111 = z20x16 := (v0_109_111).trans e20x16.symm
                  subst q20x16
                  refine g_iconst 1 20 (gd rfl) rfl rfl ?_
                  refine g_isub 21 (gd rfl) rfl (fun z20x20 e20x20 => ?_)
                  have i20x20 := in_sub 0 199 e20x20 i4 (in_c 1 rfl) rfl rfl
                  refine g_iaload 22 (gd rfl) rfl (n := 200) rfl (in_ix i20x20 rfl) (fun z20x21 e20x21 => ?_)
                  refine g_ireturn (gd rfl) rfl rfl (hp20 _ _ ?_)
                  show GG _ _ _ _ _ _ _ _ [.int z20x21, .ref (A 109)] _ _ _
                  refine g_iconst 0 24 (gd rfl) rfl rfl ?_
                  have n24 : (w0_109_109).toInt ≤ 399 := by have a0 := oa4 i15 i4 ((inv_F hIc0 0 400 rfl v0_109_109)) i20x20; have a4 := t_sub e20x20 i4 (in_c 1 rfl) rfl; have a5 := oa2 ((in_c 1 rfl)) i8x20; have a7 := t_sub e8x20 i4 (in_c 1 rfl) rfl; omega
                  refine g_callv (X := _) (As := [.int z20x21, .int (Int32.ofInt 0)]) (r := []) (b := A 109) (q := 109) 27 (gd rfl) rfl rfl rfl rfl rfl (ww_o rfl) (Nat.le_of_ble_eq_true rfl) (Nat.zero_le _) (Nat.zero_le _) (k_393 (by first | exact dq1 hd rfl | exact dq0 hd rfl | exact dq2 hd rfl | exact dq3 hd rfl | omega) hIc0 v0_109_109 n24) (fun e u h => h) (fun v u h => ?_)
                  obtain ⟨s24, hI24, hF24, n24a, rfl, rfl, p24, p24a⟩ := h
                  obtain ⟨z24a, e24⟩ : ∃ w, w = s24.2.2.1 109 109 := ⟨_, rfl⟩
                  have i24a := inv_F hI24 0 400 rfl e24
                  rw [← (show w0_109_109 = sc0.2.2.1 109 109 from v0_109_109)] at n24a
                  rw [← (show z24a = s24.2.2.1 109 109 from e24)] at n24a
                  show GG _ _ _ _ _ _ _ _ [] _ _ _
                  refine g_aload_n 28 (gd rfl) rfl rfl ?_
                  have v28 : w0_109_111 = s24.2.2.1 109 111 := fr_F (v0_109_111) hF24 rfl
                  have n28 : 1 ≤ (w0_109_111).toInt := by have a0 := oa5 i15 i4 ((inv_F hIc0 0 400 rfl v0_109_109)) i24a i20x20; have a5 := t_sub e20x20 i4 (in_c 1 rfl) rfl; have a6 := oa2 ((in_c 1 rfl)) i8x20; have a8 := t_sub e8x20 i4 (in_c 1 rfl) rfl; omega
                  refine g_callv (X := _) (As := []) (r := []) (b := A 109) (q := 109) 31 (gd rfl) rfl rfl rfl rfl rfl (ww_o rfl) (Nat.le_of_ble_eq_true rfl) (Nat.zero_le _) (Nat.zero_le _) (k_397 (by first | exact dq1 hd rfl | exact dq0 hd rfl | exact dq2 hd rfl | exact dq3 hd rfl | omega) hI24 v28 n28) (fun e u h => h) (fun v u h => ?_)
                  obtain ⟨s28, hI28, hF28, n28a, rfl, rfl⟩ := h
                  obtain ⟨z28a, e28⟩ : ∃ w, w = s28.2.2.1 109 111 := ⟨_, rfl⟩
                  have i28a := inv_F hI28 0 200 rfl e28
                  rw [← (show w0_109_111 = s24.2.2.1 109 111 from fr_F (v0_109_111) hF24 rfl)] at n28a
                  rw [← (show z28a = s28.2.2.1 109 111 from e28)] at n28a
                  show GG _ _ _ _ _ _ _ _ [] _ _ _
                  refine g_goto 0 (gd rfl) rfl ?_
                  have v0 : z24a = s28.2.2.1 109 109 := fr_F (e24) hF28 rfl
                  have n0 : (z24a).toInt + (z28a).toInt = (u_109_109).toInt + (u_109_111).toInt := by have a0 := oa6 i15 i4 ((inv_F hIc0 0 400 rfl v0_109_109)) i28a i24a i20x20; have a6 := t_sub e20x20 i4 (in_c 1 rfl) rfl; have a7 := oa2 ((in_c 1 rfl)) i8x20; have a9 := t_sub e8x20 i4 (in_c 1 rfl) rfl; omega
                  have n0a : PR s s28 1 1 := by first | exact pr_rf | (have hz : z20x21 = z8x21 := (by rw [e20x21, e8x21, e20x20, e8x20]); exact pr_tr g0_0 (pr_set (n := (sc0.2.2.1 109 109).toNatClampNeg) (x := z20x21) (v := Int32.ofInt 0) (b := z20x20) ((hF28.1 187 rfl).trans p24) ((hF28.1 188 rfl).trans p24a) rfl (inv_F hIc0 0 400 rfl rfl).1 (by rw [hF28.2.2.1 109 109 rfl, ← e24, ← v0_109_109]; exact n24a) ((hF28.2.2.1 109 23 rfl).trans (hF24.2.2.1 109 23 rfl)) ((hF28.1 190 rfl).trans (hF24.1 190 rfl)) (by rw [← e28]; have a0 := oa6 i15 i4 ((inv_F hIc0 0 400 rfl v0_109_109)) i28a i24a i20x20; have a6 := t_sub e20x20 i4 (in_c 1 rfl) rfl; have a7 := oa2 ((in_c 1 rfl)) i8x20; have a9 := t_sub e8x20 i4 (in_c 1 rfl) rfl; omega) (by rw [← v0_109_111]; have a0 := oa6 i15 i4 ((inv_F hIc0 0 400 rfl v0_109_109)) i28a i24a i20x20; have a6 := t_sub e20x20 i4 (in_c 1 rfl) rfl; have a7 := oa2 ((in_c 1 rfl)) i8x20; have a9 := t_sub e8x20 i4 (in_c 1 rfl) rfl; omega) i20x20.1 e20x21 (Or.inl (by rw [hz]; first | (have hi := i11x3; unfold In at hi; omega) | (have hi := i11x13; unfold In at hi; omega) | (have hi := i11x19; unfold In at hi; omega) | (have hi := i11x29; unfold In at hi; omega) | (have hi := i11x35; unfold In at hi; omega)))))
                  have m0 : (z28a).toInt < ((k0 : Nat) : Int) := by have a0 := oa6 i15 i4 ((inv_F hIc0 0 400 rfl v0_109_109)) i28a i24a i20x20; have a6 := t_sub e20x20 i4 (in_c 1 rfl) rfl; have a7 := oa2 ((in_c 1 rfl)) i8x20; have a9 := t_sub e8x20 i4 (in_c 1 rfl) rfl; omega
                  exact gg_w (by first | exact Nat.le_add_right _ _ | exact gw2 | exact gw3 | exact gwe rfl | exact gwf rfl | exact gwg rfl | exact gwh rfl | omega) (gg_f (gf_cons rfl (gf_cons rfl gf_nil)) (ih0  s28 z24a z28a hI28 (fr_tr rfl (fr_tr rfl hFc0 hF24) hF28) v0 e28 n0 n0a m0))
                · skip
                  exact zn_eq c20x4 i4 rfl
            · skip
              refine g_iload_n 17 (gd rfl) rfl rfl ?_
              refine g_bipush 45 19 (gd rfl) rfl rfl ?_
              refine g_cmp_ne 22 26 (gd rfl) rfl rfl (fun c11x19 => ?_) (fun c11x19 => ?_)
              · skip
                refine g_iload_n 27 (gd rfl) rfl rfl ?_
                refine g_bipush 60 29 (gd rfl) rfl rfl ?_
                refine g_cmp_eq 32 38 (gd rfl) rfl rfl (fun c11x29 => ?_) (fun c11x29 => ?_)
                · skip
                  have i11x29 := r_eq1 60 60 c11x29 (i_rng z8x21) (in_c 60 rfl) rfl
                  refine g_iconst 1 39 (gd rfl) rfl rfl ?_
                  refine g_goto 43 (gd rfl) rfl ?_
                  refine g_ireturn (gd rfl) rfl rfl (hp11 _ _ ?_)
                  show GG _ _ _ _ _ _ _ _ [.int (Int32.ofInt 1)] _ _ _
                  refine g_iload_n 15 (gd rfl) rfl rfl ?_
                  refine g_cmp_lt 18 34 (gd rfl) rfl rfl (fun c15 => ?_) (fun c15 => ?_)
                  · skip
                    have i15 := r_lt2 2 3 c15 (in_c 1 rfl) h1 rfl
                    have n34 : PR s sc0 1 1 := by exact g0_0
                    have n34a : (w0_109_109).toInt + (w0_109_111).toInt = (u_109_109).toInt + (u_109_111).toInt := by first | exact n0_0 | (have a0 := oa4 i15 i4 ((inv_F hIc0 0 400 rfl v0_109_109)) i8x20; have a4 := t_sub e8x20 i4 (in_c 1 rfl) rfl; have a5 := in_u ((in_c 1 rfl)); omega)
                    have n34b : (sc0.2.2.1 109 109).toInt + (sc0.2.2.1 109 111).toInt = (s.2.2.1 109 109).toInt + (s.2.2.1 109 111).toInt := by have b0 : w0_109_109 = sc0.2.2.1 109 109 := v0_109_109; have b1 : w0_109_111 = sc0.2.2.1 109 111 := v0_109_111; first | (rw [← b0, ← b1, ← e_109_109, ← e_109_111]; exact n34a) | (rw [← b0, ← b1]; exact n34a)
                    exact g_return (gd rfl) rfl (hP _ _ ⟨sc0, hIc0, hFc0, n34b, rfl, rfl, n34⟩)
                  · skip
                    have i15 := r_le1 1 1 c15 h1 (in_c 1 rfl) rfl
                    refine g_aload_n 19 (gd rfl) rfl rfl ?_
                    refine g_aload_n 20 (gd rfl) rfl rfl ?_
                    refine g_callv (X := _) (As := []) (r := [.ref (A 109)]) (b := A 109) (q := 109) 23 (gd rfl) rfl rfl rfl rfl rfl (ww_o rfl) (Nat.le_of_ble_eq_true rfl) (mc := 0) (ms := 0) (Nat.zero_le _) (Nat.zero_le _) (P := fun v u => _) ?_ (fun e u h => h) (fun v u h => h)
                    intro po20 xx20 hp20 hx20
                    refine g_enter2 (k := 395) (N := 300) (by first | exact dq1 hd rfl | exact dq0 hd rfl | exact dq2 hd rfl | exact dq3 hd rfl | omega) rfl (Nat.le_of_ble_eq_true rfl) ?_
                    refine g_aload_n 1 (gd rfl) rfl rfl ?_
                    refine g_getI 4 (gd rfl) rfl rfl rfl (fun z20x1 e20x1 => ?_)
                    have q20x1 : w0_109_111 = z20x1 := (v0_109_111).trans e20x1.symm
                    subst q20x1
                    refine g_if_ne 7 11 (gd rfl) rfl rfl (fun c20x4 => ?_) (fun c20x4 => ?_)
                    · skip
                      refine g_aload_n 12 (gd rfl) rfl rfl ?_
                      refine g_getA (q2 := 190) 15 (gd rfl) rfl rfl rfl rfl ?_
                      refine g_aload_n 16 (gd rfl) rfl rfl ?_
                      refine g_getI 19 (gd rfl) rfl rfl rfl (fun z20x16 e20x16 => ?_)
                      have q20x16 : w0_109_111 = z20x16 := (v0_109_111).trans e20x16.symm
                      subst q20x16
                      refine g_iconst 1 20 (gd rfl) rfl rfl ?_
                      refine g_isub 21 (gd rfl) rfl (fun z20x20 e20x20 => ?_)
                      have i20x20 := in_sub 0 199 e20x20 i4 (in_c 1 rfl) rfl rfl
                      refine g_iaload 22 (gd rfl) rfl (n := 200) rfl (in_ix i20x20 rfl) (fun z20x21 e20x21 => ?_)
                      refine g_ireturn (gd rfl) rfl rfl (hp20 _ _ ?_)
                      show GG _ _ _ _ _ _ _ _ [.int z20x21, .ref (A 109)] _ _ _
                      refine g_iconst 0 24 (gd rfl) rfl rfl ?_
                      have n24 : (w0_109_109).toInt ≤ 399 := by have a0 := oa4 i15 i4 ((inv_F hIc0 0 400 rfl v0_109_109)) i20x20; have a4 := t_sub e20x20 i4 (in_c 1 rfl) rfl; have a5 := oa2 ((in_c 1 rfl)) i8x20; have a7 := t_sub e8x20 i4 (in_c 1 rfl) rfl; omega
                      refine g_callv (X := _) (As := [.int z20x21, .int (Int32.ofInt 0)]) (r := []) (b := A 109) (q := 109) 27 (gd rfl) rfl rfl rfl rfl rfl (ww_o rfl) (Nat.le_of_ble_eq_true rfl) (Nat.zero_le _) (Nat.zero_le _) (k_393 (by first | exact dq1 hd rfl | exact dq0 hd rfl | exact dq2 hd rfl | exact dq3 hd rfl | omega) hIc0 v0_109_109 n24) (fun e u h => h) (fun v u h => ?_)
                      obtain ⟨s24, hI24, hF24, n24a, rfl, rfl, p24, p24a⟩ := h
                      obtain ⟨z24a, e24⟩ : ∃ w, w = s24.2.2.1 109 109 := ⟨_, rfl⟩
                      have i24a := inv_F hI24 0 400 rfl e24
                      rw [← (show w0_109_109 = sc0.2.2.1 109 109 from v0_109_109)] at n24a
                      rw [← (show z24a = s24.2.2.1 109 109 from e24)] at n24a
                      show GG _ _ _ _ _ _ _ _ [] _ _ _
                      refine g_aload_n 28 (gd rfl) rfl rfl ?_
                      have v28 : w0_109_111 = s24.2.2.1 109 111 := fr_F (v0_109_111) hF24 rfl
                      have n28 : 1 ≤ (w0_109_111).toInt := by have a0 := oa5 i15 i4 ((inv_F hIc0 0 400 rfl v0_109_109)) i24a i20x20; have a5 := t_sub e20x20 i4 (in_c 1 rfl) rfl; have a6 := oa2 ((in_c 1 rfl)) i8x20; have a8 := t_sub e8x20 i4 (in_c 1 rfl) rfl; omega
                      refine g_callv (X := _) (As := []) (r := []) (b := A 109) (q := 109) 31 (gd rfl) rfl rfl rfl rfl rfl (ww_o rfl) (Nat.le_of_ble_eq_true rfl) (Nat.zero_le _) (Nat.zero_le _) (k_397 (by first | exact dq1 hd rfl | exact dq0 hd rfl | exact dq2 hd rfl | exact dq3 hd rfl | omega) hI24 v28 n28) (fun e u h => h) (fun v u h => ?_)
                      obtain ⟨s28, hI28, hF28, n28a, rfl, rfl⟩ := h
                      obtain ⟨z28a, e28⟩ : ∃ w, w = s28.2.2.1 109 111 := ⟨_, rfl⟩
                      have i28a := inv_F hI28 0 200 rfl e28
                      rw [← (show w0_109_111 = s24.2.2.1 109 111 from fr_F (v0_109_111) hF24 rfl)] at n28a
                      rw [← (show z28a = s28.2.2.1 109 111 from e28)] at n28a
                      show GG _ _ _ _ _ _ _ _ [] _ _ _
                      refine g_goto 0 (gd rfl) rfl ?_
                      have v0 : z24a = s28.2.2.1 109 109 := fr_F (e24) hF28 rfl
                      have n0 : (z24a).toInt + (z28a).toInt = (u_109_109).toInt + (u_109_111).toInt := by have a0 := oa6 i15 i4 ((inv_F hIc0 0 400 rfl v0_109_109)) i28a i24a i20x20; have a6 := t_sub e20x20 i4 (in_c 1 rfl) rfl; have a7 := oa2 ((in_c 1 rfl)) i8x20; have a9 := t_sub e8x20 i4 (in_c 1 rfl) rfl; omega
                      have n0a : PR s s28 1 1 := by first | exact pr_rf | (have hz : z20x21 = z8x21 := (by rw [e20x21, e8x21, e20x20, e8x20]); exact pr_tr g0_0 (pr_set (n := (sc0.2.2.1 109 109).toNatClampNeg) (x := z20x21) (v := Int32.ofInt 0) (b := z20x20) ((hF28.1 187 rfl).trans p24) ((hF28.1 188 rfl).trans p24a) rfl (inv_F hIc0 0 400 rfl rfl).1 (by rw [hF28.2.2.1 109 109 rfl, ← e24, ← v0_109_109]; exact n24a) ((hF28.2.2.1 109 23 rfl).trans (hF24.2.2.1 109 23 rfl)) ((hF28.1 190 rfl).trans (hF24.1 190 rfl)) (by rw [← e28]; have a0 := oa6 i15 i4 ((inv_F hIc0 0 400 rfl v0_109_109)) i28a i24a i20x20; have a6 := t_sub e20x20 i4 (in_c 1 rfl) rfl; have a7 := oa2 ((in_c 1 rfl)) i8x20; have a9 := t_sub e8x20 i4 (in_c 1 rfl) rfl; omega) (by rw [← v0_109_111]; have a0 := oa6 i15 i4 ((inv_F hIc0 0 400 rfl v0_109_109)) i28a i24a i20x20; have a6 := t_sub e20x20 i4 (in_c 1 rfl) rfl; have a7 := oa2 ((in_c 1 rfl)) i8x20; have a9 := t_sub e8x20 i4 (in_c 1 rfl) rfl; omega) i20x20.1 e20x21 (Or.inl (by rw [hz]; first | (have hi := i11x3; unfold In at hi; omega) | (have hi := i11x13; unfold In at hi; omega) | (have hi := i11x19; unfold In at hi; omega) | (have hi := i11x29; unfold In at hi; omega) | (have hi := i11x35; unfold In at hi; omega)))))
                      have m0 : (z28a).toInt < ((k0 : Nat) : Int) := by have a0 := oa6 i15 i4 ((inv_F hIc0 0 400 rfl v0_109_109)) i28a i24a i20x20; have a6 := t_sub e20x20 i4 (in_c 1 rfl) rfl; have a7 := oa2 ((in_c 1 rfl)) i8x20; have a9 := t_sub e8x20 i4 (in_c 1 rfl) rfl; omega
                      exact gg_w (by first | exact Nat.le_add_right _ _ | exact gw2 | exact gw3 | exact gwe rfl | exact gwf rfl | exact gwg rfl | exact gwh rfl | omega) (gg_f (gf_cons rfl (gf_cons rfl gf_nil)) (ih0  s28 z24a z28a hI28 (fr_tr rfl (fr_tr rfl hFc0 hF24) hF28) v0 e28 n0 n0a m0))
                    · skip
                      exact zn_eq c20x4 i4 rfl
                · skip
                  refine g_iload_n 33 (gd rfl) rfl rfl ?_
                  refine g_bipush 61 35 (gd rfl) rfl rfl ?_
                  refine g_cmp_ne 38 42 (gd rfl) rfl rfl (fun c11x35 => ?_) (fun c11x35 => ?_)
                  · skip
                    refine g_iconst 0 43 (gd rfl) rfl rfl ?_
                    refine g_ireturn (gd rfl) rfl rfl (hp11 _ _ ?_)
                    show GG _ _ _ _ _ _ _ _ [.int (Int32.ofInt 0)] _ _ _
                    refine g_iload_n 15 (gd rfl) rfl rfl ?_
                    refine g_cmp_lt 18 34 (gd rfl) rfl rfl (fun c15 => ?_) (fun c15 => ?_)
                    · skip
                      have n34 : PR s sc0 1 1 := by exact g0_0
                      have n34a : (w0_109_109).toInt + (w0_109_111).toInt = (u_109_109).toInt + (u_109_111).toInt := by first | exact n0_0 | (have a0 := oa4 h1 i4 ((inv_F hIc0 0 400 rfl v0_109_109)) i8x20; have a4 := t_sub e8x20 i4 (in_c 1 rfl) rfl; have a5 := in_u ((in_c 1 rfl)); omega)
                      have n34b : (sc0.2.2.1 109 109).toInt + (sc0.2.2.1 109 111).toInt = (s.2.2.1 109 109).toInt + (s.2.2.1 109 111).toInt := by have b0 : w0_109_109 = sc0.2.2.1 109 109 := v0_109_109; have b1 : w0_109_111 = sc0.2.2.1 109 111 := v0_109_111; first | (rw [← b0, ← b1, ← e_109_109, ← e_109_111]; exact n34a) | (rw [← b0, ← b1]; exact n34a)
                      exact g_return (gd rfl) rfl (hP _ _ ⟨sc0, hIc0, hFc0, n34b, rfl, rfl, n34⟩)
                    · skip
                      exact n_le c15 h1 (in_c 0 rfl) rfl
                  · skip
                    have i11x35 := r_eq1 61 61 c11x35 (i_rng z8x21) (in_c 61 rfl) rfl
                    refine g_iconst 1 39 (gd rfl) rfl rfl ?_
                    refine g_goto 43 (gd rfl) rfl ?_
                    refine g_ireturn (gd rfl) rfl rfl (hp11 _ _ ?_)
                    show GG _ _ _ _ _ _ _ _ [.int (Int32.ofInt 1)] _ _ _
                    refine g_iload_n 15 (gd rfl) rfl rfl ?_
                    refine g_cmp_lt 18 34 (gd rfl) rfl rfl (fun c15 => ?_) (fun c15 => ?_)
                    · skip
                      have i15 := r_lt2 2 3 c15 (in_c 1 rfl) h1 rfl
                      have n34 : PR s sc0 1 1 := by exact g0_0
                      have n34a : (w0_109_109).toInt + (w0_109_111).toInt = (u_109_109).toInt + (u_109_111).toInt := by first | exact n0_0 | (have a0 := oa4 i15 i4 ((inv_F hIc0 0 400 rfl v0_109_109)) i8x20; have a4 := t_sub e8x20 i4 (in_c 1 rfl) rfl; have a5 := in_u ((in_c 1 rfl)); omega)
                      have n34b : (sc0.2.2.1 109 109).toInt + (sc0.2.2.1 109 111).toInt = (s.2.2.1 109 109).toInt + (s.2.2.1 109 111).toInt := by have b0 : w0_109_109 = sc0.2.2.1 109 109 := v0_109_109; have b1 : w0_109_111 = sc0.2.2.1 109 111 := v0_109_111; first | (rw [← b0, ← b1, ← e_109_109, ← e_109_111]; exact n34a) | (rw [← b0, ← b1]; exact n34a)
                      exact g_return (gd rfl) rfl (hP _ _ ⟨sc0, hIc0, hFc0, n34b, rfl, rfl, n34⟩)
                    · skip
                      have i15 := r_le1 1 1 c15 h1 (in_c 1 rfl) rfl
                      refine g_aload_n 19 (gd rfl) rfl rfl ?_
                      refine g_aload_n 20 (gd rfl) rfl rfl ?_
                      refine g_callv (X := _) (As := []) (r := [.ref (A 109)]) (b := A 109) (q := 109) 23 (gd rfl) rfl rfl rfl rfl rfl (ww_o rfl) (Nat.le_of_ble_eq_true rfl) (mc := 0) (ms := 0) (Nat.zero_le _) (Nat.zero_le _) (P := fun v u => _) ?_ (fun e u h => h) (fun v u h => h)
                      intro po20 xx20 hp20 hx20
                      refine g_enter2 (k := 395) (N := 300) (by first | exact dq1 hd rfl | exact dq0 hd rfl | exact dq2 hd rfl | exact dq3 hd rfl | omega) rfl (Nat.le_of_ble_eq_true rfl) ?_
                      refine g_aload_n 1 (gd rfl) rfl rfl ?_
                      refine g_getI 4 (gd rfl) rfl rfl rfl (fun z20x1 e20x1 => ?_)
                      have q20x1 : w0_109_111 = z20x1 := (v0_109_111).trans e20x1.symm
                      subst q20x1
                      refine g_if_ne 7 11 (gd rfl) rfl rfl (fun c20x4 => ?_) (fun c20x4 => ?_)
                      · skip
                        refine g_aload_n 12 (gd rfl) rfl rfl ?_
                        refine g_getA (q2 := 190) 15 (gd rfl) rfl rfl rfl rfl ?_
                        refine g_aload_n 16 (gd rfl) rfl rfl ?_
                        refine g_getI 19 (gd rfl) rfl rfl rfl (fun z20x16 e20x16 => ?_)
                        have q20x16 : w0_109_111 = z20x16 := (v0_109_111).trans e20x16.symm
                        subst q20x16
                        refine g_iconst 1 20 (gd rfl) rfl rfl ?_
                        refine g_isub 21 (gd rfl) rfl (fun z20x20 e20x20 => ?_)
                        have i20x20 := in_sub 0 199 e20x20 i4 (in_c 1 rfl) rfl rfl
                        refine g_iaload 22 (gd rfl) rfl (n := 200) rfl (in_ix i20x20 rfl) (fun z20x21 e20x21 => ?_)
                        refine g_ireturn (gd rfl) rfl rfl (hp20 _ _ ?_)
                        show GG _ _ _ _ _ _ _ _ [.int z20x21, .ref (A 109)] _ _ _
                        refine g_iconst 0 24 (gd rfl) rfl rfl ?_
                        have n24 : (w0_109_109).toInt ≤ 399 := by have a0 := oa4 i15 i4 ((inv_F hIc0 0 400 rfl v0_109_109)) i20x20; have a4 := t_sub e20x20 i4 (in_c 1 rfl) rfl; have a5 := oa2 ((in_c 1 rfl)) i8x20; have a7 := t_sub e8x20 i4 (in_c 1 rfl) rfl; omega
                        refine g_callv (X := _) (As := [.int z20x21, .int (Int32.ofInt 0)]) (r := []) (b := A 109) (q := 109) 27 (gd rfl) rfl rfl rfl rfl rfl (ww_o rfl) (Nat.le_of_ble_eq_true rfl) (Nat.zero_le _) (Nat.zero_le _) (k_393 (by first | exact dq1 hd rfl | exact dq0 hd rfl | exact dq2 hd rfl | exact dq3 hd rfl | omega) hIc0 v0_109_109 n24) (fun e u h => h) (fun v u h => ?_)
                        obtain ⟨s24, hI24, hF24, n24a, rfl, rfl, p24, p24a⟩ := h
                        obtain ⟨z24a, e24⟩ : ∃ w, w = s24.2.2.1 109 109 := ⟨_, rfl⟩
                        have i24a := inv_F hI24 0 400 rfl e24
                        rw [← (show w0_109_109 = sc0.2.2.1 109 109 from v0_109_109)] at n24a
                        rw [← (show z24a = s24.2.2.1 109 109 from e24)] at n24a
                        show GG _ _ _ _ _ _ _ _ [] _ _ _
                        refine g_aload_n 28 (gd rfl) rfl rfl ?_
                        have v28 : w0_109_111 = s24.2.2.1 109 111 := fr_F (v0_109_111) hF24 rfl
                        have n28 : 1 ≤ (w0_109_111).toInt := by have a0 := oa5 i15 i4 ((inv_F hIc0 0 400 rfl v0_109_109)) i24a i20x20; have a5 := t_sub e20x20 i4 (in_c 1 rfl) rfl; have a6 := oa2 ((in_c 1 rfl)) i8x20; have a8 := t_sub e8x20 i4 (in_c 1 rfl) rfl; omega
                        refine g_callv (X := _) (As := []) (r := []) (b := A 109) (q := 109) 31 (gd rfl) rfl rfl rfl rfl rfl (ww_o rfl) (Nat.le_of_ble_eq_true rfl) (Nat.zero_le _) (Nat.zero_le _) (k_397 (by first | exact dq1 hd rfl | exact dq0 hd rfl | exact dq2 hd rfl | exact dq3 hd rfl | omega) hI24 v28 n28) (fun e u h => h) (fun v u h => ?_)
                        obtain ⟨s28, hI28, hF28, n28a, rfl, rfl⟩ := h
                        obtain ⟨z28a, e28⟩ : ∃ w, w = s28.2.2.1 109 111 := ⟨_, rfl⟩
                        have i28a := inv_F hI28 0 200 rfl e28
                        rw [← (show w0_109_111 = s24.2.2.1 109 111 from fr_F (v0_109_111) hF24 rfl)] at n28a
                        rw [← (show z28a = s28.2.2.1 109 111 from e28)] at n28a
                        show GG _ _ _ _ _ _ _ _ [] _ _ _
                        refine g_goto 0 (gd rfl) rfl ?_
                        have v0 : z24a = s28.2.2.1 109 109 := fr_F (e24) hF28 rfl
                        have n0 : (z24a).toInt + (z28a).toInt = (u_109_109).toInt + (u_109_111).toInt := by have a0 := oa6 i15 i4 ((inv_F hIc0 0 400 rfl v0_109_109)) i28a i24a i20x20; have a6 := t_sub e20x20 i4 (in_c 1 rfl) rfl; have a7 := oa2 ((in_c 1 rfl)) i8x20; have a9 := t_sub e8x20 i4 (in_c 1 rfl) rfl; omega
                        have n0a : PR s s28 1 1 := by first | exact pr_rf | (have hz : z20x21 = z8x21 := (by rw [e20x21, e8x21, e20x20, e8x20]); exact pr_tr g0_0 (pr_set (n := (sc0.2.2.1 109 109).toNatClampNeg) (x := z20x21) (v := Int32.ofInt 0) (b := z20x20) ((hF28.1 187 rfl).trans p24) ((hF28.1 188 rfl).trans p24a) rfl (inv_F hIc0 0 400 rfl rfl).1 (by rw [hF28.2.2.1 109 109 rfl, ← e24, ← v0_109_109]; exact n24a) ((hF28.2.2.1 109 23 rfl).trans (hF24.2.2.1 109 23 rfl)) ((hF28.1 190 rfl).trans (hF24.1 190 rfl)) (by rw [← e28]; have a0 := oa6 i15 i4 ((inv_F hIc0 0 400 rfl v0_109_109)) i28a i24a i20x20; have a6 := t_sub e20x20 i4 (in_c 1 rfl) rfl; have a7 := oa2 ((in_c 1 rfl)) i8x20; have a9 := t_sub e8x20 i4 (in_c 1 rfl) rfl; omega) (by rw [← v0_109_111]; have a0 := oa6 i15 i4 ((inv_F hIc0 0 400 rfl v0_109_109)) i28a i24a i20x20; have a6 := t_sub e20x20 i4 (in_c 1 rfl) rfl; have a7 := oa2 ((in_c 1 rfl)) i8x20; have a9 := t_sub e8x20 i4 (in_c 1 rfl) rfl; omega) i20x20.1 e20x21 (Or.inl (by rw [hz]; first | (have hi := i11x3; unfold In at hi; omega) | (have hi := i11x13; unfold In at hi; omega) | (have hi := i11x19; unfold In at hi; omega) | (have hi := i11x29; unfold In at hi; omega) | (have hi := i11x35; unfold In at hi; omega)))))
                        have m0 : (z28a).toInt < ((k0 : Nat) : Int) := by have a0 := oa6 i15 i4 ((inv_F hIc0 0 400 rfl v0_109_109)) i28a i24a i20x20; have a6 := t_sub e20x20 i4 (in_c 1 rfl) rfl; have a7 := oa2 ((in_c 1 rfl)) i8x20; have a9 := t_sub e8x20 i4 (in_c 1 rfl) rfl; omega
                        exact gg_w (by first | exact Nat.le_add_right _ _ | exact gw2 | exact gw3 | exact gwe rfl | exact gwf rfl | exact gwg rfl | exact gwh rfl | omega) (gg_f (gf_cons rfl (gf_cons rfl gf_nil)) (ih0  s28 z24a z28a hI28 (fr_tr rfl (fr_tr rfl hFc0 hF24) hF28) v0 e28 n0 n0a m0))
                      · skip
                        exact zn_eq c20x4 i4 rfl
              · skip
                have i11x19 := r_eq1 45 45 c11x19 (i_rng z8x21) (in_c 45 rfl) rfl
                refine g_iconst 2 23 (gd rfl) rfl rfl ?_
                refine g_goto 43 (gd rfl) rfl ?_
                refine g_ireturn (gd rfl) rfl rfl (hp11 _ _ ?_)
                show GG _ _ _ _ _ _ _ _ [.int (Int32.ofInt 2)] _ _ _
                refine g_iload_n 15 (gd rfl) rfl rfl ?_
                refine g_cmp_lt 18 34 (gd rfl) rfl rfl (fun c15 => ?_) (fun c15 => ?_)
                · skip
                  have i15 := r_lt2 3 3 c15 (in_c 2 rfl) h1 rfl
                  have n34 : PR s sc0 1 1 := by exact g0_0
                  have n34a : (w0_109_109).toInt + (w0_109_111).toInt = (u_109_109).toInt + (u_109_111).toInt := by first | exact n0_0 | (have a0 := oa4 i15 i4 ((inv_F hIc0 0 400 rfl v0_109_109)) i8x20; have a4 := t_sub e8x20 i4 (in_c 1 rfl) rfl; have a5 := in_u ((in_c 1 rfl)); omega)
                  have n34b : (sc0.2.2.1 109 109).toInt + (sc0.2.2.1 109 111).toInt = (s.2.2.1 109 109).toInt + (s.2.2.1 109 111).toInt := by have b0 : w0_109_109 = sc0.2.2.1 109 109 := v0_109_109; have b1 : w0_109_111 = sc0.2.2.1 109 111 := v0_109_111; first | (rw [← b0, ← b1, ← e_109_109, ← e_109_111]; exact n34a) | (rw [← b0, ← b1]; exact n34a)
                  exact g_return (gd rfl) rfl (hP _ _ ⟨sc0, hIc0, hFc0, n34b, rfl, rfl, n34⟩)
                · skip
                  have i15 := r_le1 1 2 c15 h1 (in_c 2 rfl) rfl
                  refine g_aload_n 19 (gd rfl) rfl rfl ?_
                  refine g_aload_n 20 (gd rfl) rfl rfl ?_
                  refine g_callv (X := _) (As := []) (r := [.ref (A 109)]) (b := A 109) (q := 109) 23 (gd rfl) rfl rfl rfl rfl rfl (ww_o rfl) (Nat.le_of_ble_eq_true rfl) (mc := 0) (ms := 0) (Nat.zero_le _) (Nat.zero_le _) (P := fun v u => _) ?_ (fun e u h => h) (fun v u h => h)
                  intro po20 xx20 hp20 hx20
                  refine g_enter2 (k := 395) (N := 300) (by first | exact dq1 hd rfl | exact dq0 hd rfl | exact dq2 hd rfl | exact dq3 hd rfl | omega) rfl (Nat.le_of_ble_eq_true rfl) ?_
                  refine g_aload_n 1 (gd rfl) rfl rfl ?_
                  refine g_getI 4 (gd rfl) rfl rfl rfl (fun z20x1 e20x1 => ?_)
                  have q20x1 : w0_109_111 = z20x1 := (v0_109_111).trans e20x1.symm
                  subst q20x1
                  refine g_if_ne 7 11 (gd rfl) rfl rfl (fun c20x4 => ?_) (fun c20x4 => ?_)
                  · skip
                    refine g_aload_n 12 (gd rfl) rfl rfl ?_
                    refine g_getA (q2 := 190) 15 (gd rfl) rfl rfl rfl rfl ?_
                    refine g_aload_n 16 (gd rfl) rfl rfl ?_
                    refine g_getI 19 (gd rfl) rfl rfl rfl (fun z20x16 e20x16 => ?_)
                    have q20x16 : w0_109_111 = z20x16 := (v0_109_111).trans e20x16.symm
                    subst q20x16
                    refine g_iconst 1 20 (gd rfl) rfl rfl ?_
                    refine g_isub 21 (gd rfl) rfl (fun z20x20 e20x20 => ?_)
                    have i20x20 := in_sub 0 199 e20x20 i4 (in_c 1 rfl) rfl rfl
                    refine g_iaload 22 (gd rfl) rfl (n := 200) rfl (in_ix i20x20 rfl) (fun z20x21 e20x21 => ?_)
                    refine g_ireturn (gd rfl) rfl rfl (hp20 _ _ ?_)
                    show GG _ _ _ _ _ _ _ _ [.int z20x21, .ref (A 109)] _ _ _
                    refine g_iconst 0 24 (gd rfl) rfl rfl ?_
                    have n24 : (w0_109_109).toInt ≤ 399 := by have a0 := oa4 i15 i4 ((inv_F hIc0 0 400 rfl v0_109_109)) i20x20; have a4 := t_sub e20x20 i4 (in_c 1 rfl) rfl; have a5 := oa2 ((in_c 1 rfl)) i8x20; have a7 := t_sub e8x20 i4 (in_c 1 rfl) rfl; omega
                    refine g_callv (X := _) (As := [.int z20x21, .int (Int32.ofInt 0)]) (r := []) (b := A 109) (q := 109) 27 (gd rfl) rfl rfl rfl rfl rfl (ww_o rfl) (Nat.le_of_ble_eq_true rfl) (Nat.zero_le _) (Nat.zero_le _) (k_393 (by first | exact dq1 hd rfl | exact dq0 hd rfl | exact dq2 hd rfl | exact dq3 hd rfl | omega) hIc0 v0_109_109 n24) (fun e u h => h) (fun v u h => ?_)
                    obtain ⟨s24, hI24, hF24, n24a, rfl, rfl, p24, p24a⟩ := h
                    obtain ⟨z24a, e24⟩ : ∃ w, w = s24.2.2.1 109 109 := ⟨_, rfl⟩
                    have i24a := inv_F hI24 0 400 rfl e24
                    rw [← (show w0_109_109 = sc0.2.2.1 109 109 from v0_109_109)] at n24a
                    rw [← (show z24a = s24.2.2.1 109 109 from e24)] at n24a
                    show GG _ _ _ _ _ _ _ _ [] _ _ _
                    refine g_aload_n 28 (gd rfl) rfl rfl ?_
                    have v28 : w0_109_111 = s24.2.2.1 109 111 := fr_F (v0_109_111) hF24 rfl
                    have n28 : 1 ≤ (w0_109_111).toInt := by have a0 := oa5 i15 i4 ((inv_F hIc0 0 400 rfl v0_109_109)) i24a i20x20; have a5 := t_sub e20x20 i4 (in_c 1 rfl) rfl; have a6 := oa2 ((in_c 1 rfl)) i8x20; have a8 := t_sub e8x20 i4 (in_c 1 rfl) rfl; omega
                    refine g_callv (X := _) (As := []) (r := []) (b := A 109) (q := 109) 31 (gd rfl) rfl rfl rfl rfl rfl (ww_o rfl) (Nat.le_of_ble_eq_true rfl) (Nat.zero_le _) (Nat.zero_le _) (k_397 (by first | exact dq1 hd rfl | exact dq0 hd rfl | exact dq2 hd rfl | exact dq3 hd rfl | omega) hI24 v28 n28) (fun e u h => h) (fun v u h => ?_)
                    obtain ⟨s28, hI28, hF28, n28a, rfl, rfl⟩ := h
                    obtain ⟨z28a, e28⟩ : ∃ w, w = s28.2.2.1 109 111 := ⟨_, rfl⟩
                    have i28a := inv_F hI28 0 200 rfl e28
                    rw [← (show w0_109_111 = s24.2.2.1 109 111 from fr_F (v0_109_111) hF24 rfl)] at n28a
                    rw [← (show z28a = s28.2.2.1 109 111 from e28)] at n28a
                    show GG _ _ _ _ _ _ _ _ [] _ _ _
                    refine g_goto 0 (gd rfl) rfl ?_
                    have v0 : z24a = s28.2.2.1 109 109 := fr_F (e24) hF28 rfl
                    have n0 : (z24a).toInt + (z28a).toInt = (u_109_109).toInt + (u_109_111).toInt := by have a0 := oa6 i15 i4 ((inv_F hIc0 0 400 rfl v0_109_109)) i28a i24a i20x20; have a6 := t_sub e20x20 i4 (in_c 1 rfl) rfl; have a7 := oa2 ((in_c 1 rfl)) i8x20; have a9 := t_sub e8x20 i4 (in_c 1 rfl) rfl; omega
                    have n0a : PR s s28 1 1 := by first | exact pr_rf | (have hz : z20x21 = z8x21 := (by rw [e20x21, e8x21, e20x20, e8x20]); exact pr_tr g0_0 (pr_set (n := (sc0.2.2.1 109 109).toNatClampNeg) (x := z20x21) (v := Int32.ofInt 0) (b := z20x20) ((hF28.1 187 rfl).trans p24) ((hF28.1 188 rfl).trans p24a) rfl (inv_F hIc0 0 400 rfl rfl).1 (by rw [hF28.2.2.1 109 109 rfl, ← e24, ← v0_109_109]; exact n24a) ((hF28.2.2.1 109 23 rfl).trans (hF24.2.2.1 109 23 rfl)) ((hF28.1 190 rfl).trans (hF24.1 190 rfl)) (by rw [← e28]; have a0 := oa6 i15 i4 ((inv_F hIc0 0 400 rfl v0_109_109)) i28a i24a i20x20; have a6 := t_sub e20x20 i4 (in_c 1 rfl) rfl; have a7 := oa2 ((in_c 1 rfl)) i8x20; have a9 := t_sub e8x20 i4 (in_c 1 rfl) rfl; omega) (by rw [← v0_109_111]; have a0 := oa6 i15 i4 ((inv_F hIc0 0 400 rfl v0_109_109)) i28a i24a i20x20; have a6 := t_sub e20x20 i4 (in_c 1 rfl) rfl; have a7 := oa2 ((in_c 1 rfl)) i8x20; have a9 := t_sub e8x20 i4 (in_c 1 rfl) rfl; omega) i20x20.1 e20x21 (Or.inl (by rw [hz]; first | (have hi := i11x3; unfold In at hi; omega) | (have hi := i11x13; unfold In at hi; omega) | (have hi := i11x19; unfold In at hi; omega) | (have hi := i11x29; unfold In at hi; omega) | (have hi := i11x35; unfold In at hi; omega)))))
                    have m0 : (z28a).toInt < ((k0 : Nat) : Int) := by have a0 := oa6 i15 i4 ((inv_F hIc0 0 400 rfl v0_109_109)) i28a i24a i20x20; have a6 := t_sub e20x20 i4 (in_c 1 rfl) rfl; have a7 := oa2 ((in_c 1 rfl)) i8x20; have a9 := t_sub e8x20 i4 (in_c 1 rfl) rfl; omega
                    exact gg_w (by first | exact Nat.le_add_right _ _ | exact gw2 | exact gw3 | exact gwe rfl | exact gwf rfl | exact gwg rfl | exact gwh rfl | omega) (gg_f (gf_cons rfl (gf_cons rfl gf_nil)) (ih0  s28 z24a z28a hI28 (fr_tr rfl (fr_tr rfl hFc0 hF24) hF28) v0 e28 n0 n0a m0))
                  · skip
                    exact zn_eq c20x4 i4 rfl
          · skip
            have i11x3 := r_eq1 42 42 c11x3 (i_rng z8x21) (in_c 42 rfl) rfl
            refine g_iconst 3 7 (gd rfl) rfl rfl ?_
            refine g_goto 43 (gd rfl) rfl ?_
            refine g_ireturn (gd rfl) rfl rfl (hp11 _ _ ?_)
            show GG _ _ _ _ _ _ _ _ [.int (Int32.ofInt 3)] _ _ _
            refine g_iload_n 15 (gd rfl) rfl rfl ?_
            refine g_cmp_lt 18 34 (gd rfl) rfl rfl (fun c15 => ?_) (fun c15 => ?_)
            · skip
              exact n_lt c15 (in_c 3 rfl) h1 rfl
            · skip
              refine g_aload_n 19 (gd rfl) rfl rfl ?_
              refine g_aload_n 20 (gd rfl) rfl rfl ?_
              refine g_callv (X := _) (As := []) (r := [.ref (A 109)]) (b := A 109) (q := 109) 23 (gd rfl) rfl rfl rfl rfl rfl (ww_o rfl) (Nat.le_of_ble_eq_true rfl) (mc := 0) (ms := 0) (Nat.zero_le _) (Nat.zero_le _) (P := fun v u => _) ?_ (fun e u h => h) (fun v u h => h)
              intro po20 xx20 hp20 hx20
              refine g_enter2 (k := 395) (N := 300) (by first | exact dq1 hd rfl | exact dq0 hd rfl | exact dq2 hd rfl | exact dq3 hd rfl | omega) rfl (Nat.le_of_ble_eq_true rfl) ?_
              refine g_aload_n 1 (gd rfl) rfl rfl ?_
              refine g_getI 4 (gd rfl) rfl rfl rfl (fun z20x1 e20x1 => ?_)
              have q20x1 : w0_109_111 = z20x1 := (v0_109_111).trans e20x1.symm
              subst q20x1
              refine g_if_ne 7 11 (gd rfl) rfl rfl (fun c20x4 => ?_) (fun c20x4 => ?_)
              · skip
                refine g_aload_n 12 (gd rfl) rfl rfl ?_
                refine g_getA (q2 := 190) 15 (gd rfl) rfl rfl rfl rfl ?_
                refine g_aload_n 16 (gd rfl) rfl rfl ?_
                refine g_getI 19 (gd rfl) rfl rfl rfl (fun z20x16 e20x16 => ?_)
                have q20x16 : w0_109_111 = z20x16 := (v0_109_111).trans e20x16.symm
                subst q20x16
                refine g_iconst 1 20 (gd rfl) rfl rfl ?_
                refine g_isub 21 (gd rfl) rfl (fun z20x20 e20x20 => ?_)
                have i20x20 := in_sub 0 199 e20x20 i4 (in_c 1 rfl) rfl rfl
                refine g_iaload 22 (gd rfl) rfl (n := 200) rfl (in_ix i20x20 rfl) (fun z20x21 e20x21 => ?_)
                refine g_ireturn (gd rfl) rfl rfl (hp20 _ _ ?_)
                show GG _ _ _ _ _ _ _ _ [.int z20x21, .ref (A 109)] _ _ _
                refine g_iconst 0 24 (gd rfl) rfl rfl ?_
                have n24 : (w0_109_109).toInt ≤ 399 := by have a0 := oa4 h1 i4 ((inv_F hIc0 0 400 rfl v0_109_109)) i20x20; have a4 := t_sub e20x20 i4 (in_c 1 rfl) rfl; have a5 := oa2 ((in_c 1 rfl)) i8x20; have a7 := t_sub e8x20 i4 (in_c 1 rfl) rfl; omega
                refine g_callv (X := _) (As := [.int z20x21, .int (Int32.ofInt 0)]) (r := []) (b := A 109) (q := 109) 27 (gd rfl) rfl rfl rfl rfl rfl (ww_o rfl) (Nat.le_of_ble_eq_true rfl) (Nat.zero_le _) (Nat.zero_le _) (k_393 (by first | exact dq1 hd rfl | exact dq0 hd rfl | exact dq2 hd rfl | exact dq3 hd rfl | omega) hIc0 v0_109_109 n24) (fun e u h => h) (fun v u h => ?_)
                obtain ⟨s24, hI24, hF24, n24a, rfl, rfl, p24, p24a⟩ := h
                obtain ⟨z24a, e24⟩ : ∃ w, w = s24.2.2.1 109 109 := ⟨_, rfl⟩
                have i24a := inv_F hI24 0 400 rfl e24
                rw [← (show w0_109_109 = sc0.2.2.1 109 109 from v0_109_109)] at n24a
                rw [← (show z24a = s24.2.2.1 109 109 from e24)] at n24a
                show GG _ _ _ _ _ _ _ _ [] _ _ _
                refine g_aload_n 28 (gd rfl) rfl rfl ?_
                have v28 : w0_109_111 = s24.2.2.1 109 111 := fr_F (v0_109_111) hF24 rfl
                have n28 : 1 ≤ (w0_109_111).toInt := by have a0 := oa5 h1 i4 ((inv_F hIc0 0 400 rfl v0_109_109)) i24a i20x20; have a5 := t_sub e20x20 i4 (in_c 1 rfl) rfl; have a6 := oa2 ((in_c 1 rfl)) i8x20; have a8 := t_sub e8x20 i4 (in_c 1 rfl) rfl; omega
                refine g_callv (X := _) (As := []) (r := []) (b := A 109) (q := 109) 31 (gd rfl) rfl rfl rfl rfl rfl (ww_o rfl) (Nat.le_of_ble_eq_true rfl) (Nat.zero_le _) (Nat.zero_le _) (k_397 (by first | exact dq1 hd rfl | exact dq0 hd rfl | exact dq2 hd rfl | exact dq3 hd rfl | omega) hI24 v28 n28) (fun e u h => h) (fun v u h => ?_)
                obtain ⟨s28, hI28, hF28, n28a, rfl, rfl⟩ := h
                obtain ⟨z28a, e28⟩ : ∃ w, w = s28.2.2.1 109 111 := ⟨_, rfl⟩
                have i28a := inv_F hI28 0 200 rfl e28
                rw [← (show w0_109_111 = s24.2.2.1 109 111 from fr_F (v0_109_111) hF24 rfl)] at n28a
                rw [← (show z28a = s28.2.2.1 109 111 from e28)] at n28a
                show GG _ _ _ _ _ _ _ _ [] _ _ _
                refine g_goto 0 (gd rfl) rfl ?_
                have v0 : z24a = s28.2.2.1 109 109 := fr_F (e24) hF28 rfl
                have n0 : (z24a).toInt + (z28a).toInt = (u_109_109).toInt + (u_109_111).toInt := by have a0 := oa6 h1 i4 ((inv_F hIc0 0 400 rfl v0_109_109)) i28a i24a i20x20; have a6 := t_sub e20x20 i4 (in_c 1 rfl) rfl; have a7 := oa2 ((in_c 1 rfl)) i8x20; have a9 := t_sub e8x20 i4 (in_c 1 rfl) rfl; omega
                have n0a : PR s s28 1 1 := by first | exact pr_rf | (have hz : z20x21 = z8x21 := (by rw [e20x21, e8x21, e20x20, e8x20]); exact pr_tr g0_0 (pr_set (n := (sc0.2.2.1 109 109).toNatClampNeg) (x := z20x21) (v := Int32.ofInt 0) (b := z20x20) ((hF28.1 187 rfl).trans p24) ((hF28.1 188 rfl).trans p24a) rfl (inv_F hIc0 0 400 rfl rfl).1 (by rw [hF28.2.2.1 109 109 rfl, ← e24, ← v0_109_109]; exact n24a) ((hF28.2.2.1 109 23 rfl).trans (hF24.2.2.1 109 23 rfl)) ((hF28.1 190 rfl).trans (hF24.1 190 rfl)) (by rw [← e28]; have a0 := oa6 h1 i4 ((inv_F hIc0 0 400 rfl v0_109_109)) i28a i24a i20x20; have a6 := t_sub e20x20 i4 (in_c 1 rfl) rfl; have a7 := oa2 ((in_c 1 rfl)) i8x20; have a9 := t_sub e8x20 i4 (in_c 1 rfl) rfl; omega) (by rw [← v0_109_111]; have a0 := oa6 h1 i4 ((inv_F hIc0 0 400 rfl v0_109_109)) i28a i24a i20x20; have a6 := t_sub e20x20 i4 (in_c 1 rfl) rfl; have a7 := oa2 ((in_c 1 rfl)) i8x20; have a9 := t_sub e8x20 i4 (in_c 1 rfl) rfl; omega) i20x20.1 e20x21 (Or.inl (by rw [hz]; first | (have hi := i11x3; unfold In at hi; omega) | (have hi := i11x13; unfold In at hi; omega) | (have hi := i11x19; unfold In at hi; omega) | (have hi := i11x29; unfold In at hi; omega) | (have hi := i11x35; unfold In at hi; omega)))))
                have m0 : (z28a).toInt < ((k0 : Nat) : Int) := by have a0 := oa6 h1 i4 ((inv_F hIc0 0 400 rfl v0_109_109)) i28a i24a i20x20; have a6 := t_sub e20x20 i4 (in_c 1 rfl) rfl; have a7 := oa2 ((in_c 1 rfl)) i8x20; have a9 := t_sub e8x20 i4 (in_c 1 rfl) rfl; omega
                exact gg_w (by first | exact Nat.le_add_right _ _ | exact gw2 | exact gw3 | exact gwe rfl | exact gwf rfl | exact gwg rfl | exact gwh rfl | omega) (gg_f (gf_cons rfl (gf_cons rfl gf_nil)) (ih0  s28 z24a z28a hI28 (fr_tr rfl (fr_tr rfl hFc0 hF24) hF28) v0 e28 n0 n0a m0))
              · skip
                exact zn_eq c20x4 i4 rfl
        · skip
          exact zn_eq c8x4 i4 rfl
  refine g_enter2 (k := 399) (N := 181801) (by first | exact dq1 hd rfl | exact dq0 hd rfl | exact dq2 hd rfl | exact dq3 hd rfl | omega) rfl (Nat.le_of_ble_eq_true rfl) ?_
  have n0 : (u_109_109).toInt + (u_109_111).toInt = (u_109_109).toInt + (u_109_111).toInt := by have a0 := oa3 ((inv_F hI 0 200 rfl e_109_111)) ((inv_F hI 0 400 rfl e_109_109)) h1; omega
  have n0a : PR s s 1 1 := by first | exact pr_rf | (have hz : z20x21 = z8x21 := (by rw [e20x21, e8x21, e20x20, e8x20]); exact pr_tr g0_0 (pr_set (n := (sc0.2.2.1 109 109).toNatClampNeg) (x := z20x21) (v := Int32.ofInt 0) (b := z20x20) ((hF28.1 187 rfl).trans p24) ((hF28.1 188 rfl).trans p24a) rfl (inv_F hIc0 0 400 rfl rfl).1 (by rw [hF28.2.2.1 109 109 rfl, ← e24, ← v0_109_109]; exact n24a) ((hF28.2.2.1 109 23 rfl).trans (hF24.2.2.1 109 23 rfl)) ((hF28.1 190 rfl).trans (hF24.1 190 rfl)) (by rw [← e28]; have a0 := oa3 ((inv_F hI 0 200 rfl e_109_111)) ((inv_F hI 0 400 rfl e_109_109)) h1; omega) (by rw [← v0_109_111]; have a0 := oa3 ((inv_F hI 0 200 rfl e_109_111)) ((inv_F hI 0 400 rfl e_109_109)) h1; omega) i20x20.1 e20x21 (Or.inl (by rw [hz]; first | (have hi := i11x3; unfold In at hi; omega) | (have hi := i11x13; unfold In at hi; omega) | (have hi := i11x19; unfold In at hi; omega) | (have hi := i11x29; unfold In at hi; omega) | (have hi := i11x35; unfold In at hi; omega)))))
  have m0 : (u_109_111).toInt < ((201 : Nat) : Int) := by have a0 := oa3 ((inv_F hI 0 200 rfl e_109_111)) ((inv_F hI 0 400 rfl e_109_109)) h1; omega
  exact gg_w (by first | exact Nat.le_of_ble_eq_true rfl | omega) (gg_f (gf_cons rfl (gf_cons rfl gf_nil)) (ct0 201 s u_109_109 u_109_111 hI fr_rf e_109_109 e_109_111 n0 n0a m0))
end
section
/-! methods, by vc.py -/
def fm_401 : FM := ([187, 188, 190], [], [(109, 23), (109, 24), (109, 109), (109, 111), (109, 112)], [])
/-- GraphHouseModel.factor -/
theorem k_401 {Z : AmZ} {A : Nat → Nat} {s : GS} {ex : va_W} {d : Nat} {X : AmX} {u_109_109 : Int32} {u_109_111 : Int32} {u_109_28 : Int32} (hd : 4 ≤ d) (hI : Inv s) (e_109_109 : u_109_109 = s.2.2.1 109 109) (e_109_111 : u_109_111 = s.2.2.1 109 111) (e_109_28 : u_109_28 = s.2.2.1 109 28) (p_0 : (u_109_109).toInt + (u_109_111).toInt ≤ 120) (p_1 : (u_109_28).toInt ≠ 0 → (u_109_109).toInt + (u_109_111).toInt ≤ 119) : GC Z d 401 [.ref (A 109)] (WW Z A s ++ ex) 0 0 (fun v u => ∃ t : GS, Inv t ∧ Fr fm_401 s t ∧ ((t.2.2.1 109 109).toInt + (t.2.2.1 109 111).toInt ≤ (s.2.2.1 109 109).toInt + (s.2.2.1 109 111).toInt + 1) ∧ ((s.2.2.1 109 28).toInt = 0 → (t.2.2.1 109 109).toInt + (t.2.2.1 109 111).toInt = (s.2.2.1 109 109).toInt + (s.2.2.1 109 111).toInt) ∧ ((s.2.2.1 109 28).toInt = 0 → 1 ≤ (t.2.2.1 109 23).toInt) ∧ ∃ z : Int32, v = some (.int z) ∧ u = WW Z A t ++ ex ∧ In z 0 1 ∧ ((z).toInt = 0 → PR s t 0 0) ∧ ((z).toInt ≠ 0 → PR s t 0 1)) X := by
  intro post xp hP hX
  obtain ⟨u_109_29, e_109_29⟩ : ∃ w, w = s.2.2.1 109 29 := ⟨_, rfl⟩
  have ro_109_29 := inv_F hI 0 1000 rfl e_109_29
  obtain ⟨u_109_30, e_109_30⟩ : ∃ w, w = s.2.2.1 109 30 := ⟨_, rfl⟩
  refine g_enter2 (k := 401) (N := 900) (by first | exact dq1 hd rfl | exact dq0 hd rfl | exact dq2 hd rfl | exact dq3 hd rfl | omega) rfl (Nat.le_of_ble_eq_true rfl) ?_
  refine g_aload_n 1 (gd rfl) rfl rfl ?_
  refine g_getI 4 (gd rfl) rfl rfl rfl (fun z1 e1 => ?_)
  have q1 : u_109_28 = z1 := (e_109_28).trans e1.symm
  subst q1
  refine g_iconst 2 5 (gd rfl) rfl rfl ?_
  refine g_cmp_ne 8 24 (gd rfl) rfl rfl (fun c5 => ?_) (fun c5 => ?_)
  · skip
    refine g_aload_n 25 (gd rfl) rfl rfl ?_
    refine g_getI 28 (gd rfl) rfl rfl rfl (fun z25 e25 => ?_)
    have q25 : u_109_28 = z25 := (e_109_28).trans e25.symm
    subst q25
    refine g_iconst 1 29 (gd rfl) rfl rfl ?_
    refine g_cmp_ne 32 65 (gd rfl) rfl rfl (fun c29 => ?_) (fun c29 => ?_)
    · skip
      refine g_aload_n 66 (gd rfl) rfl rfl ?_
      refine g_getI 69 (gd rfl) rfl rfl rfl (fun z66 e66 => ?_)
      have q66 : u_109_28 = z66 := (e_109_28).trans e66.symm
      subst q66
      refine g_iconst 3 70 (gd rfl) rfl rfl ?_
      refine g_cmp_ne 73 91 (gd rfl) rfl rfl (fun c70 => ?_) (fun c70 => ?_)
      · skip
        refine g_aload_n 92 (gd rfl) rfl rfl ?_
        refine g_iconst 2 93 (gd rfl) rfl rfl ?_
        refine g_aload_n 94 (gd rfl) rfl rfl ?_
        refine g_getI 97 (gd rfl) rfl rfl rfl (fun z94 e94 => ?_)
        have q94 : u_109_29 = z94 := (e_109_29).trans e94.symm
        subst q94
        refine g_callv (X := _) (As := [.int (Int32.ofInt 2), .int u_109_29]) (r := []) (b := A 109) (q := 109) 100 (gd rfl) rfl rfl rfl rfl rfl (ww_o rfl) (Nat.le_of_ble_eq_true rfl) (Nat.zero_le _) (Nat.zero_le _) (k_298 (by first | exact dq1 hd rfl | exact dq0 hd rfl | exact dq2 hd rfl | exact dq3 hd rfl | omega) hI (in_w 1 5 (in_c 2 rfl) rfl)) (fun e u h => h) (fun v u h => ?_)
        obtain ⟨s97, hI97, hF97, n97, rfl, rfl⟩ := h
        obtain ⟨z97a, e97⟩ : ∃ w, w = s97.2.2.1 109 23 := ⟨_, rfl⟩
        have i97a := inv_F hI97 0 9 rfl e97
        rw [← (show z97a = s97.2.2.1 109 23 from e97)] at n97
        show GG _ _ _ _ _ _ _ _ [] _ _ _
        refine g_goto 143 (gd rfl) rfl ?_
        refine g_iconst 0 144 (gd rfl) rfl rfl ?_
        have n144 : ((Int32.ofInt 0)).toInt = 0 → PR s s97 0 0 := by intro hR; first | (exfalso; revert hR; decide) | exact pr_hold (hF140.1 187 rfl) (hF140.1 188 rfl) (hF140.2.2.1 109 109 rfl) (hF140.2.2.1 109 23 rfl) p140 (by rw [← e140, ← e_109_111]; exact n140a) (inv_F hI 0 200 rfl rfl).1 (Or.inl ⟨Or.inl rfl, rfl⟩) | exact pr_hold (hF140.1 187 rfl) (hF140.1 188 rfl) (hF140.2.2.1 109 109 rfl) (hF140.2.2.1 109 23 rfl) p140 (by rw [← e140, ← e_109_111]; exact n140a) (inv_F hI 0 200 rfl rfl).1 (Or.inl ⟨Or.inr rfl, rfl⟩) | exact pr_flt (hF97.1 187 rfl) (hF97.1 188 rfl) (hF97.2.2.1 109 109 rfl) (by rw [← e97]; omega) | exact pr_flt (hF118.1 187 rfl) (hF118.1 188 rfl) (hF118.2.2.1 109 109 rfl) (by rw [← e118]; omega)
        have n144a : ((Int32.ofInt 0)).toInt ≠ 0 → PR s s97 0 1 := by exact fun h => absurd rfl h
        have n144b : (u_109_109).toInt + (u_109_111).toInt ≤ (u_109_109).toInt + (u_109_111).toInt + 1 := by have a0 := oa4 ro_109_29 ((inv_F hI 0 200 rfl e_109_111)) ((inv_F hI 0 400 rfl e_109_109)) i97a; omega
        have n144c : (s97.2.2.1 109 109).toInt + (s97.2.2.1 109 111).toInt ≤ (s.2.2.1 109 109).toInt + (s.2.2.1 109 111).toInt + 1 := by have b0 : u_109_109 = s97.2.2.1 109 109 := fr_F (e_109_109) hF97 rfl; have b1 : u_109_111 = s97.2.2.1 109 111 := fr_F (e_109_111) hF97 rfl; first | (rw [← b0, ← b1, ← e_109_109, ← e_109_111]; exact n144b) | (rw [← b0, ← b1]; exact n144b)
        have n144d : (u_109_28).toInt = 0 → (u_109_109).toInt + (u_109_111).toInt = (u_109_109).toInt + (u_109_111).toInt := by have a0 := oa4 ro_109_29 ((inv_F hI 0 200 rfl e_109_111)) ((inv_F hI 0 400 rfl e_109_109)) i97a; omega
        have n144e : (s.2.2.1 109 28).toInt = 0 → (s97.2.2.1 109 109).toInt + (s97.2.2.1 109 111).toInt = (s.2.2.1 109 109).toInt + (s.2.2.1 109 111).toInt := by have b0 : u_109_109 = s97.2.2.1 109 109 := fr_F (e_109_109) hF97 rfl; have b1 : u_109_111 = s97.2.2.1 109 111 := fr_F (e_109_111) hF97 rfl; first | (rw [← b0, ← b1, ← e_109_28, ← e_109_109, ← e_109_111]; exact n144d) | (rw [← b0, ← b1]; exact n144d)
        have n144f : (u_109_28).toInt = 0 → 1 ≤ (z97a).toInt := by have a0 := oa4 ro_109_29 ((inv_F hI 0 200 rfl e_109_111)) ((inv_F hI 0 400 rfl e_109_109)) i97a; omega
        have n144g : (s.2.2.1 109 28).toInt = 0 → 1 ≤ (s97.2.2.1 109 23).toInt := by have b0 : z97a = s97.2.2.1 109 23 := e97; rw [← b0, ← e_109_28]; exact n144f
        exact g_ireturn (gd rfl) rfl (nb01 (in_w 0 1 (in_c 0 rfl) rfl)) (hP _ _ ⟨s97, hI97, (fr_tr rfl fr_rf hF97), n144c, n144e, n144g, (Int32.ofInt 0), rfl, rfl, in_w 0 1 (in_c 0 rfl) rfl, n144, n144a⟩)
      · skip
        have i70 := r_eq1 3 3 c70 (inv_F hI (-2147483648) 2147483647 rfl e_109_28) (in_c 3 rfl) rfl
        refine g_aload_n 74 (gd rfl) rfl rfl ?_
        refine g_getI 77 (gd rfl) rfl rfl rfl (fun z74 e74 => ?_)
        have q74 : u_109_30 = z74 := (e_109_30).trans e74.symm
        subst q74
        refine g_bipush 45 79 (gd rfl) rfl rfl ?_
        refine g_cmp_eq 82 103 (gd rfl) rfl rfl (fun c79 => ?_) (fun c79 => ?_)
        · skip
          have i79 := r_eq1 45 45 c79 (i_rng u_109_30) (in_c 45 rfl) rfl
          refine g_aload_n 104 (gd rfl) rfl rfl ?_
          refine g_getI 107 (gd rfl) rfl rfl rfl (fun z104 e104 => ?_)
          refine g_bipush 10 109 (gd rfl) rfl rfl ?_
          refine g_cmp_lt 112 124 (gd rfl) rfl rfl (fun c109 => ?_) (fun c109 => ?_)
          · skip
            have i109 := r_lt1 (-2147483648) 9 c109 (i_rng z104) (in_c 10 rfl) rfl
            refine g_aload_n 125 (gd rfl) rfl rfl ?_
            refine g_aload_n 126 (gd rfl) rfl rfl ?_
            refine g_getI 129 (gd rfl) rfl rfl rfl (fun z126 e126 => ?_)
            have q126 : u_109_30 = z126 := (e_109_30).trans e126.symm
            subst q126
            refine g_bipush 45 131 (gd rfl) rfl rfl ?_
            refine g_cmp_ne 134 138 (gd rfl) rfl rfl (fun c131 => ?_) (fun c131 => ?_)
            · skip
              exact n_ne c131 i79 (in_c 45 rfl) rfl
            · skip
              refine g_iconst 2 135 (gd rfl) rfl rfl ?_
              refine g_goto 140 (gd rfl) rfl ?_
              have n140 : (u_109_111).toInt ≤ 199 := by have a0 := oa6 i79 ro_109_29 i70 ((inv_F hI 0 200 rfl e_109_111)) ((inv_F hI 0 400 rfl e_109_109)) i109; omega
              refine g_callv (X := _) (As := [.int (Int32.ofInt 2)]) (r := []) (b := A 109) (q := 109) 143 (gd rfl) rfl rfl rfl rfl rfl (ww_o rfl) (Nat.le_of_ble_eq_true rfl) (Nat.zero_le _) (Nat.zero_le _) (k_396 (by first | exact dq1 hd rfl | exact dq0 hd rfl | exact dq2 hd rfl | exact dq3 hd rfl | omega) hI e_109_111 n140) (fun e u h => h) (fun v u h => ?_)
              obtain ⟨s140, hI140, hF140, n140a, rfl, rfl, p140⟩ := h
              obtain ⟨z140a, e140⟩ : ∃ w, w = s140.2.2.1 109 111 := ⟨_, rfl⟩
              have i140a := inv_F hI140 0 200 rfl e140
              rw [← (show u_109_111 = s.2.2.1 109 111 from e_109_111)] at n140a
              rw [← (show z140a = s140.2.2.1 109 111 from e140)] at n140a
              show GG _ _ _ _ _ _ _ _ [] _ _ _
              refine g_iconst 0 144 (gd rfl) rfl rfl ?_
              have n144 : ((Int32.ofInt 0)).toInt = 0 → PR s s140 0 0 := by intro hR; first | (exfalso; revert hR; decide) | exact pr_hold (hF140.1 187 rfl) (hF140.1 188 rfl) (hF140.2.2.1 109 109 rfl) (hF140.2.2.1 109 23 rfl) p140 (by rw [← e140, ← e_109_111]; exact n140a) (inv_F hI 0 200 rfl rfl).1 (Or.inl ⟨Or.inl rfl, rfl⟩) | exact pr_hold (hF140.1 187 rfl) (hF140.1 188 rfl) (hF140.2.2.1 109 109 rfl) (hF140.2.2.1 109 23 rfl) p140 (by rw [← e140, ← e_109_111]; exact n140a) (inv_F hI 0 200 rfl rfl).1 (Or.inl ⟨Or.inr rfl, rfl⟩) | exact pr_flt (hF97.1 187 rfl) (hF97.1 188 rfl) (hF97.2.2.1 109 109 rfl) (by rw [← e97]; omega) | exact pr_flt (hF118.1 187 rfl) (hF118.1 188 rfl) (hF118.2.2.1 109 109 rfl) (by rw [← e118]; omega)
              have n144a : ((Int32.ofInt 0)).toInt ≠ 0 → PR s s140 0 1 := by exact fun h => absurd rfl h
              have n144b : (u_109_109).toInt + (z140a).toInt ≤ (u_109_109).toInt + (u_109_111).toInt + 1 := by have a0 := oa6 i79 ro_109_29 i70 ((inv_F hI 0 200 rfl e_109_111)) ((inv_F hI 0 400 rfl e_109_109)) i140a; omega
              have n144c : (s140.2.2.1 109 109).toInt + (s140.2.2.1 109 111).toInt ≤ (s.2.2.1 109 109).toInt + (s.2.2.1 109 111).toInt + 1 := by have b0 : u_109_109 = s140.2.2.1 109 109 := fr_F (e_109_109) hF140 rfl; have b1 : z140a = s140.2.2.1 109 111 := e140; first | (rw [← b0, ← b1, ← e_109_109, ← e_109_111]; exact n144b) | (rw [← b0, ← b1]; exact n144b)
              have n144d : (u_109_28).toInt = 0 → (u_109_109).toInt + (z140a).toInt = (u_109_109).toInt + (u_109_111).toInt := by have a0 := oa6 i79 ro_109_29 i70 ((inv_F hI 0 200 rfl e_109_111)) ((inv_F hI 0 400 rfl e_109_109)) i140a; omega
              have n144e : (s.2.2.1 109 28).toInt = 0 → (s140.2.2.1 109 109).toInt + (s140.2.2.1 109 111).toInt = (s.2.2.1 109 109).toInt + (s.2.2.1 109 111).toInt := by have b0 : u_109_109 = s140.2.2.1 109 109 := fr_F (e_109_109) hF140 rfl; have b1 : z140a = s140.2.2.1 109 111 := e140; first | (rw [← b0, ← b1, ← e_109_28, ← e_109_109, ← e_109_111]; exact n144d) | (rw [← b0, ← b1]; exact n144d)
              have n144f : (u_109_28).toInt = 0 → 1 ≤ ((s140.2.2.1 109 23)).toInt := by have a0 := oa7 i79 ro_109_29 i70 ((inv_F hI 0 200 rfl e_109_111)) ((inv_F hI 0 400 rfl e_109_109)) i140a ((show In (s140.2.2.1 109 23) 0 9 from inv_F hI140 0 9 rfl rfl)); omega
              have n144g : (s.2.2.1 109 28).toInt = 0 → 1 ≤ (s140.2.2.1 109 23).toInt := by rw [← e_109_28]; exact n144f
              exact g_ireturn (gd rfl) rfl (nb01 (in_w 0 1 (in_c 0 rfl) rfl)) (hP _ _ ⟨s140, hI140, (fr_tr rfl fr_rf hF140), n144c, n144e, n144g, (Int32.ofInt 0), rfl, rfl, in_w 0 1 (in_c 0 rfl) rfl, n144, n144a⟩)
          · skip
            have i109 := r_le2 10 2147483647 c109 (in_c 10 rfl) (i_rng z104) rfl
            refine g_aload_n 113 (gd rfl) rfl rfl ?_
            refine g_iconst 3 114 (gd rfl) rfl rfl ?_
            refine g_aload_n 115 (gd rfl) rfl rfl ?_
            refine g_getI 118 (gd rfl) rfl rfl rfl (fun z115 e115 => ?_)
            have q115 : u_109_29 = z115 := (e_109_29).trans e115.symm
            subst q115
            refine g_callv (X := _) (As := [.int (Int32.ofInt 3), .int u_109_29]) (r := []) (b := A 109) (q := 109) 121 (gd rfl) rfl rfl rfl rfl rfl (ww_o rfl) (Nat.le_of_ble_eq_true rfl) (Nat.zero_le _) (Nat.zero_le _) (k_298 (by first | exact dq1 hd rfl | exact dq0 hd rfl | exact dq2 hd rfl | exact dq3 hd rfl | omega) hI (in_w 1 5 (in_c 3 rfl) rfl)) (fun e u h => h) (fun v u h => ?_)
            obtain ⟨s118, hI118, hF118, n118, rfl, rfl⟩ := h
            obtain ⟨z118a, e118⟩ : ∃ w, w = s118.2.2.1 109 23 := ⟨_, rfl⟩
            have i118a := inv_F hI118 0 9 rfl e118
            rw [← (show z118a = s118.2.2.1 109 23 from e118)] at n118
            show GG _ _ _ _ _ _ _ _ [] _ _ _
            refine g_goto 143 (gd rfl) rfl ?_
            refine g_iconst 0 144 (gd rfl) rfl rfl ?_
            have n144 : ((Int32.ofInt 0)).toInt = 0 → PR s s118 0 0 := by intro hR; first | (exfalso; revert hR; decide) | exact pr_hold (hF140.1 187 rfl) (hF140.1 188 rfl) (hF140.2.2.1 109 109 rfl) (hF140.2.2.1 109 23 rfl) p140 (by rw [← e140, ← e_109_111]; exact n140a) (inv_F hI 0 200 rfl rfl).1 (Or.inl ⟨Or.inl rfl, rfl⟩) | exact pr_hold (hF140.1 187 rfl) (hF140.1 188 rfl) (hF140.2.2.1 109 109 rfl) (hF140.2.2.1 109 23 rfl) p140 (by rw [← e140, ← e_109_111]; exact n140a) (inv_F hI 0 200 rfl rfl).1 (Or.inl ⟨Or.inr rfl, rfl⟩) | exact pr_flt (hF97.1 187 rfl) (hF97.1 188 rfl) (hF97.2.2.1 109 109 rfl) (by rw [← e97]; omega) | exact pr_flt (hF118.1 187 rfl) (hF118.1 188 rfl) (hF118.2.2.1 109 109 rfl) (by rw [← e118]; omega)
            have n144a : ((Int32.ofInt 0)).toInt ≠ 0 → PR s s118 0 1 := by exact fun h => absurd rfl h
            have n144b : (u_109_109).toInt + (u_109_111).toInt ≤ (u_109_109).toInt + (u_109_111).toInt + 1 := by have a0 := oa7 i79 ro_109_29 i70 ((inv_F hI 0 200 rfl e_109_111)) ((inv_F hI 0 400 rfl e_109_109)) i118a i109; omega
            have n144c : (s118.2.2.1 109 109).toInt + (s118.2.2.1 109 111).toInt ≤ (s.2.2.1 109 109).toInt + (s.2.2.1 109 111).toInt + 1 := by have b0 : u_109_109 = s118.2.2.1 109 109 := fr_F (e_109_109) hF118 rfl; have b1 : u_109_111 = s118.2.2.1 109 111 := fr_F (e_109_111) hF118 rfl; first | (rw [← b0, ← b1, ← e_109_109, ← e_109_111]; exact n144b) | (rw [← b0, ← b1]; exact n144b)
            have n144d : (u_109_28).toInt = 0 → (u_109_109).toInt + (u_109_111).toInt = (u_109_109).toInt + (u_109_111).toInt := by have a0 := oa7 i79 ro_109_29 i70 ((inv_F hI 0 200 rfl e_109_111)) ((inv_F hI 0 400 rfl e_109_109)) i118a i109; omega
            have n144e : (s.2.2.1 109 28).toInt = 0 → (s118.2.2.1 109 109).toInt + (s118.2.2.1 109 111).toInt = (s.2.2.1 109 109).toInt + (s.2.2.1 109 111).toInt := by have b0 : u_109_109 = s118.2.2.1 109 109 := fr_F (e_109_109) hF118 rfl; have b1 : u_109_111 = s118.2.2.1 109 111 := fr_F (e_109_111) hF118 rfl; first | (rw [← b0, ← b1, ← e_109_28, ← e_109_109, ← e_109_111]; exact n144d) | (rw [← b0, ← b1]; exact n144d)
            have n144f : (u_109_28).toInt = 0 → 1 ≤ (z118a).toInt := by have a0 := oa7 i79 ro_109_29 i70 ((inv_F hI 0 200 rfl e_109_111)) ((inv_F hI 0 400 rfl e_109_109)) i118a i109; omega
            have n144g : (s.2.2.1 109 28).toInt = 0 → 1 ≤ (s118.2.2.1 109 23).toInt := by have b0 : z118a = s118.2.2.1 109 23 := e118; rw [← b0, ← e_109_28]; exact n144f
            exact g_ireturn (gd rfl) rfl (nb01 (in_w 0 1 (in_c 0 rfl) rfl)) (hP _ _ ⟨s118, hI118, (fr_tr rfl fr_rf hF118), n144c, n144e, n144g, (Int32.ofInt 0), rfl, rfl, in_w 0 1 (in_c 0 rfl) rfl, n144, n144a⟩)
        · skip
          refine g_aload_n 83 (gd rfl) rfl rfl ?_
          refine g_getI 86 (gd rfl) rfl rfl rfl (fun z83 e83 => ?_)
          have q83 : u_109_30 = z83 := (e_109_30).trans e83.symm
          subst q83
          refine g_bipush 40 88 (gd rfl) rfl rfl ?_
          refine g_cmp_eq 91 103 (gd rfl) rfl rfl (fun c88 => ?_) (fun c88 => ?_)
          · skip
            have i88 := r_eq1 40 40 c88 (i_rng u_109_30) (in_c 40 rfl) rfl
            refine g_aload_n 104 (gd rfl) rfl rfl ?_
            refine g_getI 107 (gd rfl) rfl rfl rfl (fun z104 e104 => ?_)
            refine g_bipush 10 109 (gd rfl) rfl rfl ?_
            refine g_cmp_lt 112 124 (gd rfl) rfl rfl (fun c109 => ?_) (fun c109 => ?_)
            · skip
              have i109 := r_lt1 (-2147483648) 9 c109 (i_rng z104) (in_c 10 rfl) rfl
              refine g_aload_n 125 (gd rfl) rfl rfl ?_
              refine g_aload_n 126 (gd rfl) rfl rfl ?_
              refine g_getI 129 (gd rfl) rfl rfl rfl (fun z126 e126 => ?_)
              have q126 : u_109_30 = z126 := (e_109_30).trans e126.symm
              subst q126
              refine g_bipush 45 131 (gd rfl) rfl rfl ?_
              refine g_cmp_ne 134 138 (gd rfl) rfl rfl (fun c131 => ?_) (fun c131 => ?_)
              · skip
                refine g_bipush 40 140 (gd rfl) rfl rfl ?_
                have n140 : (u_109_111).toInt ≤ 199 := by have a0 := oa6 i88 ro_109_29 i70 ((inv_F hI 0 200 rfl e_109_111)) ((inv_F hI 0 400 rfl e_109_109)) i109; omega
                refine g_callv (X := _) (As := [.int (Int32.ofInt 40)]) (r := []) (b := A 109) (q := 109) 143 (gd rfl) rfl rfl rfl rfl rfl (ww_o rfl) (Nat.le_of_ble_eq_true rfl) (Nat.zero_le _) (Nat.zero_le _) (k_396 (by first | exact dq1 hd rfl | exact dq0 hd rfl | exact dq2 hd rfl | exact dq3 hd rfl | omega) hI e_109_111 n140) (fun e u h => h) (fun v u h => ?_)
                obtain ⟨s140, hI140, hF140, n140a, rfl, rfl, p140⟩ := h
                obtain ⟨z140a, e140⟩ : ∃ w, w = s140.2.2.1 109 111 := ⟨_, rfl⟩
                have i140a := inv_F hI140 0 200 rfl e140
                rw [← (show u_109_111 = s.2.2.1 109 111 from e_109_111)] at n140a
                rw [← (show z140a = s140.2.2.1 109 111 from e140)] at n140a
                show GG _ _ _ _ _ _ _ _ [] _ _ _
                refine g_iconst 0 144 (gd rfl) rfl rfl ?_
                have n144 : ((Int32.ofInt 0)).toInt = 0 → PR s s140 0 0 := by intro hR; first | (exfalso; revert hR; decide) | exact pr_hold (hF140.1 187 rfl) (hF140.1 188 rfl) (hF140.2.2.1 109 109 rfl) (hF140.2.2.1 109 23 rfl) p140 (by rw [← e140, ← e_109_111]; exact n140a) (inv_F hI 0 200 rfl rfl).1 (Or.inl ⟨Or.inl rfl, rfl⟩) | exact pr_hold (hF140.1 187 rfl) (hF140.1 188 rfl) (hF140.2.2.1 109 109 rfl) (hF140.2.2.1 109 23 rfl) p140 (by rw [← e140, ← e_109_111]; exact n140a) (inv_F hI 0 200 rfl rfl).1 (Or.inl ⟨Or.inr rfl, rfl⟩) | exact pr_flt (hF97.1 187 rfl) (hF97.1 188 rfl) (hF97.2.2.1 109 109 rfl) (by rw [← e97]; omega) | exact pr_flt (hF118.1 187 rfl) (hF118.1 188 rfl) (hF118.2.2.1 109 109 rfl) (by rw [← e118]; omega)
                have n144a : ((Int32.ofInt 0)).toInt ≠ 0 → PR s s140 0 1 := by exact fun h => absurd rfl h
                have n144b : (u_109_109).toInt + (z140a).toInt ≤ (u_109_109).toInt + (u_109_111).toInt + 1 := by have a0 := oa6 i88 ro_109_29 i70 ((inv_F hI 0 200 rfl e_109_111)) ((inv_F hI 0 400 rfl e_109_109)) i140a; omega
                have n144c : (s140.2.2.1 109 109).toInt + (s140.2.2.1 109 111).toInt ≤ (s.2.2.1 109 109).toInt + (s.2.2.1 109 111).toInt + 1 := by have b0 : u_109_109 = s140.2.2.1 109 109 := fr_F (e_109_109) hF140 rfl; have b1 : z140a = s140.2.2.1 109 111 := e140; first | (rw [← b0, ← b1, ← e_109_109, ← e_109_111]; exact n144b) | (rw [← b0, ← b1]; exact n144b)
                have n144d : (u_109_28).toInt = 0 → (u_109_109).toInt + (z140a).toInt = (u_109_109).toInt + (u_109_111).toInt := by have a0 := oa6 i88 ro_109_29 i70 ((inv_F hI 0 200 rfl e_109_111)) ((inv_F hI 0 400 rfl e_109_109)) i140a; omega
                have n144e : (s.2.2.1 109 28).toInt = 0 → (s140.2.2.1 109 109).toInt + (s140.2.2.1 109 111).toInt = (s.2.2.1 109 109).toInt + (s.2.2.1 109 111).toInt := by have b0 : u_109_109 = s140.2.2.1 109 109 := fr_F (e_109_109) hF140 rfl; have b1 : z140a = s140.2.2.1 109 111 := e140; first | (rw [← b0, ← b1, ← e_109_28, ← e_109_109, ← e_109_111]; exact n144d) | (rw [← b0, ← b1]; exact n144d)
                have n144f : (u_109_28).toInt = 0 → 1 ≤ ((s140.2.2.1 109 23)).toInt := by have a0 := oa7 i88 ro_109_29 i70 ((inv_F hI 0 200 rfl e_109_111)) ((inv_F hI 0 400 rfl e_109_109)) i140a ((show In (s140.2.2.1 109 23) 0 9 from inv_F hI140 0 9 rfl rfl)); omega
                have n144g : (s.2.2.1 109 28).toInt = 0 → 1 ≤ (s140.2.2.1 109 23).toInt := by rw [← e_109_28]; exact n144f
                exact g_ireturn (gd rfl) rfl (nb01 (in_w 0 1 (in_c 0 rfl) rfl)) (hP _ _ ⟨s140, hI140, (fr_tr rfl fr_rf hF140), n144c, n144e, n144g, (Int32.ofInt 0), rfl, rfl, in_w 0 1 (in_c 0 rfl) rfl, n144, n144a⟩)
              · skip
                exact absurd c131 c79
            · skip
              have i109 := r_le2 10 2147483647 c109 (in_c 10 rfl) (i_rng z104) rfl
              refine g_aload_n 113 (gd rfl) rfl rfl ?_
              refine g_iconst 3 114 (gd rfl) rfl rfl ?_
              refine g_aload_n 115 (gd rfl) rfl rfl ?_
              refine g_getI 118 (gd rfl) rfl rfl rfl (fun z115 e115 => ?_)
              have q115 : u_109_29 = z115 := (e_109_29).trans e115.symm
              subst q115
              refine g_callv (X := _) (As := [.int (Int32.ofInt 3), .int u_109_29]) (r := []) (b := A 109) (q := 109) 121 (gd rfl) rfl rfl rfl rfl rfl (ww_o rfl) (Nat.le_of_ble_eq_true rfl) (Nat.zero_le _) (Nat.zero_le _) (k_298 (by first | exact dq1 hd rfl | exact dq0 hd rfl | exact dq2 hd rfl | exact dq3 hd rfl | omega) hI (in_w 1 5 (in_c 3 rfl) rfl)) (fun e u h => h) (fun v u h => ?_)
              obtain ⟨s118, hI118, hF118, n118, rfl, rfl⟩ := h
              obtain ⟨z118a, e118⟩ : ∃ w, w = s118.2.2.1 109 23 := ⟨_, rfl⟩
              have i118a := inv_F hI118 0 9 rfl e118
              rw [← (show z118a = s118.2.2.1 109 23 from e118)] at n118
              show GG _ _ _ _ _ _ _ _ [] _ _ _
              refine g_goto 143 (gd rfl) rfl ?_
              refine g_iconst 0 144 (gd rfl) rfl rfl ?_
              have n144 : ((Int32.ofInt 0)).toInt = 0 → PR s s118 0 0 := by intro hR; first | (exfalso; revert hR; decide) | exact pr_hold (hF140.1 187 rfl) (hF140.1 188 rfl) (hF140.2.2.1 109 109 rfl) (hF140.2.2.1 109 23 rfl) p140 (by rw [← e140, ← e_109_111]; exact n140a) (inv_F hI 0 200 rfl rfl).1 (Or.inl ⟨Or.inl rfl, rfl⟩) | exact pr_hold (hF140.1 187 rfl) (hF140.1 188 rfl) (hF140.2.2.1 109 109 rfl) (hF140.2.2.1 109 23 rfl) p140 (by rw [← e140, ← e_109_111]; exact n140a) (inv_F hI 0 200 rfl rfl).1 (Or.inl ⟨Or.inr rfl, rfl⟩) | exact pr_flt (hF97.1 187 rfl) (hF97.1 188 rfl) (hF97.2.2.1 109 109 rfl) (by rw [← e97]; omega) | exact pr_flt (hF118.1 187 rfl) (hF118.1 188 rfl) (hF118.2.2.1 109 109 rfl) (by rw [← e118]; omega)
              have n144a : ((Int32.ofInt 0)).toInt ≠ 0 → PR s s118 0 1 := by exact fun h => absurd rfl h
              have n144b : (u_109_109).toInt + (u_109_111).toInt ≤ (u_109_109).toInt + (u_109_111).toInt + 1 := by have a0 := oa7 i88 ro_109_29 i70 ((inv_F hI 0 200 rfl e_109_111)) ((inv_F hI 0 400 rfl e_109_109)) i118a i109; omega
              have n144c : (s118.2.2.1 109 109).toInt + (s118.2.2.1 109 111).toInt ≤ (s.2.2.1 109 109).toInt + (s.2.2.1 109 111).toInt + 1 := by have b0 : u_109_109 = s118.2.2.1 109 109 := fr_F (e_109_109) hF118 rfl; have b1 : u_109_111 = s118.2.2.1 109 111 := fr_F (e_109_111) hF118 rfl; first | (rw [← b0, ← b1, ← e_109_109, ← e_109_111]; exact n144b) | (rw [← b0, ← b1]; exact n144b)
              have n144d : (u_109_28).toInt = 0 → (u_109_109).toInt + (u_109_111).toInt = (u_109_109).toInt + (u_109_111).toInt := by have a0 := oa7 i88 ro_109_29 i70 ((inv_F hI 0 200 rfl e_109_111)) ((inv_F hI 0 400 rfl e_109_109)) i118a i109; omega
              have n144e : (s.2.2.1 109 28).toInt = 0 → (s118.2.2.1 109 109).toInt + (s118.2.2.1 109 111).toInt = (s.2.2.1 109 109).toInt + (s.2.2.1 109 111).toInt := by have b0 : u_109_109 = s118.2.2.1 109 109 := fr_F (e_109_109) hF118 rfl; have b1 : u_109_111 = s118.2.2.1 109 111 := fr_F (e_109_111) hF118 rfl; first | (rw [← b0, ← b1, ← e_109_28, ← e_109_109, ← e_109_111]; exact n144d) | (rw [← b0, ← b1]; exact n144d)
              have n144f : (u_109_28).toInt = 0 → 1 ≤ (z118a).toInt := by have a0 := oa7 i88 ro_109_29 i70 ((inv_F hI 0 200 rfl e_109_111)) ((inv_F hI 0 400 rfl e_109_109)) i118a i109; omega
              have n144g : (s.2.2.1 109 28).toInt = 0 → 1 ≤ (s118.2.2.1 109 23).toInt := by have b0 : z118a = s118.2.2.1 109 23 := e118; rw [← b0, ← e_109_28]; exact n144f
              exact g_ireturn (gd rfl) rfl (nb01 (in_w 0 1 (in_c 0 rfl) rfl)) (hP _ _ ⟨s118, hI118, (fr_tr rfl fr_rf hF118), n144c, n144e, n144g, (Int32.ofInt 0), rfl, rfl, in_w 0 1 (in_c 0 rfl) rfl, n144, n144a⟩)
          · skip
            refine g_aload_n 92 (gd rfl) rfl rfl ?_
            refine g_iconst 2 93 (gd rfl) rfl rfl ?_
            refine g_aload_n 94 (gd rfl) rfl rfl ?_
            refine g_getI 97 (gd rfl) rfl rfl rfl (fun z94 e94 => ?_)
            have q94 : u_109_29 = z94 := (e_109_29).trans e94.symm
            subst q94
            refine g_callv (X := _) (As := [.int (Int32.ofInt 2), .int u_109_29]) (r := []) (b := A 109) (q := 109) 100 (gd rfl) rfl rfl rfl rfl rfl (ww_o rfl) (Nat.le_of_ble_eq_true rfl) (Nat.zero_le _) (Nat.zero_le _) (k_298 (by first | exact dq1 hd rfl | exact dq0 hd rfl | exact dq2 hd rfl | exact dq3 hd rfl | omega) hI (in_w 1 5 (in_c 2 rfl) rfl)) (fun e u h => h) (fun v u h => ?_)
            obtain ⟨s97, hI97, hF97, n97, rfl, rfl⟩ := h
            obtain ⟨z97a, e97⟩ : ∃ w, w = s97.2.2.1 109 23 := ⟨_, rfl⟩
            have i97a := inv_F hI97 0 9 rfl e97
            rw [← (show z97a = s97.2.2.1 109 23 from e97)] at n97
            show GG _ _ _ _ _ _ _ _ [] _ _ _
            refine g_goto 143 (gd rfl) rfl ?_
            refine g_iconst 0 144 (gd rfl) rfl rfl ?_
            have n144 : ((Int32.ofInt 0)).toInt = 0 → PR s s97 0 0 := by intro hR; first | (exfalso; revert hR; decide) | exact pr_hold (hF140.1 187 rfl) (hF140.1 188 rfl) (hF140.2.2.1 109 109 rfl) (hF140.2.2.1 109 23 rfl) p140 (by rw [← e140, ← e_109_111]; exact n140a) (inv_F hI 0 200 rfl rfl).1 (Or.inl ⟨Or.inl rfl, rfl⟩) | exact pr_hold (hF140.1 187 rfl) (hF140.1 188 rfl) (hF140.2.2.1 109 109 rfl) (hF140.2.2.1 109 23 rfl) p140 (by rw [← e140, ← e_109_111]; exact n140a) (inv_F hI 0 200 rfl rfl).1 (Or.inl ⟨Or.inr rfl, rfl⟩) | exact pr_flt (hF97.1 187 rfl) (hF97.1 188 rfl) (hF97.2.2.1 109 109 rfl) (by rw [← e97]; omega) | exact pr_flt (hF118.1 187 rfl) (hF118.1 188 rfl) (hF118.2.2.1 109 109 rfl) (by rw [← e118]; omega)
            have n144a : ((Int32.ofInt 0)).toInt ≠ 0 → PR s s97 0 1 := by exact fun h => absurd rfl h
            have n144b : (u_109_109).toInt + (u_109_111).toInt ≤ (u_109_109).toInt + (u_109_111).toInt + 1 := by have a0 := oa5 ro_109_29 i70 ((inv_F hI 0 200 rfl e_109_111)) ((inv_F hI 0 400 rfl e_109_109)) i97a; omega
            have n144c : (s97.2.2.1 109 109).toInt + (s97.2.2.1 109 111).toInt ≤ (s.2.2.1 109 109).toInt + (s.2.2.1 109 111).toInt + 1 := by have b0 : u_109_109 = s97.2.2.1 109 109 := fr_F (e_109_109) hF97 rfl; have b1 : u_109_111 = s97.2.2.1 109 111 := fr_F (e_109_111) hF97 rfl; first | (rw [← b0, ← b1, ← e_109_109, ← e_109_111]; exact n144b) | (rw [← b0, ← b1]; exact n144b)
            have n144d : (u_109_28).toInt = 0 → (u_109_109).toInt + (u_109_111).toInt = (u_109_109).toInt + (u_109_111).toInt := by have a0 := oa5 ro_109_29 i70 ((inv_F hI 0 200 rfl e_109_111)) ((inv_F hI 0 400 rfl e_109_109)) i97a; omega
            have n144e : (s.2.2.1 109 28).toInt = 0 → (s97.2.2.1 109 109).toInt + (s97.2.2.1 109 111).toInt = (s.2.2.1 109 109).toInt + (s.2.2.1 109 111).toInt := by have b0 : u_109_109 = s97.2.2.1 109 109 := fr_F (e_109_109) hF97 rfl; have b1 : u_109_111 = s97.2.2.1 109 111 := fr_F (e_109_111) hF97 rfl; first | (rw [← b0, ← b1, ← e_109_28, ← e_109_109, ← e_109_111]; exact n144d) | (rw [← b0, ← b1]; exact n144d)
            have n144f : (u_109_28).toInt = 0 → 1 ≤ (z97a).toInt := by have a0 := oa5 ro_109_29 i70 ((inv_F hI 0 200 rfl e_109_111)) ((inv_F hI 0 400 rfl e_109_109)) i97a; omega
            have n144g : (s.2.2.1 109 28).toInt = 0 → 1 ≤ (s97.2.2.1 109 23).toInt := by have b0 : z97a = s97.2.2.1 109 23 := e97; rw [← b0, ← e_109_28]; exact n144f
            exact g_ireturn (gd rfl) rfl (nb01 (in_w 0 1 (in_c 0 rfl) rfl)) (hP _ _ ⟨s97, hI97, (fr_tr rfl fr_rf hF97), n144c, n144e, n144g, (Int32.ofInt 0), rfl, rfl, in_w 0 1 (in_c 0 rfl) rfl, n144, n144a⟩)
    · skip
      have i29 := r_eq1 1 1 c29 (inv_F hI (-2147483648) 2147483647 rfl e_109_28) (in_c 1 rfl) rfl
      refine g_aload_n 33 (gd rfl) rfl rfl ?_
      refine g_getI 36 (gd rfl) rfl rfl rfl (fun z33 e33 => ?_)
      have q33 : u_109_30 = z33 := (e_109_30).trans e33.symm
      subst q33
      refine g_calls (As := [.int u_109_30]) (r := []) 39 (gd rfl) rfl rfl rfl rfl rfl (Nat.le_of_ble_eq_true rfl) (mc := 0) (ms := 0) (Nat.zero_le _) (Nat.zero_le _) (P := fun v u => _) ?_ (fun v u h => h)
      intro po36 xx36 hp36 hx36
      refine g_enter2 (k := 394) (N := 300) (by first | exact dq1 hd rfl | exact dq0 hd rfl | exact dq2 hd rfl | exact dq3 hd rfl | omega) rfl (Nat.le_of_ble_eq_true rfl) ?_
      refine g_iload_n 1 (gd rfl) rfl rfl ?_
      refine g_tsw [106, 121, 121, 118, 121, 108, 121, 121, 104, 115, 102, 121, 121, 121, 110, 112, 121, 121, 121, 121, 100] 121 (gd rfl) rfl rfl rfl ⟨fun c36x1 => ?_, fun c36x1 => ?_, fun c36x1 => ?_, fun c36x1 => ?_, fun c36x1 => ?_, fun c36x1 => ?_, fun c36x1 => ?_, fun c36x1 => ?_, fun c36x1 => ?_, fun c36x1 => ?_, fun c36x1 => ?_, fun c36x1 => ?_, fun c36x1 => ?_, fun c36x1 => ?_, fun c36x1 => ?_, fun c36x1 => ?_, fun c36x1 => ?_, fun c36x1 => ?_, fun c36x1 => ?_, fun c36x1 => ?_, fun c36x1 => ?_, trivial⟩ (fun c36x1 => ?_)
      · skip
        have i36x1 := sw_eq c36x1
        refine g_iconst 3 107 (gd rfl) rfl rfl ?_
        refine g_ireturn (gd rfl) rfl rfl (hp36 _ _ ?_)
        show GG _ _ _ _ _ _ _ _ [.int (Int32.ofInt 3)] _ _ _
        refine g_istore_n 40 (gd rfl) rfl (Nat.le_of_ble_eq_true rfl) ?_
        refine g_iload_n 41 (gd rfl) rfl rfl ?_
        refine g_if_ge 44 53 (gd rfl) rfl rfl (fun c41 => ?_) (fun c41 => ?_)
        · skip
          refine g_aload_n 54 (gd rfl) rfl rfl ?_
          refine g_iconst 1 55 (gd rfl) rfl rfl ?_
          refine g_iload_n 56 (gd rfl) rfl rfl ?_
          have n56 : (u_109_109).toInt ≤ 399 := by have a0 := oa6 i36x1 ro_109_29 i29 ((inv_F hI 0 200 rfl e_109_111)) ((inv_F hI 0 400 rfl e_109_109)) ((in_c 3 rfl)); omega
          refine g_callv (X := _) (As := [.int (Int32.ofInt 1), .int (Int32.ofInt 3)]) (r := []) (b := A 109) (q := 109) 59 (gd rfl) rfl rfl rfl rfl rfl (ww_o rfl) (Nat.le_of_ble_eq_true rfl) (Nat.zero_le _) (Nat.zero_le _) (k_393 (by first | exact dq1 hd rfl | exact dq0 hd rfl | exact dq2 hd rfl | exact dq3 hd rfl | omega) hI e_109_109 n56) (fun e u h => h) (fun v u h => ?_)
          obtain ⟨s56, hI56, hF56, n56a, rfl, rfl, p56, p56a⟩ := h
          obtain ⟨z56a, e56⟩ : ∃ w, w = s56.2.2.1 109 109 := ⟨_, rfl⟩
          have i56a := inv_F hI56 0 400 rfl e56
          rw [← (show u_109_109 = s.2.2.1 109 109 from e_109_109)] at n56a
          rw [← (show z56a = s56.2.2.1 109 109 from e56)] at n56a
          show GG _ _ _ _ _ _ _ _ [] _ _ _
          refine g_aload_n 60 (gd rfl) rfl rfl ?_
          have v60 : u_109_111 = s56.2.2.1 109 111 := fr_F (e_109_111) hF56 rfl
          have n60 : (z56a).toInt + (u_109_111).toInt ≤ 120 := by have a0 := oa7 i36x1 ro_109_29 i29 ((inv_F hI 0 200 rfl e_109_111)) ((inv_F hI 0 400 rfl e_109_109)) ((in_c 3 rfl)) i56a; omega
          refine g_callv (X := _) (As := []) (r := []) (b := A 109) (q := 109) 63 (gd rfl) rfl rfl rfl rfl rfl (ww_o rfl) (Nat.le_of_ble_eq_true rfl) (Nat.zero_le _) (Nat.zero_le _) (k_400 (by first | exact dq1 hd rfl | exact dq0 hd rfl | exact dq2 hd rfl | exact dq3 hd rfl | omega) hI56 e56 v60 n60) (fun e u h => h) (fun v u h => ?_)
          obtain ⟨s60, hI60, hF60, n60a, rfl, rfl, p60⟩ := h
          obtain ⟨z60a, e60⟩ : ∃ w, w = s60.2.2.1 109 109 := ⟨_, rfl⟩
          have i60a := inv_F hI60 0 400 rfl e60
          obtain ⟨z60b, e60a⟩ : ∃ w, w = s60.2.2.1 109 111 := ⟨_, rfl⟩
          have i60b := inv_F hI60 0 200 rfl e60a
          rw [← (show z56a = s56.2.2.1 109 109 from e56)] at n60a
          rw [← (show u_109_111 = s56.2.2.1 109 111 from fr_F (e_109_111) hF56 rfl)] at n60a
          rw [← (show z60a = s60.2.2.1 109 109 from e60)] at n60a
          rw [← (show z60b = s60.2.2.1 109 111 from e60a)] at n60a
          show GG _ _ _ _ _ _ _ _ [] _ _ _
          refine g_iconst 1 64 (gd rfl) rfl rfl ?_
          have n64 : ((Int32.ofInt 1)).toInt = 0 → PR s s60 0 0 := by exact fun h => absurd h (by decide)
          have n64a : ((Int32.ofInt 1)).toInt ≠ 0 → PR s s60 0 1 := by intro hR; first | (exact absurd rfl hR) | exact pr_tr (pr_val p15 p15a rfl (inv_F hI 0 400 rfl rfl).1 (by rw [← e15, ← e_109_109]; exact n15a) (hF15.2.2.1 109 23 rfl) (hF15.1 190 rfl) (hF15.2.2.1 109 111 rfl) (fun _ => Or.inl rfl)) p19 | exact pr_tr (pr_val p56 p56a rfl (inv_F hI 0 400 rfl rfl).1 (by rw [← e56, ← e_109_109]; exact n56a) (hF56.2.2.1 109 23 rfl) (hF56.1 190 rfl) (hF56.2.2.1 109 111 rfl) (fun _ => Or.inr ⟨rfl, by decide, by decide⟩)) p60 | exact pr_tr (pr_tr (b := 0) (pr_flt (hF50.1 187 rfl) (hF50.1 188 rfl) (hF50.2.2.1 109 109 rfl) (by rw [← e50]; omega)) (pr_val p56 p56a rfl (inv_F hI50 0 400 rfl rfl).1 (by rw [← e56, ← (show u_109_109 = s50.2.2.1 109 109 from fr_F e_109_109 hF50 rfl)]; exact n56a) (hF56.2.2.1 109 23 rfl) (hF56.1 190 rfl) (hF56.2.2.1 109 111 rfl) (fun h => absurd h (by rw [← e50]; omega)))) p60
          have n64b : (z60a).toInt + (z60b).toInt ≤ (u_109_109).toInt + (u_109_111).toInt + 1 := by have a0 := oa8 i36x1 ro_109_29 i29 ((inv_F hI 0 200 rfl e_109_111)) ((inv_F hI 0 400 rfl e_109_109)) ((in_c 3 rfl)) i60b i60a; omega
          have n64c : (s60.2.2.1 109 109).toInt + (s60.2.2.1 109 111).toInt ≤ (s.2.2.1 109 109).toInt + (s.2.2.1 109 111).toInt + 1 := by have b0 : z60a = s60.2.2.1 109 109 := e60; have b1 : z60b = s60.2.2.1 109 111 := e60a; first | (rw [← b0, ← b1, ← e_109_109, ← e_109_111]; exact n64b) | (rw [← b0, ← b1]; exact n64b)
          have n64d : (u_109_28).toInt = 0 → (z60a).toInt + (z60b).toInt = (u_109_109).toInt + (u_109_111).toInt := by have a0 := oa8 i36x1 ro_109_29 i29 ((inv_F hI 0 200 rfl e_109_111)) ((inv_F hI 0 400 rfl e_109_109)) ((in_c 3 rfl)) i60b i60a; omega
          have n64e : (s.2.2.1 109 28).toInt = 0 → (s60.2.2.1 109 109).toInt + (s60.2.2.1 109 111).toInt = (s.2.2.1 109 109).toInt + (s.2.2.1 109 111).toInt := by have b0 : z60a = s60.2.2.1 109 109 := e60; have b1 : z60b = s60.2.2.1 109 111 := e60a; first | (rw [← b0, ← b1, ← e_109_28, ← e_109_109, ← e_109_111]; exact n64d) | (rw [← b0, ← b1]; exact n64d)
          have n64f : (u_109_28).toInt = 0 → 1 ≤ ((s60.2.2.1 109 23)).toInt := by have a0 := oa9 i36x1 ro_109_29 i29 ((inv_F hI 0 200 rfl e_109_111)) ((inv_F hI 0 400 rfl e_109_109)) ((in_c 3 rfl)) i60b i60a ((show In (s60.2.2.1 109 23) 0 9 from inv_F hI60 0 9 rfl rfl)); omega
          have n64g : (s.2.2.1 109 28).toInt = 0 → 1 ≤ (s60.2.2.1 109 23).toInt := by rw [← e_109_28]; exact n64f
          exact g_ireturn (gd rfl) rfl (nb01 (in_w 0 1 (in_c 1 rfl) rfl)) (hP _ _ ⟨s60, hI60, (fr_tr rfl (fr_tr rfl fr_rf hF56) hF60), n64c, n64e, n64g, (Int32.ofInt 1), rfl, rfl, in_w 0 1 (in_c 1 rfl) rfl, n64, n64a⟩)
        · skip
          exact zn_lt c41 (in_c 3 rfl) rfl
      · skip
        have i36x1 := sw_eq c36x1
        refine g_iconst (-1) 122 (gd rfl) rfl rfl ?_
        refine g_ireturn (gd rfl) rfl rfl (hp36 _ _ ?_)
        show GG _ _ _ _ _ _ _ _ [.int (Int32.ofInt (-1))] _ _ _
        refine g_istore_n 40 (gd rfl) rfl (Nat.le_of_ble_eq_true rfl) ?_
        refine g_iload_n 41 (gd rfl) rfl rfl ?_
        refine g_if_ge 44 53 (gd rfl) rfl rfl (fun c41 => ?_) (fun c41 => ?_)
        · skip
          exact zn_ge c41 (in_c (-1) rfl) rfl
        · skip
          refine g_aload_n 45 (gd rfl) rfl rfl ?_
          refine g_iconst 5 46 (gd rfl) rfl rfl ?_
          refine g_aload_n 47 (gd rfl) rfl rfl ?_
          refine g_getI 50 (gd rfl) rfl rfl rfl (fun z47 e47 => ?_)
          have q47 : u_109_29 = z47 := (e_109_29).trans e47.symm
          subst q47
          refine g_callv (X := _) (As := [.int (Int32.ofInt 5), .int u_109_29]) (r := []) (b := A 109) (q := 109) 53 (gd rfl) rfl rfl rfl rfl rfl (ww_o rfl) (Nat.le_of_ble_eq_true rfl) (Nat.zero_le _) (Nat.zero_le _) (k_298 (by first | exact dq1 hd rfl | exact dq0 hd rfl | exact dq2 hd rfl | exact dq3 hd rfl | omega) hI (in_w 1 5 (in_c 5 rfl) rfl)) (fun e u h => h) (fun v u h => ?_)
          obtain ⟨s50, hI50, hF50, n50, rfl, rfl⟩ := h
          obtain ⟨z50a, e50⟩ : ∃ w, w = s50.2.2.1 109 23 := ⟨_, rfl⟩
          have i50a := inv_F hI50 0 9 rfl e50
          rw [← (show z50a = s50.2.2.1 109 23 from e50)] at n50
          show GG _ _ _ _ _ _ _ _ [] _ _ _
          refine g_aload_n 54 (gd rfl) rfl rfl ?_
          refine g_iconst 1 55 (gd rfl) rfl rfl ?_
          refine g_iload_n 56 (gd rfl) rfl rfl ?_
          have v56 : u_109_109 = s50.2.2.1 109 109 := fr_F (e_109_109) hF50 rfl
          have n56 : (u_109_109).toInt ≤ 399 := by have a0 := oa7 i36x1 ro_109_29 i29 ((inv_F hI 0 200 rfl e_109_111)) ((inv_F hI 0 400 rfl e_109_109)) ((in_c (-1) rfl)) i50a; omega
          refine g_callv (X := _) (As := [.int (Int32.ofInt 1), .int (Int32.ofInt (-1))]) (r := []) (b := A 109) (q := 109) 59 (gd rfl) rfl rfl rfl rfl rfl (ww_o rfl) (Nat.le_of_ble_eq_true rfl) (Nat.zero_le _) (Nat.zero_le _) (k_393 (by first | exact dq1 hd rfl | exact dq0 hd rfl | exact dq2 hd rfl | exact dq3 hd rfl | omega) hI50 v56 n56) (fun e u h => h) (fun v u h => ?_)
          obtain ⟨s56, hI56, hF56, n56a, rfl, rfl, p56, p56a⟩ := h
          obtain ⟨z56a, e56⟩ : ∃ w, w = s56.2.2.1 109 109 := ⟨_, rfl⟩
          have i56a := inv_F hI56 0 400 rfl e56
          rw [← (show u_109_109 = s50.2.2.1 109 109 from fr_F (e_109_109) hF50 rfl)] at n56a
          rw [← (show z56a = s56.2.2.1 109 109 from e56)] at n56a
          show GG _ _ _ _ _ _ _ _ [] _ _ _
          refine g_aload_n 60 (gd rfl) rfl rfl ?_
          have v60 : u_109_111 = s56.2.2.1 109 111 := fr_F (fr_F (e_109_111) hF50 rfl) hF56 rfl
          have n60 : (z56a).toInt + (u_109_111).toInt ≤ 120 := by have a0 := oa8 i36x1 ro_109_29 i29 ((inv_F hI 0 200 rfl e_109_111)) ((inv_F hI 0 400 rfl e_109_109)) ((in_c (-1) rfl)) i56a i50a; omega
          refine g_callv (X := _) (As := []) (r := []) (b := A 109) (q := 109) 63 (gd rfl) rfl rfl rfl rfl rfl (ww_o rfl) (Nat.le_of_ble_eq_true rfl) (Nat.zero_le _) (Nat.zero_le _) (k_400 (by first | exact dq1 hd rfl | exact dq0 hd rfl | exact dq2 hd rfl | exact dq3 hd rfl | omega) hI56 e56 v60 n60) (fun e u h => h) (fun v u h => ?_)
          obtain ⟨s60, hI60, hF60, n60a, rfl, rfl, p60⟩ := h
          obtain ⟨z60a, e60⟩ : ∃ w, w = s60.2.2.1 109 109 := ⟨_, rfl⟩
          have i60a := inv_F hI60 0 400 rfl e60
          obtain ⟨z60b, e60a⟩ : ∃ w, w = s60.2.2.1 109 111 := ⟨_, rfl⟩
          have i60b := inv_F hI60 0 200 rfl e60a
          rw [← (show z56a = s56.2.2.1 109 109 from e56)] at n60a
          rw [← (show u_109_111 = s56.2.2.1 109 111 from fr_F (fr_F (e_109_111) hF50 rfl) hF56 rfl)] at n60a
          rw [← (show z60a = s60.2.2.1 109 109 from e60)] at n60a
          rw [← (show z60b = s60.2.2.1 109 111 from e60a)] at n60a
          show GG _ _ _ _ _ _ _ _ [] _ _ _
          refine g_iconst 1 64 (gd rfl) rfl rfl ?_
          have n64 : ((Int32.ofInt 1)).toInt = 0 → PR s s60 0 0 := by exact fun h => absurd h (by decide)
          have n64a : ((Int32.ofInt 1)).toInt ≠ 0 → PR s s60 0 1 := by intro hR; first | (exact absurd rfl hR) | exact pr_tr (pr_val p15 p15a rfl (inv_F hI 0 400 rfl rfl).1 (by rw [← e15, ← e_109_109]; exact n15a) (hF15.2.2.1 109 23 rfl) (hF15.1 190 rfl) (hF15.2.2.1 109 111 rfl) (fun _ => Or.inl rfl)) p19 | exact pr_tr (pr_val p56 p56a rfl (inv_F hI 0 400 rfl rfl).1 (by rw [← e56, ← e_109_109]; exact n56a) (hF56.2.2.1 109 23 rfl) (hF56.1 190 rfl) (hF56.2.2.1 109 111 rfl) (fun _ => Or.inr ⟨rfl, by decide, by decide⟩)) p60 | exact pr_tr (pr_tr (b := 0) (pr_flt (hF50.1 187 rfl) (hF50.1 188 rfl) (hF50.2.2.1 109 109 rfl) (by rw [← e50]; omega)) (pr_val p56 p56a rfl (inv_F hI50 0 400 rfl rfl).1 (by rw [← e56, ← (show u_109_109 = s50.2.2.1 109 109 from fr_F e_109_109 hF50 rfl)]; exact n56a) (hF56.2.2.1 109 23 rfl) (hF56.1 190 rfl) (hF56.2.2.1 109 111 rfl) (fun h => absurd h (by rw [← e50]; omega)))) p60
          have n64b : (z60a).toInt + (z60b).toInt ≤ (u_109_109).toInt + (u_109_111).toInt + 1 := by have a0 := oa9 i36x1 ro_109_29 i29 ((inv_F hI 0 200 rfl e_109_111)) ((inv_F hI 0 400 rfl e_109_109)) ((in_c (-1) rfl)) i60b i60a i50a; omega
          have n64c : (s60.2.2.1 109 109).toInt + (s60.2.2.1 109 111).toInt ≤ (s.2.2.1 109 109).toInt + (s.2.2.1 109 111).toInt + 1 := by have b0 : z60a = s60.2.2.1 109 109 := e60; have b1 : z60b = s60.2.2.1 109 111 := e60a; first | (rw [← b0, ← b1, ← e_109_109, ← e_109_111]; exact n64b) | (rw [← b0, ← b1]; exact n64b)
          have n64d : (u_109_28).toInt = 0 → (z60a).toInt + (z60b).toInt = (u_109_109).toInt + (u_109_111).toInt := by have a0 := oa9 i36x1 ro_109_29 i29 ((inv_F hI 0 200 rfl e_109_111)) ((inv_F hI 0 400 rfl e_109_109)) ((in_c (-1) rfl)) i60b i60a i50a; omega
          have n64e : (s.2.2.1 109 28).toInt = 0 → (s60.2.2.1 109 109).toInt + (s60.2.2.1 109 111).toInt = (s.2.2.1 109 109).toInt + (s.2.2.1 109 111).toInt := by have b0 : z60a = s60.2.2.1 109 109 := e60; have b1 : z60b = s60.2.2.1 109 111 := e60a; first | (rw [← b0, ← b1, ← e_109_28, ← e_109_109, ← e_109_111]; exact n64d) | (rw [← b0, ← b1]; exact n64d)
          have n64f : (u_109_28).toInt = 0 → 1 ≤ (z50a).toInt := by have a0 := oa9 i36x1 ro_109_29 i29 ((inv_F hI 0 200 rfl e_109_111)) ((inv_F hI 0 400 rfl e_109_109)) ((in_c (-1) rfl)) i60b i60a i50a; omega
          have n64g : (s.2.2.1 109 28).toInt = 0 → 1 ≤ (s60.2.2.1 109 23).toInt := by have b0 : z50a = s60.2.2.1 109 23 := fr_F (fr_F (e50) hF56 rfl) hF60 rfl; rw [← b0, ← e_109_28]; exact n64f
          exact g_ireturn (gd rfl) rfl (nb01 (in_w 0 1 (in_c 1 rfl) rfl)) (hP _ _ ⟨s60, hI60, (fr_tr rfl (fr_tr rfl (fr_tr rfl fr_rf hF50) hF56) hF60), n64c, n64e, n64g, (Int32.ofInt 1), rfl, rfl, in_w 0 1 (in_c 1 rfl) rfl, n64, n64a⟩)
      · skip
        have i36x1 := sw_eq c36x1
        refine g_iconst (-1) 122 (gd rfl) rfl rfl ?_
        refine g_ireturn (gd rfl) rfl rfl (hp36 _ _ ?_)
        show GG _ _ _ _ _ _ _ _ [.int (Int32.ofInt (-1))] _ _ _
        refine g_istore_n 40 (gd rfl) rfl (Nat.le_of_ble_eq_true rfl) ?_
        refine g_iload_n 41 (gd rfl) rfl rfl ?_
        refine g_if_ge 44 53 (gd rfl) rfl rfl (fun c41 => ?_) (fun c41 => ?_)
        · skip
          exact zn_ge c41 (in_c (-1) rfl) rfl
        · skip
          refine g_aload_n 45 (gd rfl) rfl rfl ?_
          refine g_iconst 5 46 (gd rfl) rfl rfl ?_
          refine g_aload_n 47 (gd rfl) rfl rfl ?_
          refine g_getI 50 (gd rfl) rfl rfl rfl (fun z47 e47 => ?_)
          have q47 : u_109_29 = z47 := (e_109_29).trans e47.symm
          subst q47
          refine g_callv (X := _) (As := [.int (Int32.ofInt 5), .int u_109_29]) (r := []) (b := A 109) (q := 109) 53 (gd rfl) rfl rfl rfl rfl rfl (ww_o rfl) (Nat.le_of_ble_eq_true rfl) (Nat.zero_le _) (Nat.zero_le _) (k_298 (by first | exact dq1 hd rfl | exact dq0 hd rfl | exact dq2 hd rfl | exact dq3 hd rfl | omega) hI (in_w 1 5 (in_c 5 rfl) rfl)) (fun e u h => h) (fun v u h => ?_)
          obtain ⟨s50, hI50, hF50, n50, rfl, rfl⟩ := h
          obtain ⟨z50a, e50⟩ : ∃ w, w = s50.2.2.1 109 23 := ⟨_, rfl⟩
          have i50a := inv_F hI50 0 9 rfl e50
          rw [← (show z50a = s50.2.2.1 109 23 from e50)] at n50
          show GG _ _ _ _ _ _ _ _ [] _ _ _
          refine g_aload_n 54 (gd rfl) rfl rfl ?_
          refine g_iconst 1 55 (gd rfl) rfl rfl ?_
          refine g_iload_n 56 (gd rfl) rfl rfl ?_
          have v56 : u_109_109 = s50.2.2.1 109 109 := fr_F (e_109_109) hF50 rfl
          have n56 : (u_109_109).toInt ≤ 399 := by have a0 := oa7 i36x1 ro_109_29 i29 ((inv_F hI 0 200 rfl e_109_111)) ((inv_F hI 0 400 rfl e_109_109)) ((in_c (-1) rfl)) i50a; omega
          refine g_callv (X := _) (As := [.int (Int32.ofInt 1), .int (Int32.ofInt (-1))]) (r := []) (b := A 109) (q := 109) 59 (gd rfl) rfl rfl rfl rfl rfl (ww_o rfl) (Nat.le_of_ble_eq_true rfl) (Nat.zero_le _) (Nat.zero_le _) (k_393 (by first | exact dq1 hd rfl | exact dq0 hd rfl | exact dq2 hd rfl | exact dq3 hd rfl | omega) hI50 v56 n56) (fun e u h => h) (fun v u h => ?_)
          obtain ⟨s56, hI56, hF56, n56a, rfl, rfl, p56, p56a⟩ := h
          obtain ⟨z56a, e56⟩ : ∃ w, w = s56.2.2.1 109 109 := ⟨_, rfl⟩
          have i56a := inv_F hI56 0 400 rfl e56
          rw [← (show u_109_109 = s50.2.2.1 109 109 from fr_F (e_109_109) hF50 rfl)] at n56a
          rw [← (show z56a = s56.2.2.1 109 109 from e56)] at n56a
          show GG _ _ _ _ _ _ _ _ [] _ _ _
          refine g_aload_n 60 (gd rfl) rfl rfl ?_
          have v60 : u_109_111 = s56.2.2.1 109 111 := fr_F (fr_F (e_109_111) hF50 rfl) hF56 rfl
          have n60 : (z56a).toInt + (u_109_111).toInt ≤ 120 := by have a0 := oa8 i36x1 ro_109_29 i29 ((inv_F hI 0 200 rfl e_109_111)) ((inv_F hI 0 400 rfl e_109_109)) ((in_c (-1) rfl)) i56a i50a; omega
          refine g_callv (X := _) (As := []) (r := []) (b := A 109) (q := 109) 63 (gd rfl) rfl rfl rfl rfl rfl (ww_o rfl) (Nat.le_of_ble_eq_true rfl) (Nat.zero_le _) (Nat.zero_le _) (k_400 (by first | exact dq1 hd rfl | exact dq0 hd rfl | exact dq2 hd rfl | exact dq3 hd rfl | omega) hI56 e56 v60 n60) (fun e u h => h) (fun v u h => ?_)
          obtain ⟨s60, hI60, hF60, n60a, rfl, rfl, p60⟩ := h
          obtain ⟨z60a, e60⟩ : ∃ w, w = s60.2.2.1 109 109 := ⟨_, rfl⟩
          have i60a := inv_F hI60 0 400 rfl e60
          obtain ⟨z60b, e60a⟩ : ∃ w, w = s60.2.2.1 109 111 := ⟨_, rfl⟩
          have i60b := inv_F hI60 0 200 rfl e60a
          rw [← (show z56a = s56.2.2.1 109 109 from e56)] at n60a
          rw [← (show u_109_111 = s56.2.2.1 109 111 from fr_F (fr_F (e_109_111) hF50 rfl) hF56 rfl)] at n60a
          rw [← (show z60a = s60.2.2.1 109 109 from e60)] at n60a
          rw [← (show z60b = s60.2.2.1 109 111 from e60a)] at n60a
          show GG _ _ _ _ _ _ _ _ [] _ _ _
          refine g_iconst 1 64 (gd rfl) rfl rfl ?_
          have n64 : ((Int32.ofInt 1)).toInt = 0 → PR s s60 0 0 := by exact fun h => absurd h (by decide)
          have n64a : ((Int32.ofInt 1)).toInt ≠ 0 → PR s s60 0 1 := by intro hR; first | (exact absurd rfl hR) | exact pr_tr (pr_val p15 p15a rfl (inv_F hI 0 400 rfl rfl).1 (by rw [← e15, ← e_109_109]; exact n15a) (hF15.2.2.1 109 23 rfl) (hF15.1 190 rfl) (hF15.2.2.1 109 111 rfl) (fun _ => Or.inl rfl)) p19 | exact pr_tr (pr_val p56 p56a rfl (inv_F hI 0 400 rfl rfl).1 (by rw [← e56, ← e_109_109]; exact n56a) (hF56.2.2.1 109 23 rfl) (hF56.1 190 rfl) (hF56.2.2.1 109 111 rfl) (fun _ => Or.inr ⟨rfl, by decide, by decide⟩)) p60 | exact pr_tr (pr_tr (b := 0) (pr_flt (hF50.1 187 rfl) (hF50.1 188 rfl) (hF50.2.2.1 109 109 rfl) (by rw [← e50]; omega)) (pr_val p56 p56a rfl (inv_F hI50 0 400 rfl rfl).1 (by rw [← e56, ← (show u_109_109 = s50.2.2.1 109 109 from fr_F e_109_109 hF50 rfl)]; exact n56a) (hF56.2.2.1 109 23 rfl) (hF56.1 190 rfl) (hF56.2.2.1 109 111 rfl) (fun h => absurd h (by rw [← e50]; omega)))) p60
          have n64b : (z60a).toInt + (z60b).toInt ≤ (u_109_109).toInt + (u_109_111).toInt + 1 := by have a0 := oa9 i36x1 ro_109_29 i29 ((inv_F hI 0 200 rfl e_109_111)) ((inv_F hI 0 400 rfl e_109_109)) ((in_c (-1) rfl)) i60b i60a i50a; omega
          have n64c : (s60.2.2.1 109 109).toInt + (s60.2.2.1 109 111).toInt ≤ (s.2.2.1 109 109).toInt + (s.2.2.1 109 111).toInt + 1 := by have b0 : z60a = s60.2.2.1 109 109 := e60; have b1 : z60b = s60.2.2.1 109 111 := e60a; first | (rw [← b0, ← b1, ← e_109_109, ← e_109_111]; exact n64b) | (rw [← b0, ← b1]; exact n64b)
          have n64d : (u_109_28).toInt = 0 → (z60a).toInt + (z60b).toInt = (u_109_109).toInt + (u_109_111).toInt := by have a0 := oa9 i36x1 ro_109_29 i29 ((inv_F hI 0 200 rfl e_109_111)) ((inv_F hI 0 400 rfl e_109_109)) ((in_c (-1) rfl)) i60b i60a i50a; omega
          have n64e : (s.2.2.1 109 28).toInt = 0 → (s60.2.2.1 109 109).toInt + (s60.2.2.1 109 111).toInt = (s.2.2.1 109 109).toInt + (s.2.2.1 109 111).toInt := by have b0 : z60a = s60.2.2.1 109 109 := e60; have b1 : z60b = s60.2.2.1 109 111 := e60a; first | (rw [← b0, ← b1, ← e_109_28, ← e_109_109, ← e_109_111]; exact n64d) | (rw [← b0, ← b1]; exact n64d)
          have n64f : (u_109_28).toInt = 0 → 1 ≤ (z50a).toInt := by have a0 := oa9 i36x1 ro_109_29 i29 ((inv_F hI 0 200 rfl e_109_111)) ((inv_F hI 0 400 rfl e_109_109)) ((in_c (-1) rfl)) i60b i60a i50a; omega
          have n64g : (s.2.2.1 109 28).toInt = 0 → 1 ≤ (s60.2.2.1 109 23).toInt := by have b0 : z50a = s60.2.2.1 109 23 := fr_F (fr_F (e50) hF56 rfl) hF60 rfl; rw [← b0, ← e_109_28]; exact n64f
          exact g_ireturn (gd rfl) rfl (nb01 (in_w 0 1 (in_c 1 rfl) rfl)) (hP _ _ ⟨s60, hI60, (fr_tr rfl (fr_tr rfl (fr_tr rfl fr_rf hF50) hF56) hF60), n64c, n64e, n64g, (Int32.ofInt 1), rfl, rfl, in_w 0 1 (in_c 1 rfl) rfl, n64, n64a⟩)
      · skip
        have i36x1 := sw_eq c36x1
        refine g_bipush 8 120 (gd rfl) rfl rfl ?_
        refine g_ireturn (gd rfl) rfl rfl (hp36 _ _ ?_)
        show GG _ _ _ _ _ _ _ _ [.int (Int32.ofInt 8)] _ _ _
        refine g_istore_n 40 (gd rfl) rfl (Nat.le_of_ble_eq_true rfl) ?_
        refine g_iload_n 41 (gd rfl) rfl rfl ?_
        refine g_if_ge 44 53 (gd rfl) rfl rfl (fun c41 => ?_) (fun c41 => ?_)
        · skip
          refine g_aload_n 54 (gd rfl) rfl rfl ?_
          refine g_iconst 1 55 (gd rfl) rfl rfl ?_
          refine g_iload_n 56 (gd rfl) rfl rfl ?_
          have n56 : (u_109_109).toInt ≤ 399 := by have a0 := oa6 i36x1 ro_109_29 i29 ((inv_F hI 0 200 rfl e_109_111)) ((inv_F hI 0 400 rfl e_109_109)) ((in_c 8 rfl)); omega
          refine g_callv (X := _) (As := [.int (Int32.ofInt 1), .int (Int32.ofInt 8)]) (r := []) (b := A 109) (q := 109) 59 (gd rfl) rfl rfl rfl rfl rfl (ww_o rfl) (Nat.le_of_ble_eq_true rfl) (Nat.zero_le _) (Nat.zero_le _) (k_393 (by first | exact dq1 hd rfl | exact dq0 hd rfl | exact dq2 hd rfl | exact dq3 hd rfl | omega) hI e_109_109 n56) (fun e u h => h) (fun v u h => ?_)
          obtain ⟨s56, hI56, hF56, n56a, rfl, rfl, p56, p56a⟩ := h
          obtain ⟨z56a, e56⟩ : ∃ w, w = s56.2.2.1 109 109 := ⟨_, rfl⟩
          have i56a := inv_F hI56 0 400 rfl e56
          rw [← (show u_109_109 = s.2.2.1 109 109 from e_109_109)] at n56a
          rw [← (show z56a = s56.2.2.1 109 109 from e56)] at n56a
          show GG _ _ _ _ _ _ _ _ [] _ _ _
          refine g_aload_n 60 (gd rfl) rfl rfl ?_
          have v60 : u_109_111 = s56.2.2.1 109 111 := fr_F (e_109_111) hF56 rfl
          have n60 : (z56a).toInt + (u_109_111).toInt ≤ 120 := by have a0 := oa7 i36x1 ro_109_29 i29 ((inv_F hI 0 200 rfl e_109_111)) ((inv_F hI 0 400 rfl e_109_109)) ((in_c 8 rfl)) i56a; omega
          refine g_callv (X := _) (As := []) (r := []) (b := A 109) (q := 109) 63 (gd rfl) rfl rfl rfl rfl rfl (ww_o rfl) (Nat.le_of_ble_eq_true rfl) (Nat.zero_le _) (Nat.zero_le _) (k_400 (by first | exact dq1 hd rfl | exact dq0 hd rfl | exact dq2 hd rfl | exact dq3 hd rfl | omega) hI56 e56 v60 n60) (fun e u h => h) (fun v u h => ?_)
          obtain ⟨s60, hI60, hF60, n60a, rfl, rfl, p60⟩ := h
          obtain ⟨z60a, e60⟩ : ∃ w, w = s60.2.2.1 109 109 := ⟨_, rfl⟩
          have i60a := inv_F hI60 0 400 rfl e60
          obtain ⟨z60b, e60a⟩ : ∃ w, w = s60.2.2.1 109 111 := ⟨_, rfl⟩
          have i60b := inv_F hI60 0 200 rfl e60a
          rw [← (show z56a = s56.2.2.1 109 109 from e56)] at n60a
          rw [← (show u_109_111 = s56.2.2.1 109 111 from fr_F (e_109_111) hF56 rfl)] at n60a
          rw [← (show z60a = s60.2.2.1 109 109 from e60)] at n60a
          rw [← (show z60b = s60.2.2.1 109 111 from e60a)] at n60a
          show GG _ _ _ _ _ _ _ _ [] _ _ _
          refine g_iconst 1 64 (gd rfl) rfl rfl ?_
          have n64 : ((Int32.ofInt 1)).toInt = 0 → PR s s60 0 0 := by exact fun h => absurd h (by decide)
          have n64a : ((Int32.ofInt 1)).toInt ≠ 0 → PR s s60 0 1 := by intro hR; first | (exact absurd rfl hR) | exact pr_tr (pr_val p15 p15a rfl (inv_F hI 0 400 rfl rfl).1 (by rw [← e15, ← e_109_109]; exact n15a) (hF15.2.2.1 109 23 rfl) (hF15.1 190 rfl) (hF15.2.2.1 109 111 rfl) (fun _ => Or.inl rfl)) p19 | exact pr_tr (pr_val p56 p56a rfl (inv_F hI 0 400 rfl rfl).1 (by rw [← e56, ← e_109_109]; exact n56a) (hF56.2.2.1 109 23 rfl) (hF56.1 190 rfl) (hF56.2.2.1 109 111 rfl) (fun _ => Or.inr ⟨rfl, by decide, by decide⟩)) p60 | exact pr_tr (pr_tr (b := 0) (pr_flt (hF50.1 187 rfl) (hF50.1 188 rfl) (hF50.2.2.1 109 109 rfl) (by rw [← e50]; omega)) (pr_val p56 p56a rfl (inv_F hI50 0 400 rfl rfl).1 (by rw [← e56, ← (show u_109_109 = s50.2.2.1 109 109 from fr_F e_109_109 hF50 rfl)]; exact n56a) (hF56.2.2.1 109 23 rfl) (hF56.1 190 rfl) (hF56.2.2.1 109 111 rfl) (fun h => absurd h (by rw [← e50]; omega)))) p60
          have n64b : (z60a).toInt + (z60b).toInt ≤ (u_109_109).toInt + (u_109_111).toInt + 1 := by have a0 := oa8 i36x1 ro_109_29 i29 ((inv_F hI 0 200 rfl e_109_111)) ((inv_F hI 0 400 rfl e_109_109)) ((in_c 8 rfl)) i60b i60a; omega
          have n64c : (s60.2.2.1 109 109).toInt + (s60.2.2.1 109 111).toInt ≤ (s.2.2.1 109 109).toInt + (s.2.2.1 109 111).toInt + 1 := by have b0 : z60a = s60.2.2.1 109 109 := e60; have b1 : z60b = s60.2.2.1 109 111 := e60a; first | (rw [← b0, ← b1, ← e_109_109, ← e_109_111]; exact n64b) | (rw [← b0, ← b1]; exact n64b)
          have n64d : (u_109_28).toInt = 0 → (z60a).toInt + (z60b).toInt = (u_109_109).toInt + (u_109_111).toInt := by have a0 := oa8 i36x1 ro_109_29 i29 ((inv_F hI 0 200 rfl e_109_111)) ((inv_F hI 0 400 rfl e_109_109)) ((in_c 8 rfl)) i60b i60a; omega
          have n64e : (s.2.2.1 109 28).toInt = 0 → (s60.2.2.1 109 109).toInt + (s60.2.2.1 109 111).toInt = (s.2.2.1 109 109).toInt + (s.2.2.1 109 111).toInt := by have b0 : z60a = s60.2.2.1 109 109 := e60; have b1 : z60b = s60.2.2.1 109 111 := e60a; first | (rw [← b0, ← b1, ← e_109_28, ← e_109_109, ← e_109_111]; exact n64d) | (rw [← b0, ← b1]; exact n64d)
          have n64f : (u_109_28).toInt = 0 → 1 ≤ ((s60.2.2.1 109 23)).toInt := by have a0 := oa9 i36x1 ro_109_29 i29 ((inv_F hI 0 200 rfl e_109_111)) ((inv_F hI 0 400 rfl e_109_109)) ((in_c 8 rfl)) i60b i60a ((show In (s60.2.2.1 109 23) 0 9 from inv_F hI60 0 9 rfl rfl)); omega
          have n64g : (s.2.2.1 109 28).toInt = 0 → 1 ≤ (s60.2.2.1 109 23).toInt := by rw [← e_109_28]; exact n64f
          exact g_ireturn (gd rfl) rfl (nb01 (in_w 0 1 (in_c 1 rfl) rfl)) (hP _ _ ⟨s60, hI60, (fr_tr rfl (fr_tr rfl fr_rf hF56) hF60), n64c, n64e, n64g, (Int32.ofInt 1), rfl, rfl, in_w 0 1 (in_c 1 rfl) rfl, n64, n64a⟩)
        · skip
          exact zn_lt c41 (in_c 8 rfl) rfl
      · skip
        have i36x1 := sw_eq c36x1
        refine g_iconst (-1) 122 (gd rfl) rfl rfl ?_
        refine g_ireturn (gd rfl) rfl rfl (hp36 _ _ ?_)
        show GG _ _ _ _ _ _ _ _ [.int (Int32.ofInt (-1))] _ _ _
        refine g_istore_n 40 (gd rfl) rfl (Nat.le_of_ble_eq_true rfl) ?_
        refine g_iload_n 41 (gd rfl) rfl rfl ?_
        refine g_if_ge 44 53 (gd rfl) rfl rfl (fun c41 => ?_) (fun c41 => ?_)
        · skip
          exact zn_ge c41 (in_c (-1) rfl) rfl
        · skip
          refine g_aload_n 45 (gd rfl) rfl rfl ?_
          refine g_iconst 5 46 (gd rfl) rfl rfl ?_
          refine g_aload_n 47 (gd rfl) rfl rfl ?_
          refine g_getI 50 (gd rfl) rfl rfl rfl (fun z47 e47 => ?_)
          have q47 : u_109_29 = z47 := (e_109_29).trans e47.symm
          subst q47
          refine g_callv (X := _) (As := [.int (Int32.ofInt 5), .int u_109_29]) (r := []) (b := A 109) (q := 109) 53 (gd rfl) rfl rfl rfl rfl rfl (ww_o rfl) (Nat.le_of_ble_eq_true rfl) (Nat.zero_le _) (Nat.zero_le _) (k_298 (by first | exact dq1 hd rfl | exact dq0 hd rfl | exact dq2 hd rfl | exact dq3 hd rfl | omega) hI (in_w 1 5 (in_c 5 rfl) rfl)) (fun e u h => h) (fun v u h => ?_)
          obtain ⟨s50, hI50, hF50, n50, rfl, rfl⟩ := h
          obtain ⟨z50a, e50⟩ : ∃ w, w = s50.2.2.1 109 23 := ⟨_, rfl⟩
          have i50a := inv_F hI50 0 9 rfl e50
          rw [← (show z50a = s50.2.2.1 109 23 from e50)] at n50
          show GG _ _ _ _ _ _ _ _ [] _ _ _
          refine g_aload_n 54 (gd rfl) rfl rfl ?_
          refine g_iconst 1 55 (gd rfl) rfl rfl ?_
          refine g_iload_n 56 (gd rfl) rfl rfl ?_
          have v56 : u_109_109 = s50.2.2.1 109 109 := fr_F (e_109_109) hF50 rfl
          have n56 : (u_109_109).toInt ≤ 399 := by have a0 := oa7 i36x1 ro_109_29 i29 ((inv_F hI 0 200 rfl e_109_111)) ((inv_F hI 0 400 rfl e_109_109)) ((in_c (-1) rfl)) i50a; omega
          refine g_callv (X := _) (As := [.int (Int32.ofInt 1), .int (Int32.ofInt (-1))]) (r := []) (b := A 109) (q := 109) 59 (gd rfl) rfl rfl rfl rfl rfl (ww_o rfl) (Nat.le_of_ble_eq_true rfl) (Nat.zero_le _) (Nat.zero_le _) (k_393 (by first | exact dq1 hd rfl | exact dq0 hd rfl | exact dq2 hd rfl | exact dq3 hd rfl | omega) hI50 v56 n56) (fun e u h => h) (fun v u h => ?_)
          obtain ⟨s56, hI56, hF56, n56a, rfl, rfl, p56, p56a⟩ := h
          obtain ⟨z56a, e56⟩ : ∃ w, w = s56.2.2.1 109 109 := ⟨_, rfl⟩
          have i56a := inv_F hI56 0 400 rfl e56
          rw [← (show u_109_109 = s50.2.2.1 109 109 from fr_F (e_109_109) hF50 rfl)] at n56a
          rw [← (show z56a = s56.2.2.1 109 109 from e56)] at n56a
          show GG _ _ _ _ _ _ _ _ [] _ _ _
          refine g_aload_n 60 (gd rfl) rfl rfl ?_
          have v60 : u_109_111 = s56.2.2.1 109 111 := fr_F (fr_F (e_109_111) hF50 rfl) hF56 rfl
          have n60 : (z56a).toInt + (u_109_111).toInt ≤ 120 := by have a0 := oa8 i36x1 ro_109_29 i29 ((inv_F hI 0 200 rfl e_109_111)) ((inv_F hI 0 400 rfl e_109_109)) ((in_c (-1) rfl)) i56a i50a; omega
          refine g_callv (X := _) (As := []) (r := []) (b := A 109) (q := 109) 63 (gd rfl) rfl rfl rfl rfl rfl (ww_o rfl) (Nat.le_of_ble_eq_true rfl) (Nat.zero_le _) (Nat.zero_le _) (k_400 (by first | exact dq1 hd rfl | exact dq0 hd rfl | exact dq2 hd rfl | exact dq3 hd rfl | omega) hI56 e56 v60 n60) (fun e u h => h) (fun v u h => ?_)
          obtain ⟨s60, hI60, hF60, n60a, rfl, rfl, p60⟩ := h
          obtain ⟨z60a, e60⟩ : ∃ w, w = s60.2.2.1 109 109 := ⟨_, rfl⟩
          have i60a := inv_F hI60 0 400 rfl e60
          obtain ⟨z60b, e60a⟩ : ∃ w, w = s60.2.2.1 109 111 := ⟨_, rfl⟩
          have i60b := inv_F hI60 0 200 rfl e60a
          rw [← (show z56a = s56.2.2.1 109 109 from e56)] at n60a
          rw [← (show u_109_111 = s56.2.2.1 109 111 from fr_F (fr_F (e_109_111) hF50 rfl) hF56 rfl)] at n60a
          rw [← (show z60a = s60.2.2.1 109 109 from e60)] at n60a
          rw [← (show z60b = s60.2.2.1 109 111 from e60a)] at n60a
          show GG _ _ _ _ _ _ _ _ [] _ _ _
          refine g_iconst 1 64 (gd rfl) rfl rfl ?_
          have n64 : ((Int32.ofInt 1)).toInt = 0 → PR s s60 0 0 := by exact fun h => absurd h (by decide)
          have n64a : ((Int32.ofInt 1)).toInt ≠ 0 → PR s s60 0 1 := by intro hR; first | (exact absurd rfl hR) | exact pr_tr (pr_val p15 p15a rfl (inv_F hI 0 400 rfl rfl).1 (by rw [← e15, ← e_109_109]; exact n15a) (hF15.2.2.1 109 23 rfl) (hF15.1 190 rfl) (hF15.2.2.1 109 111 rfl) (fun _ => Or.inl rfl)) p19 | exact pr_tr (pr_val p56 p56a rfl (inv_F hI 0 400 rfl rfl).1 (by rw [← e56, ← e_109_109]; exact n56a) (hF56.2.2.1 109 23 rfl) (hF56.1 190 rfl) (hF56.2.2.1 109 111 rfl) (fun _ => Or.inr ⟨rfl, by decide, by decide⟩)) p60 | exact pr_tr (pr_tr (b := 0) (pr_flt (hF50.1 187 rfl) (hF50.1 188 rfl) (hF50.2.2.1 109 109 rfl) (by rw [← e50]; omega)) (pr_val p56 p56a rfl (inv_F hI50 0 400 rfl rfl).1 (by rw [← e56, ← (show u_109_109 = s50.2.2.1 109 109 from fr_F e_109_109 hF50 rfl)]; exact n56a) (hF56.2.2.1 109 23 rfl) (hF56.1 190 rfl) (hF56.2.2.1 109 111 rfl) (fun h => absurd h (by rw [← e50]; omega)))) p60
          have n64b : (z60a).toInt + (z60b).toInt ≤ (u_109_109).toInt + (u_109_111).toInt + 1 := by have a0 := oa9 i36x1 ro_109_29 i29 ((inv_F hI 0 200 rfl e_109_111)) ((inv_F hI 0 400 rfl e_109_109)) ((in_c (-1) rfl)) i60b i60a i50a; omega
          have n64c : (s60.2.2.1 109 109).toInt + (s60.2.2.1 109 111).toInt ≤ (s.2.2.1 109 109).toInt + (s.2.2.1 109 111).toInt + 1 := by have b0 : z60a = s60.2.2.1 109 109 := e60; have b1 : z60b = s60.2.2.1 109 111 := e60a; first | (rw [← b0, ← b1, ← e_109_109, ← e_109_111]; exact n64b) | (rw [← b0, ← b1]; exact n64b)
          have n64d : (u_109_28).toInt = 0 → (z60a).toInt + (z60b).toInt = (u_109_109).toInt + (u_109_111).toInt := by have a0 := oa9 i36x1 ro_109_29 i29 ((inv_F hI 0 200 rfl e_109_111)) ((inv_F hI 0 400 rfl e_109_109)) ((in_c (-1) rfl)) i60b i60a i50a; omega
          have n64e : (s.2.2.1 109 28).toInt = 0 → (s60.2.2.1 109 109).toInt + (s60.2.2.1 109 111).toInt = (s.2.2.1 109 109).toInt + (s.2.2.1 109 111).toInt := by have b0 : z60a = s60.2.2.1 109 109 := e60; have b1 : z60b = s60.2.2.1 109 111 := e60a; first | (rw [← b0, ← b1, ← e_109_28, ← e_109_109, ← e_109_111]; exact n64d) | (rw [← b0, ← b1]; exact n64d)
          have n64f : (u_109_28).toInt = 0 → 1 ≤ (z50a).toInt := by have a0 := oa9 i36x1 ro_109_29 i29 ((inv_F hI 0 200 rfl e_109_111)) ((inv_F hI 0 400 rfl e_109_109)) ((in_c (-1) rfl)) i60b i60a i50a; omega
          have n64g : (s.2.2.1 109 28).toInt = 0 → 1 ≤ (s60.2.2.1 109 23).toInt := by have b0 : z50a = s60.2.2.1 109 23 := fr_F (fr_F (e50) hF56 rfl) hF60 rfl; rw [← b0, ← e_109_28]; exact n64f
          exact g_ireturn (gd rfl) rfl (nb01 (in_w 0 1 (in_c 1 rfl) rfl)) (hP _ _ ⟨s60, hI60, (fr_tr rfl (fr_tr rfl (fr_tr rfl fr_rf hF50) hF56) hF60), n64c, n64e, n64g, (Int32.ofInt 1), rfl, rfl, in_w 0 1 (in_c 1 rfl) rfl, n64, n64a⟩)
      · skip
        have i36x1 := sw_eq c36x1
        refine g_iconst 4 109 (gd rfl) rfl rfl ?_
        refine g_ireturn (gd rfl) rfl rfl (hp36 _ _ ?_)
        show GG _ _ _ _ _ _ _ _ [.int (Int32.ofInt 4)] _ _ _
        refine g_istore_n 40 (gd rfl) rfl (Nat.le_of_ble_eq_true rfl) ?_
        refine g_iload_n 41 (gd rfl) rfl rfl ?_
        refine g_if_ge 44 53 (gd rfl) rfl rfl (fun c41 => ?_) (fun c41 => ?_)
        · skip
          refine g_aload_n 54 (gd rfl) rfl rfl ?_
          refine g_iconst 1 55 (gd rfl) rfl rfl ?_
          refine g_iload_n 56 (gd rfl) rfl rfl ?_
          have n56 : (u_109_109).toInt ≤ 399 := by have a0 := oa6 i36x1 ro_109_29 i29 ((inv_F hI 0 200 rfl e_109_111)) ((inv_F hI 0 400 rfl e_109_109)) ((in_c 4 rfl)); omega
          refine g_callv (X := _) (As := [.int (Int32.ofInt 1), .int (Int32.ofInt 4)]) (r := []) (b := A 109) (q := 109) 59 (gd rfl) rfl rfl rfl rfl rfl (ww_o rfl) (Nat.le_of_ble_eq_true rfl) (Nat.zero_le _) (Nat.zero_le _) (k_393 (by first | exact dq1 hd rfl | exact dq0 hd rfl | exact dq2 hd rfl | exact dq3 hd rfl | omega) hI e_109_109 n56) (fun e u h => h) (fun v u h => ?_)
          obtain ⟨s56, hI56, hF56, n56a, rfl, rfl, p56, p56a⟩ := h
          obtain ⟨z56a, e56⟩ : ∃ w, w = s56.2.2.1 109 109 := ⟨_, rfl⟩
          have i56a := inv_F hI56 0 400 rfl e56
          rw [← (show u_109_109 = s.2.2.1 109 109 from e_109_109)] at n56a
          rw [← (show z56a = s56.2.2.1 109 109 from e56)] at n56a
          show GG _ _ _ _ _ _ _ _ [] _ _ _
          refine g_aload_n 60 (gd rfl) rfl rfl ?_
          have v60 : u_109_111 = s56.2.2.1 109 111 := fr_F (e_109_111) hF56 rfl
          have n60 : (z56a).toInt + (u_109_111).toInt ≤ 120 := by have a0 := oa7 i36x1 ro_109_29 i29 ((inv_F hI 0 200 rfl e_109_111)) ((inv_F hI 0 400 rfl e_109_109)) ((in_c 4 rfl)) i56a; omega
          refine g_callv (X := _) (As := []) (r := []) (b := A 109) (q := 109) 63 (gd rfl) rfl rfl rfl rfl rfl (ww_o rfl) (Nat.le_of_ble_eq_true rfl) (Nat.zero_le _) (Nat.zero_le _) (k_400 (by first | exact dq1 hd rfl | exact dq0 hd rfl | exact dq2 hd rfl | exact dq3 hd rfl | omega) hI56 e56 v60 n60) (fun e u h => h) (fun v u h => ?_)
          obtain ⟨s60, hI60, hF60, n60a, rfl, rfl, p60⟩ := h
          obtain ⟨z60a, e60⟩ : ∃ w, w = s60.2.2.1 109 109 := ⟨_, rfl⟩
          have i60a := inv_F hI60 0 400 rfl e60
          obtain ⟨z60b, e60a⟩ : ∃ w, w = s60.2.2.1 109 111 := ⟨_, rfl⟩
          have i60b := inv_F hI60 0 200 rfl e60a
          rw [← (show z56a = s56.2.2.1 109 109 from e56)] at n60a
          rw [← (show u_109_111 = s56.2.2.1 109 111 from fr_F (e_109_111) hF56 rfl)] at n60a
          rw [← (show z60a = s60.2.2.1 109 109 from e60)] at n60a
          rw [← (show z60b = s60.2.2.1 109 111 from e60a)] at n60a
          show GG _ _ _ _ _ _ _ _ [] _ _ _
          refine g_iconst 1 64 (gd rfl) rfl rfl ?_
          have n64 : ((Int32.ofInt 1)).toInt = 0 → PR s s60 0 0 := by exact fun h => absurd h (by decide)
          have n64a : ((Int32.ofInt 1)).toInt ≠ 0 → PR s s60 0 1 := by intro hR; first | (exact absurd rfl hR) | exact pr_tr (pr_val p15 p15a rfl (inv_F hI 0 400 rfl rfl).1 (by rw [← e15, ← e_109_109]; exact n15a) (hF15.2.2.1 109 23 rfl) (hF15.1 190 rfl) (hF15.2.2.1 109 111 rfl) (fun _ => Or.inl rfl)) p19 | exact pr_tr (pr_val p56 p56a rfl (inv_F hI 0 400 rfl rfl).1 (by rw [← e56, ← e_109_109]; exact n56a) (hF56.2.2.1 109 23 rfl) (hF56.1 190 rfl) (hF56.2.2.1 109 111 rfl) (fun _ => Or.inr ⟨rfl, by decide, by decide⟩)) p60 | exact pr_tr (pr_tr (b := 0) (pr_flt (hF50.1 187 rfl) (hF50.1 188 rfl) (hF50.2.2.1 109 109 rfl) (by rw [← e50]; omega)) (pr_val p56 p56a rfl (inv_F hI50 0 400 rfl rfl).1 (by rw [← e56, ← (show u_109_109 = s50.2.2.1 109 109 from fr_F e_109_109 hF50 rfl)]; exact n56a) (hF56.2.2.1 109 23 rfl) (hF56.1 190 rfl) (hF56.2.2.1 109 111 rfl) (fun h => absurd h (by rw [← e50]; omega)))) p60
          have n64b : (z60a).toInt + (z60b).toInt ≤ (u_109_109).toInt + (u_109_111).toInt + 1 := by have a0 := oa8 i36x1 ro_109_29 i29 ((inv_F hI 0 200 rfl e_109_111)) ((inv_F hI 0 400 rfl e_109_109)) ((in_c 4 rfl)) i60b i60a; omega
          have n64c : (s60.2.2.1 109 109).toInt + (s60.2.2.1 109 111).toInt ≤ (s.2.2.1 109 109).toInt + (s.2.2.1 109 111).toInt + 1 := by have b0 : z60a = s60.2.2.1 109 109 := e60; have b1 : z60b = s60.2.2.1 109 111 := e60a; first | (rw [← b0, ← b1, ← e_109_109, ← e_109_111]; exact n64b) | (rw [← b0, ← b1]; exact n64b)
          have n64d : (u_109_28).toInt = 0 → (z60a).toInt + (z60b).toInt = (u_109_109).toInt + (u_109_111).toInt := by have a0 := oa8 i36x1 ro_109_29 i29 ((inv_F hI 0 200 rfl e_109_111)) ((inv_F hI 0 400 rfl e_109_109)) ((in_c 4 rfl)) i60b i60a; omega
          have n64e : (s.2.2.1 109 28).toInt = 0 → (s60.2.2.1 109 109).toInt + (s60.2.2.1 109 111).toInt = (s.2.2.1 109 109).toInt + (s.2.2.1 109 111).toInt := by have b0 : z60a = s60.2.2.1 109 109 := e60; have b1 : z60b = s60.2.2.1 109 111 := e60a; first | (rw [← b0, ← b1, ← e_109_28, ← e_109_109, ← e_109_111]; exact n64d) | (rw [← b0, ← b1]; exact n64d)
          have n64f : (u_109_28).toInt = 0 → 1 ≤ ((s60.2.2.1 109 23)).toInt := by have a0 := oa9 i36x1 ro_109_29 i29 ((inv_F hI 0 200 rfl e_109_111)) ((inv_F hI 0 400 rfl e_109_109)) ((in_c 4 rfl)) i60b i60a ((show In (s60.2.2.1 109 23) 0 9 from inv_F hI60 0 9 rfl rfl)); omega
          have n64g : (s.2.2.1 109 28).toInt = 0 → 1 ≤ (s60.2.2.1 109 23).toInt := by rw [← e_109_28]; exact n64f
          exact g_ireturn (gd rfl) rfl (nb01 (in_w 0 1 (in_c 1 rfl) rfl)) (hP _ _ ⟨s60, hI60, (fr_tr rfl (fr_tr rfl fr_rf hF56) hF60), n64c, n64e, n64g, (Int32.ofInt 1), rfl, rfl, in_w 0 1 (in_c 1 rfl) rfl, n64, n64a⟩)
        · skip
          exact zn_lt c41 (in_c 4 rfl) rfl
      · skip
        have i36x1 := sw_eq c36x1
        refine g_iconst (-1) 122 (gd rfl) rfl rfl ?_
        refine g_ireturn (gd rfl) rfl rfl (hp36 _ _ ?_)
        show GG _ _ _ _ _ _ _ _ [.int (Int32.ofInt (-1))] _ _ _
        refine g_istore_n 40 (gd rfl) rfl (Nat.le_of_ble_eq_true rfl) ?_
        refine g_iload_n 41 (gd rfl) rfl rfl ?_
        refine g_if_ge 44 53 (gd rfl) rfl rfl (fun c41 => ?_) (fun c41 => ?_)
        · skip
          exact zn_ge c41 (in_c (-1) rfl) rfl
        · skip
          refine g_aload_n 45 (gd rfl) rfl rfl ?_
          refine g_iconst 5 46 (gd rfl) rfl rfl ?_
          refine g_aload_n 47 (gd rfl) rfl rfl ?_
          refine g_getI 50 (gd rfl) rfl rfl rfl (fun z47 e47 => ?_)
          have q47 : u_109_29 = z47 := (e_109_29).trans e47.symm
          subst q47
          refine g_callv (X := _) (As := [.int (Int32.ofInt 5), .int u_109_29]) (r := []) (b := A 109) (q := 109) 53 (gd rfl) rfl rfl rfl rfl rfl (ww_o rfl) (Nat.le_of_ble_eq_true rfl) (Nat.zero_le _) (Nat.zero_le _) (k_298 (by first | exact dq1 hd rfl | exact dq0 hd rfl | exact dq2 hd rfl | exact dq3 hd rfl | omega) hI (in_w 1 5 (in_c 5 rfl) rfl)) (fun e u h => h) (fun v u h => ?_)
          obtain ⟨s50, hI50, hF50, n50, rfl, rfl⟩ := h
          obtain ⟨z50a, e50⟩ : ∃ w, w = s50.2.2.1 109 23 := ⟨_, rfl⟩
          have i50a := inv_F hI50 0 9 rfl e50
          rw [← (show z50a = s50.2.2.1 109 23 from e50)] at n50
          show GG _ _ _ _ _ _ _ _ [] _ _ _
          refine g_aload_n 54 (gd rfl) rfl rfl ?_
          refine g_iconst 1 55 (gd rfl) rfl rfl ?_
          refine g_iload_n 56 (gd rfl) rfl rfl ?_
          have v56 : u_109_109 = s50.2.2.1 109 109 := fr_F (e_109_109) hF50 rfl
          have n56 : (u_109_109).toInt ≤ 399 := by have a0 := oa7 i36x1 ro_109_29 i29 ((inv_F hI 0 200 rfl e_109_111)) ((inv_F hI 0 400 rfl e_109_109)) ((in_c (-1) rfl)) i50a; omega
          refine g_callv (X := _) (As := [.int (Int32.ofInt 1), .int (Int32.ofInt (-1))]) (r := []) (b := A 109) (q := 109) 59 (gd rfl) rfl rfl rfl rfl rfl (ww_o rfl) (Nat.le_of_ble_eq_true rfl) (Nat.zero_le _) (Nat.zero_le _) (k_393 (by first | exact dq1 hd rfl | exact dq0 hd rfl | exact dq2 hd rfl | exact dq3 hd rfl | omega) hI50 v56 n56) (fun e u h => h) (fun v u h => ?_)
          obtain ⟨s56, hI56, hF56, n56a, rfl, rfl, p56, p56a⟩ := h
          obtain ⟨z56a, e56⟩ : ∃ w, w = s56.2.2.1 109 109 := ⟨_, rfl⟩
          have i56a := inv_F hI56 0 400 rfl e56
          rw [← (show u_109_109 = s50.2.2.1 109 109 from fr_F (e_109_109) hF50 rfl)] at n56a
          rw [← (show z56a = s56.2.2.1 109 109 from e56)] at n56a
          show GG _ _ _ _ _ _ _ _ [] _ _ _
          refine g_aload_n 60 (gd rfl) rfl rfl ?_
          have v60 : u_109_111 = s56.2.2.1 109 111 := fr_F (fr_F (e_109_111) hF50 rfl) hF56 rfl
          have n60 : (z56a).toInt + (u_109_111).toInt ≤ 120 := by have a0 := oa8 i36x1 ro_109_29 i29 ((inv_F hI 0 200 rfl e_109_111)) ((inv_F hI 0 400 rfl e_109_109)) ((in_c (-1) rfl)) i56a i50a; omega
          refine g_callv (X := _) (As := []) (r := []) (b := A 109) (q := 109) 63 (gd rfl) rfl rfl rfl rfl rfl (ww_o rfl) (Nat.le_of_ble_eq_true rfl) (Nat.zero_le _) (Nat.zero_le _) (k_400 (by first | exact dq1 hd rfl | exact dq0 hd rfl | exact dq2 hd rfl | exact dq3 hd rfl | omega) hI56 e56 v60 n60) (fun e u h => h) (fun v u h => ?_)
          obtain ⟨s60, hI60, hF60, n60a, rfl, rfl, p60⟩ := h
          obtain ⟨z60a, e60⟩ : ∃ w, w = s60.2.2.1 109 109 := ⟨_, rfl⟩
          have i60a := inv_F hI60 0 400 rfl e60
          obtain ⟨z60b, e60a⟩ : ∃ w, w = s60.2.2.1 109 111 := ⟨_, rfl⟩
          have i60b := inv_F hI60 0 200 rfl e60a
          rw [← (show z56a = s56.2.2.1 109 109 from e56)] at n60a
          rw [← (show u_109_111 = s56.2.2.1 109 111 from fr_F (fr_F (e_109_111) hF50 rfl) hF56 rfl)] at n60a
          rw [← (show z60a = s60.2.2.1 109 109 from e60)] at n60a
          rw [← (show z60b = s60.2.2.1 109 111 from e60a)] at n60a
          show GG _ _ _ _ _ _ _ _ [] _ _ _
          refine g_iconst 1 64 (gd rfl) rfl rfl ?_
          have n64 : ((Int32.ofInt 1)).toInt = 0 → PR s s60 0 0 := by exact fun h => absurd h (by decide)
          have n64a : ((Int32.ofInt 1)).toInt ≠ 0 → PR s s60 0 1 := by intro hR; first | (exact absurd rfl hR) | exact pr_tr (pr_val p15 p15a rfl (inv_F hI 0 400 rfl rfl).1 (by rw [← e15, ← e_109_109]; exact n15a) (hF15.2.2.1 109 23 rfl) (hF15.1 190 rfl) (hF15.2.2.1 109 111 rfl) (fun _ => Or.inl rfl)) p19 | exact pr_tr (pr_val p56 p56a rfl (inv_F hI 0 400 rfl rfl).1 (by rw [← e56, ← e_109_109]; exact n56a) (hF56.2.2.1 109 23 rfl) (hF56.1 190 rfl) (hF56.2.2.1 109 111 rfl) (fun _ => Or.inr ⟨rfl, by decide, by decide⟩)) p60 | exact pr_tr (pr_tr (b := 0) (pr_flt (hF50.1 187 rfl) (hF50.1 188 rfl) (hF50.2.2.1 109 109 rfl) (by rw [← e50]; omega)) (pr_val p56 p56a rfl (inv_F hI50 0 400 rfl rfl).1 (by rw [← e56, ← (show u_109_109 = s50.2.2.1 109 109 from fr_F e_109_109 hF50 rfl)]; exact n56a) (hF56.2.2.1 109 23 rfl) (hF56.1 190 rfl) (hF56.2.2.1 109 111 rfl) (fun h => absurd h (by rw [← e50]; omega)))) p60
          have n64b : (z60a).toInt + (z60b).toInt ≤ (u_109_109).toInt + (u_109_111).toInt + 1 := by have a0 := oa9 i36x1 ro_109_29 i29 ((inv_F hI 0 200 rfl e_109_111)) ((inv_F hI 0 400 rfl e_109_109)) ((in_c (-1) rfl)) i60b i60a i50a; omega
          have n64c : (s60.2.2.1 109 109).toInt + (s60.2.2.1 109 111).toInt ≤ (s.2.2.1 109 109).toInt + (s.2.2.1 109 111).toInt + 1 := by have b0 : z60a = s60.2.2.1 109 109 := e60; have b1 : z60b = s60.2.2.1 109 111 := e60a; first | (rw [← b0, ← b1, ← e_109_109, ← e_109_111]; exact n64b) | (rw [← b0, ← b1]; exact n64b)
          have n64d : (u_109_28).toInt = 0 → (z60a).toInt + (z60b).toInt = (u_109_109).toInt + (u_109_111).toInt := by have a0 := oa9 i36x1 ro_109_29 i29 ((inv_F hI 0 200 rfl e_109_111)) ((inv_F hI 0 400 rfl e_109_109)) ((in_c (-1) rfl)) i60b i60a i50a; omega
          have n64e : (s.2.2.1 109 28).toInt = 0 → (s60.2.2.1 109 109).toInt + (s60.2.2.1 109 111).toInt = (s.2.2.1 109 109).toInt + (s.2.2.1 109 111).toInt := by have b0 : z60a = s60.2.2.1 109 109 := e60; have b1 : z60b = s60.2.2.1 109 111 := e60a; first | (rw [← b0, ← b1, ← e_109_28, ← e_109_109, ← e_109_111]; exact n64d) | (rw [← b0, ← b1]; exact n64d)
          have n64f : (u_109_28).toInt = 0 → 1 ≤ (z50a).toInt := by have a0 := oa9 i36x1 ro_109_29 i29 ((inv_F hI 0 200 rfl e_109_111)) ((inv_F hI 0 400 rfl e_109_109)) ((in_c (-1) rfl)) i60b i60a i50a; omega
          have n64g : (s.2.2.1 109 28).toInt = 0 → 1 ≤ (s60.2.2.1 109 23).toInt := by have b0 : z50a = s60.2.2.1 109 23 := fr_F (fr_F (e50) hF56 rfl) hF60 rfl; rw [← b0, ← e_109_28]; exact n64f
          exact g_ireturn (gd rfl) rfl (nb01 (in_w 0 1 (in_c 1 rfl) rfl)) (hP _ _ ⟨s60, hI60, (fr_tr rfl (fr_tr rfl (fr_tr rfl fr_rf hF50) hF56) hF60), n64c, n64e, n64g, (Int32.ofInt 1), rfl, rfl, in_w 0 1 (in_c 1 rfl) rfl, n64, n64a⟩)
      · skip
        have i36x1 := sw_eq c36x1
        refine g_iconst (-1) 122 (gd rfl) rfl rfl ?_
        refine g_ireturn (gd rfl) rfl rfl (hp36 _ _ ?_)
        show GG _ _ _ _ _ _ _ _ [.int (Int32.ofInt (-1))] _ _ _
        refine g_istore_n 40 (gd rfl) rfl (Nat.le_of_ble_eq_true rfl) ?_
        refine g_iload_n 41 (gd rfl) rfl rfl ?_
        refine g_if_ge 44 53 (gd rfl) rfl rfl (fun c41 => ?_) (fun c41 => ?_)
        · skip
          exact zn_ge c41 (in_c (-1) rfl) rfl
        · skip
          refine g_aload_n 45 (gd rfl) rfl rfl ?_
          refine g_iconst 5 46 (gd rfl) rfl rfl ?_
          refine g_aload_n 47 (gd rfl) rfl rfl ?_
          refine g_getI 50 (gd rfl) rfl rfl rfl (fun z47 e47 => ?_)
          have q47 : u_109_29 = z47 := (e_109_29).trans e47.symm
          subst q47
          refine g_callv (X := _) (As := [.int (Int32.ofInt 5), .int u_109_29]) (r := []) (b := A 109) (q := 109) 53 (gd rfl) rfl rfl rfl rfl rfl (ww_o rfl) (Nat.le_of_ble_eq_true rfl) (Nat.zero_le _) (Nat.zero_le _) (k_298 (by first | exact dq1 hd rfl | exact dq0 hd rfl | exact dq2 hd rfl | exact dq3 hd rfl | omega) hI (in_w 1 5 (in_c 5 rfl) rfl)) (fun e u h => h) (fun v u h => ?_)
          obtain ⟨s50, hI50, hF50, n50, rfl, rfl⟩ := h
          obtain ⟨z50a, e50⟩ : ∃ w, w = s50.2.2.1 109 23 := ⟨_, rfl⟩
          have i50a := inv_F hI50 0 9 rfl e50
          rw [← (show z50a = s50.2.2.1 109 23 from e50)] at n50
          show GG _ _ _ _ _ _ _ _ [] _ _ _
          refine g_aload_n 54 (gd rfl) rfl rfl ?_
          refine g_iconst 1 55 (gd rfl) rfl rfl ?_
          refine g_iload_n 56 (gd rfl) rfl rfl ?_
          have v56 : u_109_109 = s50.2.2.1 109 109 := fr_F (e_109_109) hF50 rfl
          have n56 : (u_109_109).toInt ≤ 399 := by have a0 := oa7 i36x1 ro_109_29 i29 ((inv_F hI 0 200 rfl e_109_111)) ((inv_F hI 0 400 rfl e_109_109)) ((in_c (-1) rfl)) i50a; omega
          refine g_callv (X := _) (As := [.int (Int32.ofInt 1), .int (Int32.ofInt (-1))]) (r := []) (b := A 109) (q := 109) 59 (gd rfl) rfl rfl rfl rfl rfl (ww_o rfl) (Nat.le_of_ble_eq_true rfl) (Nat.zero_le _) (Nat.zero_le _) (k_393 (by first | exact dq1 hd rfl | exact dq0 hd rfl | exact dq2 hd rfl | exact dq3 hd rfl | omega) hI50 v56 n56) (fun e u h => h) (fun v u h => ?_)
          obtain ⟨s56, hI56, hF56, n56a, rfl, rfl, p56, p56a⟩ := h
          obtain ⟨z56a, e56⟩ : ∃ w, w = s56.2.2.1 109 109 := ⟨_, rfl⟩
          have i56a := inv_F hI56 0 400 rfl e56
          rw [← (show u_109_109 = s50.2.2.1 109 109 from fr_F (e_109_109) hF50 rfl)] at n56a
          rw [← (show z56a = s56.2.2.1 109 109 from e56)] at n56a
          show GG _ _ _ _ _ _ _ _ [] _ _ _
          refine g_aload_n 60 (gd rfl) rfl rfl ?_
          have v60 : u_109_111 = s56.2.2.1 109 111 := fr_F (fr_F (e_109_111) hF50 rfl) hF56 rfl
          have n60 : (z56a).toInt + (u_109_111).toInt ≤ 120 := by have a0 := oa8 i36x1 ro_109_29 i29 ((inv_F hI 0 200 rfl e_109_111)) ((inv_F hI 0 400 rfl e_109_109)) ((in_c (-1) rfl)) i56a i50a; omega
          refine g_callv (X := _) (As := []) (r := []) (b := A 109) (q := 109) 63 (gd rfl) rfl rfl rfl rfl rfl (ww_o rfl) (Nat.le_of_ble_eq_true rfl) (Nat.zero_le _) (Nat.zero_le _) (k_400 (by first | exact dq1 hd rfl | exact dq0 hd rfl | exact dq2 hd rfl | exact dq3 hd rfl | omega) hI56 e56 v60 n60) (fun e u h => h) (fun v u h => ?_)
          obtain ⟨s60, hI60, hF60, n60a, rfl, rfl, p60⟩ := h
          obtain ⟨z60a, e60⟩ : ∃ w, w = s60.2.2.1 109 109 := ⟨_, rfl⟩
          have i60a := inv_F hI60 0 400 rfl e60
          obtain ⟨z60b, e60a⟩ : ∃ w, w = s60.2.2.1 109 111 := ⟨_, rfl⟩
          have i60b := inv_F hI60 0 200 rfl e60a
          rw [← (show z56a = s56.2.2.1 109 109 from e56)] at n60a
          rw [← (show u_109_111 = s56.2.2.1 109 111 from fr_F (fr_F (e_109_111) hF50 rfl) hF56 rfl)] at n60a
          rw [← (show z60a = s60.2.2.1 109 109 from e60)] at n60a
          rw [← (show z60b = s60.2.2.1 109 111 from e60a)] at n60a
          show GG _ _ _ _ _ _ _ _ [] _ _ _
          refine g_iconst 1 64 (gd rfl) rfl rfl ?_
          have n64 : ((Int32.ofInt 1)).toInt = 0 → PR s s60 0 0 := by exact fun h => absurd h (by decide)
          have n64a : ((Int32.ofInt 1)).toInt ≠ 0 → PR s s60 0 1 := by intro hR; first | (exact absurd rfl hR) | exact pr_tr (pr_val p15 p15a rfl (inv_F hI 0 400 rfl rfl).1 (by rw [← e15, ← e_109_109]; exact n15a) (hF15.2.2.1 109 23 rfl) (hF15.1 190 rfl) (hF15.2.2.1 109 111 rfl) (fun _ => Or.inl rfl)) p19 | exact pr_tr (pr_val p56 p56a rfl (inv_F hI 0 400 rfl rfl).1 (by rw [← e56, ← e_109_109]; exact n56a) (hF56.2.2.1 109 23 rfl) (hF56.1 190 rfl) (hF56.2.2.1 109 111 rfl) (fun _ => Or.inr ⟨rfl, by decide, by decide⟩)) p60 | exact pr_tr (pr_tr (b := 0) (pr_flt (hF50.1 187 rfl) (hF50.1 188 rfl) (hF50.2.2.1 109 109 rfl) (by rw [← e50]; omega)) (pr_val p56 p56a rfl (inv_F hI50 0 400 rfl rfl).1 (by rw [← e56, ← (show u_109_109 = s50.2.2.1 109 109 from fr_F e_109_109 hF50 rfl)]; exact n56a) (hF56.2.2.1 109 23 rfl) (hF56.1 190 rfl) (hF56.2.2.1 109 111 rfl) (fun h => absurd h (by rw [← e50]; omega)))) p60
          have n64b : (z60a).toInt + (z60b).toInt ≤ (u_109_109).toInt + (u_109_111).toInt + 1 := by have a0 := oa9 i36x1 ro_109_29 i29 ((inv_F hI 0 200 rfl e_109_111)) ((inv_F hI 0 400 rfl e_109_109)) ((in_c (-1) rfl)) i60b i60a i50a; omega
          have n64c : (s60.2.2.1 109 109).toInt + (s60.2.2.1 109 111).toInt ≤ (s.2.2.1 109 109).toInt + (s.2.2.1 109 111).toInt + 1 := by have b0 : z60a = s60.2.2.1 109 109 := e60; have b1 : z60b = s60.2.2.1 109 111 := e60a; first | (rw [← b0, ← b1, ← e_109_109, ← e_109_111]; exact n64b) | (rw [← b0, ← b1]; exact n64b)
          have n64d : (u_109_28).toInt = 0 → (z60a).toInt + (z60b).toInt = (u_109_109).toInt + (u_109_111).toInt := by have a0 := oa9 i36x1 ro_109_29 i29 ((inv_F hI 0 200 rfl e_109_111)) ((inv_F hI 0 400 rfl e_109_109)) ((in_c (-1) rfl)) i60b i60a i50a; omega
          have n64e : (s.2.2.1 109 28).toInt = 0 → (s60.2.2.1 109 109).toInt + (s60.2.2.1 109 111).toInt = (s.2.2.1 109 109).toInt + (s.2.2.1 109 111).toInt := by have b0 : z60a = s60.2.2.1 109 109 := e60; have b1 : z60b = s60.2.2.1 109 111 := e60a; first | (rw [← b0, ← b1, ← e_109_28, ← e_109_109, ← e_109_111]; exact n64d) | (rw [← b0, ← b1]; exact n64d)
          have n64f : (u_109_28).toInt = 0 → 1 ≤ (z50a).toInt := by have a0 := oa9 i36x1 ro_109_29 i29 ((inv_F hI 0 200 rfl e_109_111)) ((inv_F hI 0 400 rfl e_109_109)) ((in_c (-1) rfl)) i60b i60a i50a; omega
          have n64g : (s.2.2.1 109 28).toInt = 0 → 1 ≤ (s60.2.2.1 109 23).toInt := by have b0 : z50a = s60.2.2.1 109 23 := fr_F (fr_F (e50) hF56 rfl) hF60 rfl; rw [← b0, ← e_109_28]; exact n64f
          exact g_ireturn (gd rfl) rfl (nb01 (in_w 0 1 (in_c 1 rfl) rfl)) (hP _ _ ⟨s60, hI60, (fr_tr rfl (fr_tr rfl (fr_tr rfl fr_rf hF50) hF56) hF60), n64c, n64e, n64g, (Int32.ofInt 1), rfl, rfl, in_w 0 1 (in_c 1 rfl) rfl, n64, n64a⟩)
      · skip
        have i36x1 := sw_eq c36x1
        refine g_iconst 2 105 (gd rfl) rfl rfl ?_
        refine g_ireturn (gd rfl) rfl rfl (hp36 _ _ ?_)
        show GG _ _ _ _ _ _ _ _ [.int (Int32.ofInt 2)] _ _ _
        refine g_istore_n 40 (gd rfl) rfl (Nat.le_of_ble_eq_true rfl) ?_
        refine g_iload_n 41 (gd rfl) rfl rfl ?_
        refine g_if_ge 44 53 (gd rfl) rfl rfl (fun c41 => ?_) (fun c41 => ?_)
        · skip
          refine g_aload_n 54 (gd rfl) rfl rfl ?_
          refine g_iconst 1 55 (gd rfl) rfl rfl ?_
          refine g_iload_n 56 (gd rfl) rfl rfl ?_
          have n56 : (u_109_109).toInt ≤ 399 := by have a0 := oa6 i36x1 ro_109_29 i29 ((inv_F hI 0 200 rfl e_109_111)) ((inv_F hI 0 400 rfl e_109_109)) ((in_c 2 rfl)); omega
          refine g_callv (X := _) (As := [.int (Int32.ofInt 1), .int (Int32.ofInt 2)]) (r := []) (b := A 109) (q := 109) 59 (gd rfl) rfl rfl rfl rfl rfl (ww_o rfl) (Nat.le_of_ble_eq_true rfl) (Nat.zero_le _) (Nat.zero_le _) (k_393 (by first | exact dq1 hd rfl | exact dq0 hd rfl | exact dq2 hd rfl | exact dq3 hd rfl | omega) hI e_109_109 n56) (fun e u h => h) (fun v u h => ?_)
          obtain ⟨s56, hI56, hF56, n56a, rfl, rfl, p56, p56a⟩ := h
          obtain ⟨z56a, e56⟩ : ∃ w, w = s56.2.2.1 109 109 := ⟨_, rfl⟩
          have i56a := inv_F hI56 0 400 rfl e56
          rw [← (show u_109_109 = s.2.2.1 109 109 from e_109_109)] at n56a
          rw [← (show z56a = s56.2.2.1 109 109 from e56)] at n56a
          show GG _ _ _ _ _ _ _ _ [] _ _ _
          refine g_aload_n 60 (gd rfl) rfl rfl ?_
          have v60 : u_109_111 = s56.2.2.1 109 111 := fr_F (e_109_111) hF56 rfl
          have n60 : (z56a).toInt + (u_109_111).toInt ≤ 120 := by have a0 := oa7 i36x1 ro_109_29 i29 ((inv_F hI 0 200 rfl e_109_111)) ((inv_F hI 0 400 rfl e_109_109)) ((in_c 2 rfl)) i56a; omega
          refine g_callv (X := _) (As := []) (r := []) (b := A 109) (q := 109) 63 (gd rfl) rfl rfl rfl rfl rfl (ww_o rfl) (Nat.le_of_ble_eq_true rfl) (Nat.zero_le _) (Nat.zero_le _) (k_400 (by first | exact dq1 hd rfl | exact dq0 hd rfl | exact dq2 hd rfl | exact dq3 hd rfl | omega) hI56 e56 v60 n60) (fun e u h => h) (fun v u h => ?_)
          obtain ⟨s60, hI60, hF60, n60a, rfl, rfl, p60⟩ := h
          obtain ⟨z60a, e60⟩ : ∃ w, w = s60.2.2.1 109 109 := ⟨_, rfl⟩
          have i60a := inv_F hI60 0 400 rfl e60
          obtain ⟨z60b, e60a⟩ : ∃ w, w = s60.2.2.1 109 111 := ⟨_, rfl⟩
          have i60b := inv_F hI60 0 200 rfl e60a
          rw [← (show z56a = s56.2.2.1 109 109 from e56)] at n60a
          rw [← (show u_109_111 = s56.2.2.1 109 111 from fr_F (e_109_111) hF56 rfl)] at n60a
          rw [← (show z60a = s60.2.2.1 109 109 from e60)] at n60a
          rw [← (show z60b = s60.2.2.1 109 111 from e60a)] at n60a
          show GG _ _ _ _ _ _ _ _ [] _ _ _
          refine g_iconst 1 64 (gd rfl) rfl rfl ?_
          have n64 : ((Int32.ofInt 1)).toInt = 0 → PR s s60 0 0 := by exact fun h => absurd h (by decide)
          have n64a : ((Int32.ofInt 1)).toInt ≠ 0 → PR s s60 0 1 := by intro hR; first | (exact absurd rfl hR) | exact pr_tr (pr_val p15 p15a rfl (inv_F hI 0 400 rfl rfl).1 (by rw [← e15, ← e_109_109]; exact n15a) (hF15.2.2.1 109 23 rfl) (hF15.1 190 rfl) (hF15.2.2.1 109 111 rfl) (fun _ => Or.inl rfl)) p19 | exact pr_tr (pr_val p56 p56a rfl (inv_F hI 0 400 rfl rfl).1 (by rw [← e56, ← e_109_109]; exact n56a) (hF56.2.2.1 109 23 rfl) (hF56.1 190 rfl) (hF56.2.2.1 109 111 rfl) (fun _ => Or.inr ⟨rfl, by decide, by decide⟩)) p60 | exact pr_tr (pr_tr (b := 0) (pr_flt (hF50.1 187 rfl) (hF50.1 188 rfl) (hF50.2.2.1 109 109 rfl) (by rw [← e50]; omega)) (pr_val p56 p56a rfl (inv_F hI50 0 400 rfl rfl).1 (by rw [← e56, ← (show u_109_109 = s50.2.2.1 109 109 from fr_F e_109_109 hF50 rfl)]; exact n56a) (hF56.2.2.1 109 23 rfl) (hF56.1 190 rfl) (hF56.2.2.1 109 111 rfl) (fun h => absurd h (by rw [← e50]; omega)))) p60
          have n64b : (z60a).toInt + (z60b).toInt ≤ (u_109_109).toInt + (u_109_111).toInt + 1 := by have a0 := oa8 i36x1 ro_109_29 i29 ((inv_F hI 0 200 rfl e_109_111)) ((inv_F hI 0 400 rfl e_109_109)) ((in_c 2 rfl)) i60b i60a; omega
          have n64c : (s60.2.2.1 109 109).toInt + (s60.2.2.1 109 111).toInt ≤ (s.2.2.1 109 109).toInt + (s.2.2.1 109 111).toInt + 1 := by have b0 : z60a = s60.2.2.1 109 109 := e60; have b1 : z60b = s60.2.2.1 109 111 := e60a; first | (rw [← b0, ← b1, ← e_109_109, ← e_109_111]; exact n64b) | (rw [← b0, ← b1]; exact n64b)
          have n64d : (u_109_28).toInt = 0 → (z60a).toInt + (z60b).toInt = (u_109_109).toInt + (u_109_111).toInt := by have a0 := oa8 i36x1 ro_109_29 i29 ((inv_F hI 0 200 rfl e_109_111)) ((inv_F hI 0 400 rfl e_109_109)) ((in_c 2 rfl)) i60b i60a; omega
          have n64e : (s.2.2.1 109 28).toInt = 0 → (s60.2.2.1 109 109).toInt + (s60.2.2.1 109 111).toInt = (s.2.2.1 109 109).toInt + (s.2.2.1 109 111).toInt := by have b0 : z60a = s60.2.2.1 109 109 := e60; have b1 : z60b = s60.2.2.1 109 111 := e60a; first | (rw [← b0, ← b1, ← e_109_28, ← e_109_109, ← e_109_111]; exact n64d) | (rw [← b0, ← b1]; exact n64d)
          have n64f : (u_109_28).toInt = 0 → 1 ≤ ((s60.2.2.1 109 23)).toInt := by have a0 := oa9 i36x1 ro_109_29 i29 ((inv_F hI 0 200 rfl e_109_111)) ((inv_F hI 0 400 rfl e_109_109)) ((in_c 2 rfl)) i60b i60a ((show In (s60.2.2.1 109 23) 0 9 from inv_F hI60 0 9 rfl rfl)); omega
          have n64g : (s.2.2.1 109 28).toInt = 0 → 1 ≤ (s60.2.2.1 109 23).toInt := by rw [← e_109_28]; exact n64f
          exact g_ireturn (gd rfl) rfl (nb01 (in_w 0 1 (in_c 1 rfl) rfl)) (hP _ _ ⟨s60, hI60, (fr_tr rfl (fr_tr rfl fr_rf hF56) hF60), n64c, n64e, n64g, (Int32.ofInt 1), rfl, rfl, in_w 0 1 (in_c 1 rfl) rfl, n64, n64a⟩)
        · skip
          exact zn_lt c41 (in_c 2 rfl) rfl
      · skip
        have i36x1 := sw_eq c36x1
        refine g_bipush 7 117 (gd rfl) rfl rfl ?_
        refine g_ireturn (gd rfl) rfl rfl (hp36 _ _ ?_)
        show GG _ _ _ _ _ _ _ _ [.int (Int32.ofInt 7)] _ _ _
        refine g_istore_n 40 (gd rfl) rfl (Nat.le_of_ble_eq_true rfl) ?_
        refine g_iload_n 41 (gd rfl) rfl rfl ?_
        refine g_if_ge 44 53 (gd rfl) rfl rfl (fun c41 => ?_) (fun c41 => ?_)
        · skip
          refine g_aload_n 54 (gd rfl) rfl rfl ?_
          refine g_iconst 1 55 (gd rfl) rfl rfl ?_
          refine g_iload_n 56 (gd rfl) rfl rfl ?_
          have n56 : (u_109_109).toInt ≤ 399 := by have a0 := oa6 i36x1 ro_109_29 i29 ((inv_F hI 0 200 rfl e_109_111)) ((inv_F hI 0 400 rfl e_109_109)) ((in_c 7 rfl)); omega
          refine g_callv (X := _) (As := [.int (Int32.ofInt 1), .int (Int32.ofInt 7)]) (r := []) (b := A 109) (q := 109) 59 (gd rfl) rfl rfl rfl rfl rfl (ww_o rfl) (Nat.le_of_ble_eq_true rfl) (Nat.zero_le _) (Nat.zero_le _) (k_393 (by first | exact dq1 hd rfl | exact dq0 hd rfl | exact dq2 hd rfl | exact dq3 hd rfl | omega) hI e_109_109 n56) (fun e u h => h) (fun v u h => ?_)
          obtain ⟨s56, hI56, hF56, n56a, rfl, rfl, p56, p56a⟩ := h
          obtain ⟨z56a, e56⟩ : ∃ w, w = s56.2.2.1 109 109 := ⟨_, rfl⟩
          have i56a := inv_F hI56 0 400 rfl e56
          rw [← (show u_109_109 = s.2.2.1 109 109 from e_109_109)] at n56a
          rw [← (show z56a = s56.2.2.1 109 109 from e56)] at n56a
          show GG _ _ _ _ _ _ _ _ [] _ _ _
          refine g_aload_n 60 (gd rfl) rfl rfl ?_
          have v60 : u_109_111 = s56.2.2.1 109 111 := fr_F (e_109_111) hF56 rfl
          have n60 : (z56a).toInt + (u_109_111).toInt ≤ 120 := by have a0 := oa7 i36x1 ro_109_29 i29 ((inv_F hI 0 200 rfl e_109_111)) ((inv_F hI 0 400 rfl e_109_109)) ((in_c 7 rfl)) i56a; omega
          refine g_callv (X := _) (As := []) (r := []) (b := A 109) (q := 109) 63 (gd rfl) rfl rfl rfl rfl rfl (ww_o rfl) (Nat.le_of_ble_eq_true rfl) (Nat.zero_le _) (Nat.zero_le _) (k_400 (by first | exact dq1 hd rfl | exact dq0 hd rfl | exact dq2 hd rfl | exact dq3 hd rfl | omega) hI56 e56 v60 n60) (fun e u h => h) (fun v u h => ?_)
          obtain ⟨s60, hI60, hF60, n60a, rfl, rfl, p60⟩ := h
          obtain ⟨z60a, e60⟩ : ∃ w, w = s60.2.2.1 109 109 := ⟨_, rfl⟩
          have i60a := inv_F hI60 0 400 rfl e60
          obtain ⟨z60b, e60a⟩ : ∃ w, w = s60.2.2.1 109 111 := ⟨_, rfl⟩
          have i60b := inv_F hI60 0 200 rfl e60a
          rw [← (show z56a = s56.2.2.1 109 109 from e56)] at n60a
          rw [← (show u_109_111 = s56.2.2.1 109 111 from fr_F (e_109_111) hF56 rfl)] at n60a
          rw [← (show z60a = s60.2.2.1 109 109 from e60)] at n60a
          rw [← (show z60b = s60.2.2.1 109 111 from e60a)] at n60a
          show GG _ _ _ _ _ _ _ _ [] _ _ _
          refine g_iconst 1 64 (gd rfl) rfl rfl ?_
          have n64 : ((Int32.ofInt 1)).toInt = 0 → PR s s60 0 0 := by exact fun h => absurd h (by decide)
          have n64a : ((Int32.ofInt 1)).toInt ≠ 0 → PR s s60 0 1 := by intro hR; first | (exact absurd rfl hR) | exact pr_tr (pr_val p15 p15a rfl (inv_F hI 0 400 rfl rfl).1 (by rw [← e15, ← e_109_109]; exact n15a) (hF15.2.2.1 109 23 rfl) (hF15.1 190 rfl) (hF15.2.2.1 109 111 rfl) (fun _ => Or.inl rfl)) p19 | exact pr_tr (pr_val p56 p56a rfl (inv_F hI 0 400 rfl rfl).1 (by rw [← e56, ← e_109_109]; exact n56a) (hF56.2.2.1 109 23 rfl) (hF56.1 190 rfl) (hF56.2.2.1 109 111 rfl) (fun _ => Or.inr ⟨rfl, by decide, by decide⟩)) p60 | exact pr_tr (pr_tr (b := 0) (pr_flt (hF50.1 187 rfl) (hF50.1 188 rfl) (hF50.2.2.1 109 109 rfl) (by rw [← e50]; omega)) (pr_val p56 p56a rfl (inv_F hI50 0 400 rfl rfl).1 (by rw [← e56, ← (show u_109_109 = s50.2.2.1 109 109 from fr_F e_109_109 hF50 rfl)]; exact n56a) (hF56.2.2.1 109 23 rfl) (hF56.1 190 rfl) (hF56.2.2.1 109 111 rfl) (fun h => absurd h (by rw [← e50]; omega)))) p60
          have n64b : (z60a).toInt + (z60b).toInt ≤ (u_109_109).toInt + (u_109_111).toInt + 1 := by have a0 := oa8 i36x1 ro_109_29 i29 ((inv_F hI 0 200 rfl e_109_111)) ((inv_F hI 0 400 rfl e_109_109)) ((in_c 7 rfl)) i60b i60a; omega
          have n64c : (s60.2.2.1 109 109).toInt + (s60.2.2.1 109 111).toInt ≤ (s.2.2.1 109 109).toInt + (s.2.2.1 109 111).toInt + 1 := by have b0 : z60a = s60.2.2.1 109 109 := e60; have b1 : z60b = s60.2.2.1 109 111 := e60a; first | (rw [← b0, ← b1, ← e_109_109, ← e_109_111]; exact n64b) | (rw [← b0, ← b1]; exact n64b)
          have n64d : (u_109_28).toInt = 0 → (z60a).toInt + (z60b).toInt = (u_109_109).toInt + (u_109_111).toInt := by have a0 := oa8 i36x1 ro_109_29 i29 ((inv_F hI 0 200 rfl e_109_111)) ((inv_F hI 0 400 rfl e_109_109)) ((in_c 7 rfl)) i60b i60a; omega
          have n64e : (s.2.2.1 109 28).toInt = 0 → (s60.2.2.1 109 109).toInt + (s60.2.2.1 109 111).toInt = (s.2.2.1 109 109).toInt + (s.2.2.1 109 111).toInt := by have b0 : z60a = s60.2.2.1 109 109 := e60; have b1 : z60b = s60.2.2.1 109 111 := e60a; first | (rw [← b0, ← b1, ← e_109_28, ← e_109_109, ← e_109_111]; exact n64d) | (rw [← b0, ← b1]; exact n64d)
          have n64f : (u_109_28).toInt = 0 → 1 ≤ ((s60.2.2.1 109 23)).toInt := by have a0 := oa9 i36x1 ro_109_29 i29 ((inv_F hI 0 200 rfl e_109_111)) ((inv_F hI 0 400 rfl e_109_109)) ((in_c 7 rfl)) i60b i60a ((show In (s60.2.2.1 109 23) 0 9 from inv_F hI60 0 9 rfl rfl)); omega
          have n64g : (s.2.2.1 109 28).toInt = 0 → 1 ≤ (s60.2.2.1 109 23).toInt := by rw [← e_109_28]; exact n64f
          exact g_ireturn (gd rfl) rfl (nb01 (in_w 0 1 (in_c 1 rfl) rfl)) (hP _ _ ⟨s60, hI60, (fr_tr rfl (fr_tr rfl fr_rf hF56) hF60), n64c, n64e, n64g, (Int32.ofInt 1), rfl, rfl, in_w 0 1 (in_c 1 rfl) rfl, n64, n64a⟩)
        · skip
          exact zn_lt c41 (in_c 7 rfl) rfl
      · skip
        have i36x1 := sw_eq c36x1
        refine g_iconst 1 103 (gd rfl) rfl rfl ?_
        refine g_ireturn (gd rfl) rfl rfl (hp36 _ _ ?_)
        show GG _ _ _ _ _ _ _ _ [.int (Int32.ofInt 1)] _ _ _
        refine g_istore_n 40 (gd rfl) rfl (Nat.le_of_ble_eq_true rfl) ?_
        refine g_iload_n 41 (gd rfl) rfl rfl ?_
        refine g_if_ge 44 53 (gd rfl) rfl rfl (fun c41 => ?_) (fun c41 => ?_)
        · skip
          refine g_aload_n 54 (gd rfl) rfl rfl ?_
          refine g_iconst 1 55 (gd rfl) rfl rfl ?_
          refine g_iload_n 56 (gd rfl) rfl rfl ?_
          have n56 : (u_109_109).toInt ≤ 399 := by have a0 := oa6 i36x1 ro_109_29 i29 ((inv_F hI 0 200 rfl e_109_111)) ((inv_F hI 0 400 rfl e_109_109)) ((in_c 1 rfl)); omega
          refine g_callv (X := _) (As := [.int (Int32.ofInt 1), .int (Int32.ofInt 1)]) (r := []) (b := A 109) (q := 109) 59 (gd rfl) rfl rfl rfl rfl rfl (ww_o rfl) (Nat.le_of_ble_eq_true rfl) (Nat.zero_le _) (Nat.zero_le _) (k_393 (by first | exact dq1 hd rfl | exact dq0 hd rfl | exact dq2 hd rfl | exact dq3 hd rfl | omega) hI e_109_109 n56) (fun e u h => h) (fun v u h => ?_)
          obtain ⟨s56, hI56, hF56, n56a, rfl, rfl, p56, p56a⟩ := h
          obtain ⟨z56a, e56⟩ : ∃ w, w = s56.2.2.1 109 109 := ⟨_, rfl⟩
          have i56a := inv_F hI56 0 400 rfl e56
          rw [← (show u_109_109 = s.2.2.1 109 109 from e_109_109)] at n56a
          rw [← (show z56a = s56.2.2.1 109 109 from e56)] at n56a
          show GG _ _ _ _ _ _ _ _ [] _ _ _
          refine g_aload_n 60 (gd rfl) rfl rfl ?_
          have v60 : u_109_111 = s56.2.2.1 109 111 := fr_F (e_109_111) hF56 rfl
          have n60 : (z56a).toInt + (u_109_111).toInt ≤ 120 := by have a0 := oa7 i36x1 ro_109_29 i29 ((inv_F hI 0 200 rfl e_109_111)) ((inv_F hI 0 400 rfl e_109_109)) ((in_c 1 rfl)) i56a; omega
          refine g_callv (X := _) (As := []) (r := []) (b := A 109) (q := 109) 63 (gd rfl) rfl rfl rfl rfl rfl (ww_o rfl) (Nat.le_of_ble_eq_true rfl) (Nat.zero_le _) (Nat.zero_le _) (k_400 (by first | exact dq1 hd rfl | exact dq0 hd rfl | exact dq2 hd rfl | exact dq3 hd rfl | omega) hI56 e56 v60 n60) (fun e u h => h) (fun v u h => ?_)
          obtain ⟨s60, hI60, hF60, n60a, rfl, rfl, p60⟩ := h
          obtain ⟨z60a, e60⟩ : ∃ w, w = s60.2.2.1 109 109 := ⟨_, rfl⟩
          have i60a := inv_F hI60 0 400 rfl e60
          obtain ⟨z60b, e60a⟩ : ∃ w, w = s60.2.2.1 109 111 := ⟨_, rfl⟩
          have i60b := inv_F hI60 0 200 rfl e60a
          rw [← (show z56a = s56.2.2.1 109 109 from e56)] at n60a
          rw [← (show u_109_111 = s56.2.2.1 109 111 from fr_F (e_109_111) hF56 rfl)] at n60a
          rw [← (show z60a = s60.2.2.1 109 109 from e60)] at n60a
          rw [← (show z60b = s60.2.2.1 109 111 from e60a)] at n60a
          show GG _ _ _ _ _ _ _ _ [] _ _ _
          refine g_iconst 1 64 (gd rfl) rfl rfl ?_
          have n64 : ((Int32.ofInt 1)).toInt = 0 → PR s s60 0 0 := by exact fun h => absurd h (by decide)
          have n64a : ((Int32.ofInt 1)).toInt ≠ 0 → PR s s60 0 1 := by intro hR; first | (exact absurd rfl hR) | exact pr_tr (pr_val p15 p15a rfl (inv_F hI 0 400 rfl rfl).1 (by rw [← e15, ← e_109_109]; exact n15a) (hF15.2.2.1 109 23 rfl) (hF15.1 190 rfl) (hF15.2.2.1 109 111 rfl) (fun _ => Or.inl rfl)) p19 | exact pr_tr (pr_val p56 p56a rfl (inv_F hI 0 400 rfl rfl).1 (by rw [← e56, ← e_109_109]; exact n56a) (hF56.2.2.1 109 23 rfl) (hF56.1 190 rfl) (hF56.2.2.1 109 111 rfl) (fun _ => Or.inr ⟨rfl, by decide, by decide⟩)) p60 | exact pr_tr (pr_tr (b := 0) (pr_flt (hF50.1 187 rfl) (hF50.1 188 rfl) (hF50.2.2.1 109 109 rfl) (by rw [← e50]; omega)) (pr_val p56 p56a rfl (inv_F hI50 0 400 rfl rfl).1 (by rw [← e56, ← (show u_109_109 = s50.2.2.1 109 109 from fr_F e_109_109 hF50 rfl)]; exact n56a) (hF56.2.2.1 109 23 rfl) (hF56.1 190 rfl) (hF56.2.2.1 109 111 rfl) (fun h => absurd h (by rw [← e50]; omega)))) p60
          have n64b : (z60a).toInt + (z60b).toInt ≤ (u_109_109).toInt + (u_109_111).toInt + 1 := by have a0 := oa8 i36x1 ro_109_29 i29 ((inv_F hI 0 200 rfl e_109_111)) ((inv_F hI 0 400 rfl e_109_109)) ((in_c 1 rfl)) i60b i60a; omega
          have n64c : (s60.2.2.1 109 109).toInt + (s60.2.2.1 109 111).toInt ≤ (s.2.2.1 109 109).toInt + (s.2.2.1 109 111).toInt + 1 := by have b0 : z60a = s60.2.2.1 109 109 := e60; have b1 : z60b = s60.2.2.1 109 111 := e60a; first | (rw [← b0, ← b1, ← e_109_109, ← e_109_111]; exact n64b) | (rw [← b0, ← b1]; exact n64b)
          have n64d : (u_109_28).toInt = 0 → (z60a).toInt + (z60b).toInt = (u_109_109).toInt + (u_109_111).toInt := by have a0 := oa8 i36x1 ro_109_29 i29 ((inv_F hI 0 200 rfl e_109_111)) ((inv_F hI 0 400 rfl e_109_109)) ((in_c 1 rfl)) i60b i60a; omega
          have n64e : (s.2.2.1 109 28).toInt = 0 → (s60.2.2.1 109 109).toInt + (s60.2.2.1 109 111).toInt = (s.2.2.1 109 109).toInt + (s.2.2.1 109 111).toInt := by have b0 : z60a = s60.2.2.1 109 109 := e60; have b1 : z60b = s60.2.2.1 109 111 := e60a; first | (rw [← b0, ← b1, ← e_109_28, ← e_109_109, ← e_109_111]; exact n64d) | (rw [← b0, ← b1]; exact n64d)
          have n64f : (u_109_28).toInt = 0 → 1 ≤ ((s60.2.2.1 109 23)).toInt := by have a0 := oa9 i36x1 ro_109_29 i29 ((inv_F hI 0 200 rfl e_109_111)) ((inv_F hI 0 400 rfl e_109_109)) ((in_c 1 rfl)) i60b i60a ((show In (s60.2.2.1 109 23) 0 9 from inv_F hI60 0 9 rfl rfl)); omega
          have n64g : (s.2.2.1 109 28).toInt = 0 → 1 ≤ (s60.2.2.1 109 23).toInt := by rw [← e_109_28]; exact n64f
          exact g_ireturn (gd rfl) rfl (nb01 (in_w 0 1 (in_c 1 rfl) rfl)) (hP _ _ ⟨s60, hI60, (fr_tr rfl (fr_tr rfl fr_rf hF56) hF60), n64c, n64e, n64g, (Int32.ofInt 1), rfl, rfl, in_w 0 1 (in_c 1 rfl) rfl, n64, n64a⟩)
        · skip
          exact zn_lt c41 (in_c 1 rfl) rfl
      · skip
        have i36x1 := sw_eq c36x1
        refine g_iconst (-1) 122 (gd rfl) rfl rfl ?_
        refine g_ireturn (gd rfl) rfl rfl (hp36 _ _ ?_)
        show GG _ _ _ _ _ _ _ _ [.int (Int32.ofInt (-1))] _ _ _
        refine g_istore_n 40 (gd rfl) rfl (Nat.le_of_ble_eq_true rfl) ?_
        refine g_iload_n 41 (gd rfl) rfl rfl ?_
        refine g_if_ge 44 53 (gd rfl) rfl rfl (fun c41 => ?_) (fun c41 => ?_)
        · skip
          exact zn_ge c41 (in_c (-1) rfl) rfl
        · skip
          refine g_aload_n 45 (gd rfl) rfl rfl ?_
          refine g_iconst 5 46 (gd rfl) rfl rfl ?_
          refine g_aload_n 47 (gd rfl) rfl rfl ?_
          refine g_getI 50 (gd rfl) rfl rfl rfl (fun z47 e47 => ?_)
          have q47 : u_109_29 = z47 := (e_109_29).trans e47.symm
          subst q47
          refine g_callv (X := _) (As := [.int (Int32.ofInt 5), .int u_109_29]) (r := []) (b := A 109) (q := 109) 53 (gd rfl) rfl rfl rfl rfl rfl (ww_o rfl) (Nat.le_of_ble_eq_true rfl) (Nat.zero_le _) (Nat.zero_le _) (k_298 (by first | exact dq1 hd rfl | exact dq0 hd rfl | exact dq2 hd rfl | exact dq3 hd rfl | omega) hI (in_w 1 5 (in_c 5 rfl) rfl)) (fun e u h => h) (fun v u h => ?_)
          obtain ⟨s50, hI50, hF50, n50, rfl, rfl⟩ := h
          obtain ⟨z50a, e50⟩ : ∃ w, w = s50.2.2.1 109 23 := ⟨_, rfl⟩
          have i50a := inv_F hI50 0 9 rfl e50
          rw [← (show z50a = s50.2.2.1 109 23 from e50)] at n50
          show GG _ _ _ _ _ _ _ _ [] _ _ _
          refine g_aload_n 54 (gd rfl) rfl rfl ?_
          refine g_iconst 1 55 (gd rfl) rfl rfl ?_
          refine g_iload_n 56 (gd rfl) rfl rfl ?_
          have v56 : u_109_109 = s50.2.2.1 109 109 := fr_F (e_109_109) hF50 rfl
          have n56 : (u_109_109).toInt ≤ 399 := by have a0 := oa7 i36x1 ro_109_29 i29 ((inv_F hI 0 200 rfl e_109_111)) ((inv_F hI 0 400 rfl e_109_109)) ((in_c (-1) rfl)) i50a; omega
          refine g_callv (X := _) (As := [.int (Int32.ofInt 1), .int (Int32.ofInt (-1))]) (r := []) (b := A 109) (q := 109) 59 (gd rfl) rfl rfl rfl rfl rfl (ww_o rfl) (Nat.le_of_ble_eq_true rfl) (Nat.zero_le _) (Nat.zero_le _) (k_393 (by first | exact dq1 hd rfl | exact dq0 hd rfl | exact dq2 hd rfl | exact dq3 hd rfl | omega) hI50 v56 n56) (fun e u h => h) (fun v u h => ?_)
          obtain ⟨s56, hI56, hF56, n56a, rfl, rfl, p56, p56a⟩ := h
          obtain ⟨z56a, e56⟩ : ∃ w, w = s56.2.2.1 109 109 := ⟨_, rfl⟩
          have i56a := inv_F hI56 0 400 rfl e56
          rw [← (show u_109_109 = s50.2.2.1 109 109 from fr_F (e_109_109) hF50 rfl)] at n56a
          rw [← (show z56a = s56.2.2.1 109 109 from e56)] at n56a
          show GG _ _ _ _ _ _ _ _ [] _ _ _
          refine g_aload_n 60 (gd rfl) rfl rfl ?_
          have v60 : u_109_111 = s56.2.2.1 109 111 := fr_F (fr_F (e_109_111) hF50 rfl) hF56 rfl
          have n60 : (z56a).toInt + (u_109_111).toInt ≤ 120 := by have a0 := oa8 i36x1 ro_109_29 i29 ((inv_F hI 0 200 rfl e_109_111)) ((inv_F hI 0 400 rfl e_109_109)) ((in_c (-1) rfl)) i56a i50a; omega
          refine g_callv (X := _) (As := []) (r := []) (b := A 109) (q := 109) 63 (gd rfl) rfl rfl rfl rfl rfl (ww_o rfl) (Nat.le_of_ble_eq_true rfl) (Nat.zero_le _) (Nat.zero_le _) (k_400 (by first | exact dq1 hd rfl | exact dq0 hd rfl | exact dq2 hd rfl | exact dq3 hd rfl | omega) hI56 e56 v60 n60) (fun e u h => h) (fun v u h => ?_)
          obtain ⟨s60, hI60, hF60, n60a, rfl, rfl, p60⟩ := h
          obtain ⟨z60a, e60⟩ : ∃ w, w = s60.2.2.1 109 109 := ⟨_, rfl⟩
          have i60a := inv_F hI60 0 400 rfl e60
          obtain ⟨z60b, e60a⟩ : ∃ w, w = s60.2.2.1 109 111 := ⟨_, rfl⟩
          have i60b := inv_F hI60 0 200 rfl e60a
          rw [← (show z56a = s56.2.2.1 109 109 from e56)] at n60a
          rw [← (show u_109_111 = s56.2.2.1 109 111 from fr_F (fr_F (e_109_111) hF50 rfl) hF56 rfl)] at n60a
          rw [← (show z60a = s60.2.2.1 109 109 from e60)] at n60a
          rw [← (show z60b = s60.2.2.1 109 111 from e60a)] at n60a
          show GG _ _ _ _ _ _ _ _ [] _ _ _
          refine g_iconst 1 64 (gd rfl) rfl rfl ?_
          have n64 : ((Int32.ofInt 1)).toInt = 0 → PR s s60 0 0 := by exact fun h => absurd h (by decide)
          have n64a : ((Int32.ofInt 1)).toInt ≠ 0 → PR s s60 0 1 := by intro hR; first | (exact absurd rfl hR) | exact pr_tr (pr_val p15 p15a rfl (inv_F hI 0 400 rfl rfl).1 (by rw [← e15, ← e_109_109]; exact n15a) (hF15.2.2.1 109 23 rfl) (hF15.1 190 rfl) (hF15.2.2.1 109 111 rfl) (fun _ => Or.inl rfl)) p19 | exact pr_tr (pr_val p56 p56a rfl (inv_F hI 0 400 rfl rfl).1 (by rw [← e56, ← e_109_109]; exact n56a) (hF56.2.2.1 109 23 rfl) (hF56.1 190 rfl) (hF56.2.2.1 109 111 rfl) (fun _ => Or.inr ⟨rfl, by decide, by decide⟩)) p60 | exact pr_tr (pr_tr (b := 0) (pr_flt (hF50.1 187 rfl) (hF50.1 188 rfl) (hF50.2.2.1 109 109 rfl) (by rw [← e50]; omega)) (pr_val p56 p56a rfl (inv_F hI50 0 400 rfl rfl).1 (by rw [← e56, ← (show u_109_109 = s50.2.2.1 109 109 from fr_F e_109_109 hF50 rfl)]; exact n56a) (hF56.2.2.1 109 23 rfl) (hF56.1 190 rfl) (hF56.2.2.1 109 111 rfl) (fun h => absurd h (by rw [← e50]; omega)))) p60
          have n64b : (z60a).toInt + (z60b).toInt ≤ (u_109_109).toInt + (u_109_111).toInt + 1 := by have a0 := oa9 i36x1 ro_109_29 i29 ((inv_F hI 0 200 rfl e_109_111)) ((inv_F hI 0 400 rfl e_109_109)) ((in_c (-1) rfl)) i60b i60a i50a; omega
          have n64c : (s60.2.2.1 109 109).toInt + (s60.2.2.1 109 111).toInt ≤ (s.2.2.1 109 109).toInt + (s.2.2.1 109 111).toInt + 1 := by have b0 : z60a = s60.2.2.1 109 109 := e60; have b1 : z60b = s60.2.2.1 109 111 := e60a; first | (rw [← b0, ← b1, ← e_109_109, ← e_109_111]; exact n64b) | (rw [← b0, ← b1]; exact n64b)
          have n64d : (u_109_28).toInt = 0 → (z60a).toInt + (z60b).toInt = (u_109_109).toInt + (u_109_111).toInt := by have a0 := oa9 i36x1 ro_109_29 i29 ((inv_F hI 0 200 rfl e_109_111)) ((inv_F hI 0 400 rfl e_109_109)) ((in_c (-1) rfl)) i60b i60a i50a; omega
          have n64e : (s.2.2.1 109 28).toInt = 0 → (s60.2.2.1 109 109).toInt + (s60.2.2.1 109 111).toInt = (s.2.2.1 109 109).toInt + (s.2.2.1 109 111).toInt := by have b0 : z60a = s60.2.2.1 109 109 := e60; have b1 : z60b = s60.2.2.1 109 111 := e60a; first | (rw [← b0, ← b1, ← e_109_28, ← e_109_109, ← e_109_111]; exact n64d) | (rw [← b0, ← b1]; exact n64d)
          have n64f : (u_109_28).toInt = 0 → 1 ≤ (z50a).toInt := by have a0 := oa9 i36x1 ro_109_29 i29 ((inv_F hI 0 200 rfl e_109_111)) ((inv_F hI 0 400 rfl e_109_109)) ((in_c (-1) rfl)) i60b i60a i50a; omega
          have n64g : (s.2.2.1 109 28).toInt = 0 → 1 ≤ (s60.2.2.1 109 23).toInt := by have b0 : z50a = s60.2.2.1 109 23 := fr_F (fr_F (e50) hF56 rfl) hF60 rfl; rw [← b0, ← e_109_28]; exact n64f
          exact g_ireturn (gd rfl) rfl (nb01 (in_w 0 1 (in_c 1 rfl) rfl)) (hP _ _ ⟨s60, hI60, (fr_tr rfl (fr_tr rfl (fr_tr rfl fr_rf hF50) hF56) hF60), n64c, n64e, n64g, (Int32.ofInt 1), rfl, rfl, in_w 0 1 (in_c 1 rfl) rfl, n64, n64a⟩)
      · skip
        have i36x1 := sw_eq c36x1
        refine g_iconst (-1) 122 (gd rfl) rfl rfl ?_
        refine g_ireturn (gd rfl) rfl rfl (hp36 _ _ ?_)
        show GG _ _ _ _ _ _ _ _ [.int (Int32.ofInt (-1))] _ _ _
        refine g_istore_n 40 (gd rfl) rfl (Nat.le_of_ble_eq_true rfl) ?_
        refine g_iload_n 41 (gd rfl) rfl rfl ?_
        refine g_if_ge 44 53 (gd rfl) rfl rfl (fun c41 => ?_) (fun c41 => ?_)
        · skip
          exact zn_ge c41 (in_c (-1) rfl) rfl
        · skip
          refine g_aload_n 45 (gd rfl) rfl rfl ?_
          refine g_iconst 5 46 (gd rfl) rfl rfl ?_
          refine g_aload_n 47 (gd rfl) rfl rfl ?_
          refine g_getI 50 (gd rfl) rfl rfl rfl (fun z47 e47 => ?_)
          have q47 : u_109_29 = z47 := (e_109_29).trans e47.symm
          subst q47
          refine g_callv (X := _) (As := [.int (Int32.ofInt 5), .int u_109_29]) (r := []) (b := A 109) (q := 109) 53 (gd rfl) rfl rfl rfl rfl rfl (ww_o rfl) (Nat.le_of_ble_eq_true rfl) (Nat.zero_le _) (Nat.zero_le _) (k_298 (by first | exact dq1 hd rfl | exact dq0 hd rfl | exact dq2 hd rfl | exact dq3 hd rfl | omega) hI (in_w 1 5 (in_c 5 rfl) rfl)) (fun e u h => h) (fun v u h => ?_)
          obtain ⟨s50, hI50, hF50, n50, rfl, rfl⟩ := h
          obtain ⟨z50a, e50⟩ : ∃ w, w = s50.2.2.1 109 23 := ⟨_, rfl⟩
          have i50a := inv_F hI50 0 9 rfl e50
          rw [← (show z50a = s50.2.2.1 109 23 from e50)] at n50
          show GG _ _ _ _ _ _ _ _ [] _ _ _
          refine g_aload_n 54 (gd rfl) rfl rfl ?_
          refine g_iconst 1 55 (gd rfl) rfl rfl ?_
          refine g_iload_n 56 (gd rfl) rfl rfl ?_
          have v56 : u_109_109 = s50.2.2.1 109 109 := fr_F (e_109_109) hF50 rfl
          have n56 : (u_109_109).toInt ≤ 399 := by have a0 := oa7 i36x1 ro_109_29 i29 ((inv_F hI 0 200 rfl e_109_111)) ((inv_F hI 0 400 rfl e_109_109)) ((in_c (-1) rfl)) i50a; omega
          refine g_callv (X := _) (As := [.int (Int32.ofInt 1), .int (Int32.ofInt (-1))]) (r := []) (b := A 109) (q := 109) 59 (gd rfl) rfl rfl rfl rfl rfl (ww_o rfl) (Nat.le_of_ble_eq_true rfl) (Nat.zero_le _) (Nat.zero_le _) (k_393 (by first | exact dq1 hd rfl | exact dq0 hd rfl | exact dq2 hd rfl | exact dq3 hd rfl | omega) hI50 v56 n56) (fun e u h => h) (fun v u h => ?_)
          obtain ⟨s56, hI56, hF56, n56a, rfl, rfl, p56, p56a⟩ := h
          obtain ⟨z56a, e56⟩ : ∃ w, w = s56.2.2.1 109 109 := ⟨_, rfl⟩
          have i56a := inv_F hI56 0 400 rfl e56
          rw [← (show u_109_109 = s50.2.2.1 109 109 from fr_F (e_109_109) hF50 rfl)] at n56a
          rw [← (show z56a = s56.2.2.1 109 109 from e56)] at n56a
          show GG _ _ _ _ _ _ _ _ [] _ _ _
          refine g_aload_n 60 (gd rfl) rfl rfl ?_
          have v60 : u_109_111 = s56.2.2.1 109 111 := fr_F (fr_F (e_109_111) hF50 rfl) hF56 rfl
          have n60 : (z56a).toInt + (u_109_111).toInt ≤ 120 := by have a0 := oa8 i36x1 ro_109_29 i29 ((inv_F hI 0 200 rfl e_109_111)) ((inv_F hI 0 400 rfl e_109_109)) ((in_c (-1) rfl)) i56a i50a; omega
          refine g_callv (X := _) (As := []) (r := []) (b := A 109) (q := 109) 63 (gd rfl) rfl rfl rfl rfl rfl (ww_o rfl) (Nat.le_of_ble_eq_true rfl) (Nat.zero_le _) (Nat.zero_le _) (k_400 (by first | exact dq1 hd rfl | exact dq0 hd rfl | exact dq2 hd rfl | exact dq3 hd rfl | omega) hI56 e56 v60 n60) (fun e u h => h) (fun v u h => ?_)
          obtain ⟨s60, hI60, hF60, n60a, rfl, rfl, p60⟩ := h
          obtain ⟨z60a, e60⟩ : ∃ w, w = s60.2.2.1 109 109 := ⟨_, rfl⟩
          have i60a := inv_F hI60 0 400 rfl e60
          obtain ⟨z60b, e60a⟩ : ∃ w, w = s60.2.2.1 109 111 := ⟨_, rfl⟩
          have i60b := inv_F hI60 0 200 rfl e60a
          rw [← (show z56a = s56.2.2.1 109 109 from e56)] at n60a
          rw [← (show u_109_111 = s56.2.2.1 109 111 from fr_F (fr_F (e_109_111) hF50 rfl) hF56 rfl)] at n60a
          rw [← (show z60a = s60.2.2.1 109 109 from e60)] at n60a
          rw [← (show z60b = s60.2.2.1 109 111 from e60a)] at n60a
          show GG _ _ _ _ _ _ _ _ [] _ _ _
          refine g_iconst 1 64 (gd rfl) rfl rfl ?_
          have n64 : ((Int32.ofInt 1)).toInt = 0 → PR s s60 0 0 := by exact fun h => absurd h (by decide)
          have n64a : ((Int32.ofInt 1)).toInt ≠ 0 → PR s s60 0 1 := by intro hR; first | (exact absurd rfl hR) | exact pr_tr (pr_val p15 p15a rfl (inv_F hI 0 400 rfl rfl).1 (by rw [← e15, ← e_109_109]; exact n15a) (hF15.2.2.1 109 23 rfl) (hF15.1 190 rfl) (hF15.2.2.1 109 111 rfl) (fun _ => Or.inl rfl)) p19 | exact pr_tr (pr_val p56 p56a rfl (inv_F hI 0 400 rfl rfl).1 (by rw [← e56, ← e_109_109]; exact n56a) (hF56.2.2.1 109 23 rfl) (hF56.1 190 rfl) (hF56.2.2.1 109 111 rfl) (fun _ => Or.inr ⟨rfl, by decide, by decide⟩)) p60 | exact pr_tr (pr_tr (b := 0) (pr_flt (hF50.1 187 rfl) (hF50.1 188 rfl) (hF50.2.2.1 109 109 rfl) (by rw [← e50]; omega)) (pr_val p56 p56a rfl (inv_F hI50 0 400 rfl rfl).1 (by rw [← e56, ← (show u_109_109 = s50.2.2.1 109 109 from fr_F e_109_109 hF50 rfl)]; exact n56a) (hF56.2.2.1 109 23 rfl) (hF56.1 190 rfl) (hF56.2.2.1 109 111 rfl) (fun h => absurd h (by rw [← e50]; omega)))) p60
          have n64b : (z60a).toInt + (z60b).toInt ≤ (u_109_109).toInt + (u_109_111).toInt + 1 := by have a0 := oa9 i36x1 ro_109_29 i29 ((inv_F hI 0 200 rfl e_109_111)) ((inv_F hI 0 400 rfl e_109_109)) ((in_c (-1) rfl)) i60b i60a i50a; omega
          have n64c : (s60.2.2.1 109 109).toInt + (s60.2.2.1 109 111).toInt ≤ (s.2.2.1 109 109).toInt + (s.2.2.1 109 111).toInt + 1 := by have b0 : z60a = s60.2.2.1 109 109 := e60; have b1 : z60b = s60.2.2.1 109 111 := e60a; first | (rw [← b0, ← b1, ← e_109_109, ← e_109_111]; exact n64b) | (rw [← b0, ← b1]; exact n64b)
          have n64d : (u_109_28).toInt = 0 → (z60a).toInt + (z60b).toInt = (u_109_109).toInt + (u_109_111).toInt := by have a0 := oa9 i36x1 ro_109_29 i29 ((inv_F hI 0 200 rfl e_109_111)) ((inv_F hI 0 400 rfl e_109_109)) ((in_c (-1) rfl)) i60b i60a i50a; omega
          have n64e : (s.2.2.1 109 28).toInt = 0 → (s60.2.2.1 109 109).toInt + (s60.2.2.1 109 111).toInt = (s.2.2.1 109 109).toInt + (s.2.2.1 109 111).toInt := by have b0 : z60a = s60.2.2.1 109 109 := e60; have b1 : z60b = s60.2.2.1 109 111 := e60a; first | (rw [← b0, ← b1, ← e_109_28, ← e_109_109, ← e_109_111]; exact n64d) | (rw [← b0, ← b1]; exact n64d)
          have n64f : (u_109_28).toInt = 0 → 1 ≤ (z50a).toInt := by have a0 := oa9 i36x1 ro_109_29 i29 ((inv_F hI 0 200 rfl e_109_111)) ((inv_F hI 0 400 rfl e_109_109)) ((in_c (-1) rfl)) i60b i60a i50a; omega
          have n64g : (s.2.2.1 109 28).toInt = 0 → 1 ≤ (s60.2.2.1 109 23).toInt := by have b0 : z50a = s60.2.2.1 109 23 := fr_F (fr_F (e50) hF56 rfl) hF60 rfl; rw [← b0, ← e_109_28]; exact n64f
          exact g_ireturn (gd rfl) rfl (nb01 (in_w 0 1 (in_c 1 rfl) rfl)) (hP _ _ ⟨s60, hI60, (fr_tr rfl (fr_tr rfl (fr_tr rfl fr_rf hF50) hF56) hF60), n64c, n64e, n64g, (Int32.ofInt 1), rfl, rfl, in_w 0 1 (in_c 1 rfl) rfl, n64, n64a⟩)
      · skip
        have i36x1 := sw_eq c36x1
        refine g_iconst (-1) 122 (gd rfl) rfl rfl ?_
        refine g_ireturn (gd rfl) rfl rfl (hp36 _ _ ?_)
        show GG _ _ _ _ _ _ _ _ [.int (Int32.ofInt (-1))] _ _ _
        refine g_istore_n 40 (gd rfl) rfl (Nat.le_of_ble_eq_true rfl) ?_
        refine g_iload_n 41 (gd rfl) rfl rfl ?_
        refine g_if_ge 44 53 (gd rfl) rfl rfl (fun c41 => ?_) (fun c41 => ?_)
        · skip
          exact zn_ge c41 (in_c (-1) rfl) rfl
        · skip
          refine g_aload_n 45 (gd rfl) rfl rfl ?_
          refine g_iconst 5 46 (gd rfl) rfl rfl ?_
          refine g_aload_n 47 (gd rfl) rfl rfl ?_
          refine g_getI 50 (gd rfl) rfl rfl rfl (fun z47 e47 => ?_)
          have q47 : u_109_29 = z47 := (e_109_29).trans e47.symm
          subst q47
          refine g_callv (X := _) (As := [.int (Int32.ofInt 5), .int u_109_29]) (r := []) (b := A 109) (q := 109) 53 (gd rfl) rfl rfl rfl rfl rfl (ww_o rfl) (Nat.le_of_ble_eq_true rfl) (Nat.zero_le _) (Nat.zero_le _) (k_298 (by first | exact dq1 hd rfl | exact dq0 hd rfl | exact dq2 hd rfl | exact dq3 hd rfl | omega) hI (in_w 1 5 (in_c 5 rfl) rfl)) (fun e u h => h) (fun v u h => ?_)
          obtain ⟨s50, hI50, hF50, n50, rfl, rfl⟩ := h
          obtain ⟨z50a, e50⟩ : ∃ w, w = s50.2.2.1 109 23 := ⟨_, rfl⟩
          have i50a := inv_F hI50 0 9 rfl e50
          rw [← (show z50a = s50.2.2.1 109 23 from e50)] at n50
          show GG _ _ _ _ _ _ _ _ [] _ _ _
          refine g_aload_n 54 (gd rfl) rfl rfl ?_
          refine g_iconst 1 55 (gd rfl) rfl rfl ?_
          refine g_iload_n 56 (gd rfl) rfl rfl ?_
          have v56 : u_109_109 = s50.2.2.1 109 109 := fr_F (e_109_109) hF50 rfl
          have n56 : (u_109_109).toInt ≤ 399 := by have a0 := oa7 i36x1 ro_109_29 i29 ((inv_F hI 0 200 rfl e_109_111)) ((inv_F hI 0 400 rfl e_109_109)) ((in_c (-1) rfl)) i50a; omega
          refine g_callv (X := _) (As := [.int (Int32.ofInt 1), .int (Int32.ofInt (-1))]) (r := []) (b := A 109) (q := 109) 59 (gd rfl) rfl rfl rfl rfl rfl (ww_o rfl) (Nat.le_of_ble_eq_true rfl) (Nat.zero_le _) (Nat.zero_le _) (k_393 (by first | exact dq1 hd rfl | exact dq0 hd rfl | exact dq2 hd rfl | exact dq3 hd rfl | omega) hI50 v56 n56) (fun e u h => h) (fun v u h => ?_)
          obtain ⟨s56, hI56, hF56, n56a, rfl, rfl, p56, p56a⟩ := h
          obtain ⟨z56a, e56⟩ : ∃ w, w = s56.2.2.1 109 109 := ⟨_, rfl⟩
          have i56a := inv_F hI56 0 400 rfl e56
          rw [← (show u_109_109 = s50.2.2.1 109 109 from fr_F (e_109_109) hF50 rfl)] at n56a
          rw [← (show z56a = s56.2.2.1 109 109 from e56)] at n56a
          show GG _ _ _ _ _ _ _ _ [] _ _ _
          refine g_aload_n 60 (gd rfl) rfl rfl ?_
          have v60 : u_109_111 = s56.2.2.1 109 111 := fr_F (fr_F (e_109_111) hF50 rfl) hF56 rfl
          have n60 : (z56a).toInt + (u_109_111).toInt ≤ 120 := by have a0 := oa8 i36x1 ro_109_29 i29 ((inv_F hI 0 200 rfl e_109_111)) ((inv_F hI 0 400 rfl e_109_109)) ((in_c (-1) rfl)) i56a i50a; omega
          refine g_callv (X := _) (As := []) (r := []) (b := A 109) (q := 109) 63 (gd rfl) rfl rfl rfl rfl rfl (ww_o rfl) (Nat.le_of_ble_eq_true rfl) (Nat.zero_le _) (Nat.zero_le _) (k_400 (by first | exact dq1 hd rfl | exact dq0 hd rfl | exact dq2 hd rfl | exact dq3 hd rfl | omega) hI56 e56 v60 n60) (fun e u h => h) (fun v u h => ?_)
          obtain ⟨s60, hI60, hF60, n60a, rfl, rfl, p60⟩ := h
          obtain ⟨z60a, e60⟩ : ∃ w, w = s60.2.2.1 109 109 := ⟨_, rfl⟩
          have i60a := inv_F hI60 0 400 rfl e60
          obtain ⟨z60b, e60a⟩ : ∃ w, w = s60.2.2.1 109 111 := ⟨_, rfl⟩
          have i60b := inv_F hI60 0 200 rfl e60a
          rw [← (show z56a = s56.2.2.1 109 109 from e56)] at n60a
          rw [← (show u_109_111 = s56.2.2.1 109 111 from fr_F (fr_F (e_109_111) hF50 rfl) hF56 rfl)] at n60a
          rw [← (show z60a = s60.2.2.1 109 109 from e60)] at n60a
          rw [← (show z60b = s60.2.2.1 109 111 from e60a)] at n60a
          show GG _ _ _ _ _ _ _ _ [] _ _ _
          refine g_iconst 1 64 (gd rfl) rfl rfl ?_
          have n64 : ((Int32.ofInt 1)).toInt = 0 → PR s s60 0 0 := by exact fun h => absurd h (by decide)
          have n64a : ((Int32.ofInt 1)).toInt ≠ 0 → PR s s60 0 1 := by intro hR; first | (exact absurd rfl hR) | exact pr_tr (pr_val p15 p15a rfl (inv_F hI 0 400 rfl rfl).1 (by rw [← e15, ← e_109_109]; exact n15a) (hF15.2.2.1 109 23 rfl) (hF15.1 190 rfl) (hF15.2.2.1 109 111 rfl) (fun _ => Or.inl rfl)) p19 | exact pr_tr (pr_val p56 p56a rfl (inv_F hI 0 400 rfl rfl).1 (by rw [← e56, ← e_109_109]; exact n56a) (hF56.2.2.1 109 23 rfl) (hF56.1 190 rfl) (hF56.2.2.1 109 111 rfl) (fun _ => Or.inr ⟨rfl, by decide, by decide⟩)) p60 | exact pr_tr (pr_tr (b := 0) (pr_flt (hF50.1 187 rfl) (hF50.1 188 rfl) (hF50.2.2.1 109 109 rfl) (by rw [← e50]; omega)) (pr_val p56 p56a rfl (inv_F hI50 0 400 rfl rfl).1 (by rw [← e56, ← (show u_109_109 = s50.2.2.1 109 109 from fr_F e_109_109 hF50 rfl)]; exact n56a) (hF56.2.2.1 109 23 rfl) (hF56.1 190 rfl) (hF56.2.2.1 109 111 rfl) (fun h => absurd h (by rw [← e50]; omega)))) p60
          have n64b : (z60a).toInt + (z60b).toInt ≤ (u_109_109).toInt + (u_109_111).toInt + 1 := by have a0 := oa9 i36x1 ro_109_29 i29 ((inv_F hI 0 200 rfl e_109_111)) ((inv_F hI 0 400 rfl e_109_109)) ((in_c (-1) rfl)) i60b i60a i50a; omega
          have n64c : (s60.2.2.1 109 109).toInt + (s60.2.2.1 109 111).toInt ≤ (s.2.2.1 109 109).toInt + (s.2.2.1 109 111).toInt + 1 := by have b0 : z60a = s60.2.2.1 109 109 := e60; have b1 : z60b = s60.2.2.1 109 111 := e60a; first | (rw [← b0, ← b1, ← e_109_109, ← e_109_111]; exact n64b) | (rw [← b0, ← b1]; exact n64b)
          have n64d : (u_109_28).toInt = 0 → (z60a).toInt + (z60b).toInt = (u_109_109).toInt + (u_109_111).toInt := by have a0 := oa9 i36x1 ro_109_29 i29 ((inv_F hI 0 200 rfl e_109_111)) ((inv_F hI 0 400 rfl e_109_109)) ((in_c (-1) rfl)) i60b i60a i50a; omega
          have n64e : (s.2.2.1 109 28).toInt = 0 → (s60.2.2.1 109 109).toInt + (s60.2.2.1 109 111).toInt = (s.2.2.1 109 109).toInt + (s.2.2.1 109 111).toInt := by have b0 : z60a = s60.2.2.1 109 109 := e60; have b1 : z60b = s60.2.2.1 109 111 := e60a; first | (rw [← b0, ← b1, ← e_109_28, ← e_109_109, ← e_109_111]; exact n64d) | (rw [← b0, ← b1]; exact n64d)
          have n64f : (u_109_28).toInt = 0 → 1 ≤ (z50a).toInt := by have a0 := oa9 i36x1 ro_109_29 i29 ((inv_F hI 0 200 rfl e_109_111)) ((inv_F hI 0 400 rfl e_109_109)) ((in_c (-1) rfl)) i60b i60a i50a; omega
          have n64g : (s.2.2.1 109 28).toInt = 0 → 1 ≤ (s60.2.2.1 109 23).toInt := by have b0 : z50a = s60.2.2.1 109 23 := fr_F (fr_F (e50) hF56 rfl) hF60 rfl; rw [← b0, ← e_109_28]; exact n64f
          exact g_ireturn (gd rfl) rfl (nb01 (in_w 0 1 (in_c 1 rfl) rfl)) (hP _ _ ⟨s60, hI60, (fr_tr rfl (fr_tr rfl (fr_tr rfl fr_rf hF50) hF56) hF60), n64c, n64e, n64g, (Int32.ofInt 1), rfl, rfl, in_w 0 1 (in_c 1 rfl) rfl, n64, n64a⟩)
      · skip
        have i36x1 := sw_eq c36x1
        refine g_iconst 5 111 (gd rfl) rfl rfl ?_
        refine g_ireturn (gd rfl) rfl rfl (hp36 _ _ ?_)
        show GG _ _ _ _ _ _ _ _ [.int (Int32.ofInt 5)] _ _ _
        refine g_istore_n 40 (gd rfl) rfl (Nat.le_of_ble_eq_true rfl) ?_
        refine g_iload_n 41 (gd rfl) rfl rfl ?_
        refine g_if_ge 44 53 (gd rfl) rfl rfl (fun c41 => ?_) (fun c41 => ?_)
        · skip
          refine g_aload_n 54 (gd rfl) rfl rfl ?_
          refine g_iconst 1 55 (gd rfl) rfl rfl ?_
          refine g_iload_n 56 (gd rfl) rfl rfl ?_
          have n56 : (u_109_109).toInt ≤ 399 := by have a0 := oa6 i36x1 ro_109_29 i29 ((inv_F hI 0 200 rfl e_109_111)) ((inv_F hI 0 400 rfl e_109_109)) ((in_c 5 rfl)); omega
          refine g_callv (X := _) (As := [.int (Int32.ofInt 1), .int (Int32.ofInt 5)]) (r := []) (b := A 109) (q := 109) 59 (gd rfl) rfl rfl rfl rfl rfl (ww_o rfl) (Nat.le_of_ble_eq_true rfl) (Nat.zero_le _) (Nat.zero_le _) (k_393 (by first | exact dq1 hd rfl | exact dq0 hd rfl | exact dq2 hd rfl | exact dq3 hd rfl | omega) hI e_109_109 n56) (fun e u h => h) (fun v u h => ?_)
          obtain ⟨s56, hI56, hF56, n56a, rfl, rfl, p56, p56a⟩ := h
          obtain ⟨z56a, e56⟩ : ∃ w, w = s56.2.2.1 109 109 := ⟨_, rfl⟩
          have i56a := inv_F hI56 0 400 rfl e56
          rw [← (show u_109_109 = s.2.2.1 109 109 from e_109_109)] at n56a
          rw [← (show z56a = s56.2.2.1 109 109 from e56)] at n56a
          show GG _ _ _ _ _ _ _ _ [] _ _ _
          refine g_aload_n 60 (gd rfl) rfl rfl ?_
          have v60 : u_109_111 = s56.2.2.1 109 111 := fr_F (e_109_111) hF56 rfl
          have n60 : (z56a).toInt + (u_109_111).toInt ≤ 120 := by have a0 := oa7 i36x1 ro_109_29 i29 ((inv_F hI 0 200 rfl e_109_111)) ((inv_F hI 0 400 rfl e_109_109)) ((in_c 5 rfl)) i56a; omega
          refine g_callv (X := _) (As := []) (r := []) (b := A 109) (q := 109) 63 (gd rfl) rfl rfl rfl rfl rfl (ww_o rfl) (Nat.le_of_ble_eq_true rfl) (Nat.zero_le _) (Nat.zero_le _) (k_400 (by first | exact dq1 hd rfl | exact dq0 hd rfl | exact dq2 hd rfl | exact dq3 hd rfl | omega) hI56 e56 v60 n60) (fun e u h => h) (fun v u h => ?_)
          obtain ⟨s60, hI60, hF60, n60a, rfl, rfl, p60⟩ := h
          obtain ⟨z60a, e60⟩ : ∃ w, w = s60.2.2.1 109 109 := ⟨_, rfl⟩
          have i60a := inv_F hI60 0 400 rfl e60
          obtain ⟨z60b, e60a⟩ : ∃ w, w = s60.2.2.1 109 111 := ⟨_, rfl⟩
          have i60b := inv_F hI60 0 200 rfl e60a
          rw [← (show z56a = s56.2.2.1 109 109 from e56)] at n60a
          rw [← (show u_109_111 = s56.2.2.1 109 111 from fr_F (e_109_111) hF56 rfl)] at n60a
          rw [← (show z60a = s60.2.2.1 109 109 from e60)] at n60a
          rw [← (show z60b = s60.2.2.1 109 111 from e60a)] at n60a
          show GG _ _ _ _ _ _ _ _ [] _ _ _
          refine g_iconst 1 64 (gd rfl) rfl rfl ?_
          have n64 : ((Int32.ofInt 1)).toInt = 0 → PR s s60 0 0 := by exact fun h => absurd h (by decide)
          have n64a : ((Int32.ofInt 1)).toInt ≠ 0 → PR s s60 0 1 := by intro hR; first | (exact absurd rfl hR) | exact pr_tr (pr_val p15 p15a rfl (inv_F hI 0 400 rfl rfl).1 (by rw [← e15, ← e_109_109]; exact n15a) (hF15.2.2.1 109 23 rfl) (hF15.1 190 rfl) (hF15.2.2.1 109 111 rfl) (fun _ => Or.inl rfl)) p19 | exact pr_tr (pr_val p56 p56a rfl (inv_F hI 0 400 rfl rfl).1 (by rw [← e56, ← e_109_109]; exact n56a) (hF56.2.2.1 109 23 rfl) (hF56.1 190 rfl) (hF56.2.2.1 109 111 rfl) (fun _ => Or.inr ⟨rfl, by decide, by decide⟩)) p60 | exact pr_tr (pr_tr (b := 0) (pr_flt (hF50.1 187 rfl) (hF50.1 188 rfl) (hF50.2.2.1 109 109 rfl) (by rw [← e50]; omega)) (pr_val p56 p56a rfl (inv_F hI50 0 400 rfl rfl).1 (by rw [← e56, ← (show u_109_109 = s50.2.2.1 109 109 from fr_F e_109_109 hF50 rfl)]; exact n56a) (hF56.2.2.1 109 23 rfl) (hF56.1 190 rfl) (hF56.2.2.1 109 111 rfl) (fun h => absurd h (by rw [← e50]; omega)))) p60
          have n64b : (z60a).toInt + (z60b).toInt ≤ (u_109_109).toInt + (u_109_111).toInt + 1 := by have a0 := oa8 i36x1 ro_109_29 i29 ((inv_F hI 0 200 rfl e_109_111)) ((inv_F hI 0 400 rfl e_109_109)) ((in_c 5 rfl)) i60b i60a; omega
          have n64c : (s60.2.2.1 109 109).toInt + (s60.2.2.1 109 111).toInt ≤ (s.2.2.1 109 109).toInt + (s.2.2.1 109 111).toInt + 1 := by have b0 : z60a = s60.2.2.1 109 109 := e60; have b1 : z60b = s60.2.2.1 109 111 := e60a; first | (rw [← b0, ← b1, ← e_109_109, ← e_109_111]; exact n64b) | (rw [← b0, ← b1]; exact n64b)
          have n64d : (u_109_28).toInt = 0 → (z60a).toInt + (z60b).toInt = (u_109_109).toInt + (u_109_111).toInt := by have a0 := oa8 i36x1 ro_109_29 i29 ((inv_F hI 0 200 rfl e_109_111)) ((inv_F hI 0 400 rfl e_109_109)) ((in_c 5 rfl)) i60b i60a; omega
          have n64e : (s.2.2.1 109 28).toInt = 0 → (s60.2.2.1 109 109).toInt + (s60.2.2.1 109 111).toInt = (s.2.2.1 109 109).toInt + (s.2.2.1 109 111).toInt := by have b0 : z60a = s60.2.2.1 109 109 := e60; have b1 : z60b = s60.2.2.1 109 111 := e60a; first | (rw [← b0, ← b1, ← e_109_28, ← e_109_109, ← e_109_111]; exact n64d) | (rw [← b0, ← b1]; exact n64d)
          have n64f : (u_109_28).toInt = 0 → 1 ≤ ((s60.2.2.1 109 23)).toInt := by have a0 := oa9 i36x1 ro_109_29 i29 ((inv_F hI 0 200 rfl e_109_111)) ((inv_F hI 0 400 rfl e_109_109)) ((in_c 5 rfl)) i60b i60a ((show In (s60.2.2.1 109 23) 0 9 from inv_F hI60 0 9 rfl rfl)); omega
          have n64g : (s.2.2.1 109 28).toInt = 0 → 1 ≤ (s60.2.2.1 109 23).toInt := by rw [← e_109_28]; exact n64f
          exact g_ireturn (gd rfl) rfl (nb01 (in_w 0 1 (in_c 1 rfl) rfl)) (hP _ _ ⟨s60, hI60, (fr_tr rfl (fr_tr rfl fr_rf hF56) hF60), n64c, n64e, n64g, (Int32.ofInt 1), rfl, rfl, in_w 0 1 (in_c 1 rfl) rfl, n64, n64a⟩)
        · skip
          exact zn_lt c41 (in_c 5 rfl) rfl
      · skip
        have i36x1 := sw_eq c36x1
        refine g_bipush 6 114 (gd rfl) rfl rfl ?_
        refine g_ireturn (gd rfl) rfl rfl (hp36 _ _ ?_)
        show GG _ _ _ _ _ _ _ _ [.int (Int32.ofInt 6)] _ _ _
        refine g_istore_n 40 (gd rfl) rfl (Nat.le_of_ble_eq_true rfl) ?_
        refine g_iload_n 41 (gd rfl) rfl rfl ?_
        refine g_if_ge 44 53 (gd rfl) rfl rfl (fun c41 => ?_) (fun c41 => ?_)
        · skip
          refine g_aload_n 54 (gd rfl) rfl rfl ?_
          refine g_iconst 1 55 (gd rfl) rfl rfl ?_
          refine g_iload_n 56 (gd rfl) rfl rfl ?_
          have n56 : (u_109_109).toInt ≤ 399 := by have a0 := oa6 i36x1 ro_109_29 i29 ((inv_F hI 0 200 rfl e_109_111)) ((inv_F hI 0 400 rfl e_109_109)) ((in_c 6 rfl)); omega
          refine g_callv (X := _) (As := [.int (Int32.ofInt 1), .int (Int32.ofInt 6)]) (r := []) (b := A 109) (q := 109) 59 (gd rfl) rfl rfl rfl rfl rfl (ww_o rfl) (Nat.le_of_ble_eq_true rfl) (Nat.zero_le _) (Nat.zero_le _) (k_393 (by first | exact dq1 hd rfl | exact dq0 hd rfl | exact dq2 hd rfl | exact dq3 hd rfl | omega) hI e_109_109 n56) (fun e u h => h) (fun v u h => ?_)
          obtain ⟨s56, hI56, hF56, n56a, rfl, rfl, p56, p56a⟩ := h
          obtain ⟨z56a, e56⟩ : ∃ w, w = s56.2.2.1 109 109 := ⟨_, rfl⟩
          have i56a := inv_F hI56 0 400 rfl e56
          rw [← (show u_109_109 = s.2.2.1 109 109 from e_109_109)] at n56a
          rw [← (show z56a = s56.2.2.1 109 109 from e56)] at n56a
          show GG _ _ _ _ _ _ _ _ [] _ _ _
          refine g_aload_n 60 (gd rfl) rfl rfl ?_
          have v60 : u_109_111 = s56.2.2.1 109 111 := fr_F (e_109_111) hF56 rfl
          have n60 : (z56a).toInt + (u_109_111).toInt ≤ 120 := by have a0 := oa7 i36x1 ro_109_29 i29 ((inv_F hI 0 200 rfl e_109_111)) ((inv_F hI 0 400 rfl e_109_109)) ((in_c 6 rfl)) i56a; omega
          refine g_callv (X := _) (As := []) (r := []) (b := A 109) (q := 109) 63 (gd rfl) rfl rfl rfl rfl rfl (ww_o rfl) (Nat.le_of_ble_eq_true rfl) (Nat.zero_le _) (Nat.zero_le _) (k_400 (by first | exact dq1 hd rfl | exact dq0 hd rfl | exact dq2 hd rfl | exact dq3 hd rfl | omega) hI56 e56 v60 n60) (fun e u h => h) (fun v u h => ?_)
          obtain ⟨s60, hI60, hF60, n60a, rfl, rfl, p60⟩ := h
          obtain ⟨z60a, e60⟩ : ∃ w, w = s60.2.2.1 109 109 := ⟨_, rfl⟩
          have i60a := inv_F hI60 0 400 rfl e60
          obtain ⟨z60b, e60a⟩ : ∃ w, w = s60.2.2.1 109 111 := ⟨_, rfl⟩
          have i60b := inv_F hI60 0 200 rfl e60a
          rw [← (show z56a = s56.2.2.1 109 109 from e56)] at n60a
          rw [← (show u_109_111 = s56.2.2.1 109 111 from fr_F (e_109_111) hF56 rfl)] at n60a
          rw [← (show z60a = s60.2.2.1 109 109 from e60)] at n60a
          rw [← (show z60b = s60.2.2.1 109 111 from e60a)] at n60a
          show GG _ _ _ _ _ _ _ _ [] _ _ _
          refine g_iconst 1 64 (gd rfl) rfl rfl ?_
          have n64 : ((Int32.ofInt 1)).toInt = 0 → PR s s60 0 0 := by exact fun h => absurd h (by decide)
          have n64a : ((Int32.ofInt 1)).toInt ≠ 0 → PR s s60 0 1 := by intro hR; first | (exact absurd rfl hR) | exact pr_tr (pr_val p15 p15a rfl (inv_F hI 0 400 rfl rfl).1 (by rw [← e15, ← e_109_109]; exact n15a) (hF15.2.2.1 109 23 rfl) (hF15.1 190 rfl) (hF15.2.2.1 109 111 rfl) (fun _ => Or.inl rfl)) p19 | exact pr_tr (pr_val p56 p56a rfl (inv_F hI 0 400 rfl rfl).1 (by rw [← e56, ← e_109_109]; exact n56a) (hF56.2.2.1 109 23 rfl) (hF56.1 190 rfl) (hF56.2.2.1 109 111 rfl) (fun _ => Or.inr ⟨rfl, by decide, by decide⟩)) p60 | exact pr_tr (pr_tr (b := 0) (pr_flt (hF50.1 187 rfl) (hF50.1 188 rfl) (hF50.2.2.1 109 109 rfl) (by rw [← e50]; omega)) (pr_val p56 p56a rfl (inv_F hI50 0 400 rfl rfl).1 (by rw [← e56, ← (show u_109_109 = s50.2.2.1 109 109 from fr_F e_109_109 hF50 rfl)]; exact n56a) (hF56.2.2.1 109 23 rfl) (hF56.1 190 rfl) (hF56.2.2.1 109 111 rfl) (fun h => absurd h (by rw [← e50]; omega)))) p60
          have n64b : (z60a).toInt + (z60b).toInt ≤ (u_109_109).toInt + (u_109_111).toInt + 1 := by have a0 := oa8 i36x1 ro_109_29 i29 ((inv_F hI 0 200 rfl e_109_111)) ((inv_F hI 0 400 rfl e_109_109)) ((in_c 6 rfl)) i60b i60a; omega
          have n64c : (s60.2.2.1 109 109).toInt + (s60.2.2.1 109 111).toInt ≤ (s.2.2.1 109 109).toInt + (s.2.2.1 109 111).toInt + 1 := by have b0 : z60a = s60.2.2.1 109 109 := e60; have b1 : z60b = s60.2.2.1 109 111 := e60a; first | (rw [← b0, ← b1, ← e_109_109, ← e_109_111]; exact n64b) | (rw [← b0, ← b1]; exact n64b)
          have n64d : (u_109_28).toInt = 0 → (z60a).toInt + (z60b).toInt = (u_109_109).toInt + (u_109_111).toInt := by have a0 := oa8 i36x1 ro_109_29 i29 ((inv_F hI 0 200 rfl e_109_111)) ((inv_F hI 0 400 rfl e_109_109)) ((in_c 6 rfl)) i60b i60a; omega
          have n64e : (s.2.2.1 109 28).toInt = 0 → (s60.2.2.1 109 109).toInt + (s60.2.2.1 109 111).toInt = (s.2.2.1 109 109).toInt + (s.2.2.1 109 111).toInt := by have b0 : z60a = s60.2.2.1 109 109 := e60; have b1 : z60b = s60.2.2.1 109 111 := e60a; first | (rw [← b0, ← b1, ← e_109_28, ← e_109_109, ← e_109_111]; exact n64d) | (rw [← b0, ← b1]; exact n64d)
          have n64f : (u_109_28).toInt = 0 → 1 ≤ ((s60.2.2.1 109 23)).toInt := by have a0 := oa9 i36x1 ro_109_29 i29 ((inv_F hI 0 200 rfl e_109_111)) ((inv_F hI 0 400 rfl e_109_109)) ((in_c 6 rfl)) i60b i60a ((show In (s60.2.2.1 109 23) 0 9 from inv_F hI60 0 9 rfl rfl)); omega
          have n64g : (s.2.2.1 109 28).toInt = 0 → 1 ≤ (s60.2.2.1 109 23).toInt := by rw [← e_109_28]; exact n64f
          exact g_ireturn (gd rfl) rfl (nb01 (in_w 0 1 (in_c 1 rfl) rfl)) (hP _ _ ⟨s60, hI60, (fr_tr rfl (fr_tr rfl fr_rf hF56) hF60), n64c, n64e, n64g, (Int32.ofInt 1), rfl, rfl, in_w 0 1 (in_c 1 rfl) rfl, n64, n64a⟩)
        · skip
          exact zn_lt c41 (in_c 6 rfl) rfl
      · skip
        have i36x1 := sw_eq c36x1
        refine g_iconst (-1) 122 (gd rfl) rfl rfl ?_
        refine g_ireturn (gd rfl) rfl rfl (hp36 _ _ ?_)
        show GG _ _ _ _ _ _ _ _ [.int (Int32.ofInt (-1))] _ _ _
        refine g_istore_n 40 (gd rfl) rfl (Nat.le_of_ble_eq_true rfl) ?_
        refine g_iload_n 41 (gd rfl) rfl rfl ?_
        refine g_if_ge 44 53 (gd rfl) rfl rfl (fun c41 => ?_) (fun c41 => ?_)
        · skip
          exact zn_ge c41 (in_c (-1) rfl) rfl
        · skip
          refine g_aload_n 45 (gd rfl) rfl rfl ?_
          refine g_iconst 5 46 (gd rfl) rfl rfl ?_
          refine g_aload_n 47 (gd rfl) rfl rfl ?_
          refine g_getI 50 (gd rfl) rfl rfl rfl (fun z47 e47 => ?_)
          have q47 : u_109_29 = z47 := (e_109_29).trans e47.symm
          subst q47
          refine g_callv (X := _) (As := [.int (Int32.ofInt 5), .int u_109_29]) (r := []) (b := A 109) (q := 109) 53 (gd rfl) rfl rfl rfl rfl rfl (ww_o rfl) (Nat.le_of_ble_eq_true rfl) (Nat.zero_le _) (Nat.zero_le _) (k_298 (by first | exact dq1 hd rfl | exact dq0 hd rfl | exact dq2 hd rfl | exact dq3 hd rfl | omega) hI (in_w 1 5 (in_c 5 rfl) rfl)) (fun e u h => h) (fun v u h => ?_)
          obtain ⟨s50, hI50, hF50, n50, rfl, rfl⟩ := h
          obtain ⟨z50a, e50⟩ : ∃ w, w = s50.2.2.1 109 23 := ⟨_, rfl⟩
          have i50a := inv_F hI50 0 9 rfl e50
          rw [← (show z50a = s50.2.2.1 109 23 from e50)] at n50
          show GG _ _ _ _ _ _ _ _ [] _ _ _
          refine g_aload_n 54 (gd rfl) rfl rfl ?_
          refine g_iconst 1 55 (gd rfl) rfl rfl ?_
          refine g_iload_n 56 (gd rfl) rfl rfl ?_
          have v56 : u_109_109 = s50.2.2.1 109 109 := fr_F (e_109_109) hF50 rfl
          have n56 : (u_109_109).toInt ≤ 399 := by have a0 := oa7 i36x1 ro_109_29 i29 ((inv_F hI 0 200 rfl e_109_111)) ((inv_F hI 0 400 rfl e_109_109)) ((in_c (-1) rfl)) i50a; omega
          refine g_callv (X := _) (As := [.int (Int32.ofInt 1), .int (Int32.ofInt (-1))]) (r := []) (b := A 109) (q := 109) 59 (gd rfl) rfl rfl rfl rfl rfl (ww_o rfl) (Nat.le_of_ble_eq_true rfl) (Nat.zero_le _) (Nat.zero_le _) (k_393 (by first | exact dq1 hd rfl | exact dq0 hd rfl | exact dq2 hd rfl | exact dq3 hd rfl | omega) hI50 v56 n56) (fun e u h => h) (fun v u h => ?_)
          obtain ⟨s56, hI56, hF56, n56a, rfl, rfl, p56, p56a⟩ := h
          obtain ⟨z56a, e56⟩ : ∃ w, w = s56.2.2.1 109 109 := ⟨_, rfl⟩
          have i56a := inv_F hI56 0 400 rfl e56
          rw [← (show u_109_109 = s50.2.2.1 109 109 from fr_F (e_109_109) hF50 rfl)] at n56a
          rw [← (show z56a = s56.2.2.1 109 109 from e56)] at n56a
          show GG _ _ _ _ _ _ _ _ [] _ _ _
          refine g_aload_n 60 (gd rfl) rfl rfl ?_
          have v60 : u_109_111 = s56.2.2.1 109 111 := fr_F (fr_F (e_109_111) hF50 rfl) hF56 rfl
          have n60 : (z56a).toInt + (u_109_111).toInt ≤ 120 := by have a0 := oa8 i36x1 ro_109_29 i29 ((inv_F hI 0 200 rfl e_109_111)) ((inv_F hI 0 400 rfl e_109_109)) ((in_c (-1) rfl)) i56a i50a; omega
          refine g_callv (X := _) (As := []) (r := []) (b := A 109) (q := 109) 63 (gd rfl) rfl rfl rfl rfl rfl (ww_o rfl) (Nat.le_of_ble_eq_true rfl) (Nat.zero_le _) (Nat.zero_le _) (k_400 (by first | exact dq1 hd rfl | exact dq0 hd rfl | exact dq2 hd rfl | exact dq3 hd rfl | omega) hI56 e56 v60 n60) (fun e u h => h) (fun v u h => ?_)
          obtain ⟨s60, hI60, hF60, n60a, rfl, rfl, p60⟩ := h
          obtain ⟨z60a, e60⟩ : ∃ w, w = s60.2.2.1 109 109 := ⟨_, rfl⟩
          have i60a := inv_F hI60 0 400 rfl e60
          obtain ⟨z60b, e60a⟩ : ∃ w, w = s60.2.2.1 109 111 := ⟨_, rfl⟩
          have i60b := inv_F hI60 0 200 rfl e60a
          rw [← (show z56a = s56.2.2.1 109 109 from e56)] at n60a
          rw [← (show u_109_111 = s56.2.2.1 109 111 from fr_F (fr_F (e_109_111) hF50 rfl) hF56 rfl)] at n60a
          rw [← (show z60a = s60.2.2.1 109 109 from e60)] at n60a
          rw [← (show z60b = s60.2.2.1 109 111 from e60a)] at n60a
          show GG _ _ _ _ _ _ _ _ [] _ _ _
          refine g_iconst 1 64 (gd rfl) rfl rfl ?_
          have n64 : ((Int32.ofInt 1)).toInt = 0 → PR s s60 0 0 := by exact fun h => absurd h (by decide)
          have n64a : ((Int32.ofInt 1)).toInt ≠ 0 → PR s s60 0 1 := by intro hR; first | (exact absurd rfl hR) | exact pr_tr (pr_val p15 p15a rfl (inv_F hI 0 400 rfl rfl).1 (by rw [← e15, ← e_109_109]; exact n15a) (hF15.2.2.1 109 23 rfl) (hF15.1 190 rfl) (hF15.2.2.1 109 111 rfl) (fun _ => Or.inl rfl)) p19 | exact pr_tr (pr_val p56 p56a rfl (inv_F hI 0 400 rfl rfl).1 (by rw [← e56, ← e_109_109]; exact n56a) (hF56.2.2.1 109 23 rfl) (hF56.1 190 rfl) (hF56.2.2.1 109 111 rfl) (fun _ => Or.inr ⟨rfl, by decide, by decide⟩)) p60 | exact pr_tr (pr_tr (b := 0) (pr_flt (hF50.1 187 rfl) (hF50.1 188 rfl) (hF50.2.2.1 109 109 rfl) (by rw [← e50]; omega)) (pr_val p56 p56a rfl (inv_F hI50 0 400 rfl rfl).1 (by rw [← e56, ← (show u_109_109 = s50.2.2.1 109 109 from fr_F e_109_109 hF50 rfl)]; exact n56a) (hF56.2.2.1 109 23 rfl) (hF56.1 190 rfl) (hF56.2.2.1 109 111 rfl) (fun h => absurd h (by rw [← e50]; omega)))) p60
          have n64b : (z60a).toInt + (z60b).toInt ≤ (u_109_109).toInt + (u_109_111).toInt + 1 := by have a0 := oa9 i36x1 ro_109_29 i29 ((inv_F hI 0 200 rfl e_109_111)) ((inv_F hI 0 400 rfl e_109_109)) ((in_c (-1) rfl)) i60b i60a i50a; omega
          have n64c : (s60.2.2.1 109 109).toInt + (s60.2.2.1 109 111).toInt ≤ (s.2.2.1 109 109).toInt + (s.2.2.1 109 111).toInt + 1 := by have b0 : z60a = s60.2.2.1 109 109 := e60; have b1 : z60b = s60.2.2.1 109 111 := e60a; first | (rw [← b0, ← b1, ← e_109_109, ← e_109_111]; exact n64b) | (rw [← b0, ← b1]; exact n64b)
          have n64d : (u_109_28).toInt = 0 → (z60a).toInt + (z60b).toInt = (u_109_109).toInt + (u_109_111).toInt := by have a0 := oa9 i36x1 ro_109_29 i29 ((inv_F hI 0 200 rfl e_109_111)) ((inv_F hI 0 400 rfl e_109_109)) ((in_c (-1) rfl)) i60b i60a i50a; omega
          have n64e : (s.2.2.1 109 28).toInt = 0 → (s60.2.2.1 109 109).toInt + (s60.2.2.1 109 111).toInt = (s.2.2.1 109 109).toInt + (s.2.2.1 109 111).toInt := by have b0 : z60a = s60.2.2.1 109 109 := e60; have b1 : z60b = s60.2.2.1 109 111 := e60a; first | (rw [← b0, ← b1, ← e_109_28, ← e_109_109, ← e_109_111]; exact n64d) | (rw [← b0, ← b1]; exact n64d)
          have n64f : (u_109_28).toInt = 0 → 1 ≤ (z50a).toInt := by have a0 := oa9 i36x1 ro_109_29 i29 ((inv_F hI 0 200 rfl e_109_111)) ((inv_F hI 0 400 rfl e_109_109)) ((in_c (-1) rfl)) i60b i60a i50a; omega
          have n64g : (s.2.2.1 109 28).toInt = 0 → 1 ≤ (s60.2.2.1 109 23).toInt := by have b0 : z50a = s60.2.2.1 109 23 := fr_F (fr_F (e50) hF56 rfl) hF60 rfl; rw [← b0, ← e_109_28]; exact n64f
          exact g_ireturn (gd rfl) rfl (nb01 (in_w 0 1 (in_c 1 rfl) rfl)) (hP _ _ ⟨s60, hI60, (fr_tr rfl (fr_tr rfl (fr_tr rfl fr_rf hF50) hF56) hF60), n64c, n64e, n64g, (Int32.ofInt 1), rfl, rfl, in_w 0 1 (in_c 1 rfl) rfl, n64, n64a⟩)
      · skip
        have i36x1 := sw_eq c36x1
        refine g_iconst (-1) 122 (gd rfl) rfl rfl ?_
        refine g_ireturn (gd rfl) rfl rfl (hp36 _ _ ?_)
        show GG _ _ _ _ _ _ _ _ [.int (Int32.ofInt (-1))] _ _ _
        refine g_istore_n 40 (gd rfl) rfl (Nat.le_of_ble_eq_true rfl) ?_
        refine g_iload_n 41 (gd rfl) rfl rfl ?_
        refine g_if_ge 44 53 (gd rfl) rfl rfl (fun c41 => ?_) (fun c41 => ?_)
        · skip
          exact zn_ge c41 (in_c (-1) rfl) rfl
        · skip
          refine g_aload_n 45 (gd rfl) rfl rfl ?_
          refine g_iconst 5 46 (gd rfl) rfl rfl ?_
          refine g_aload_n 47 (gd rfl) rfl rfl ?_
          refine g_getI 50 (gd rfl) rfl rfl rfl (fun z47 e47 => ?_)
          have q47 : u_109_29 = z47 := (e_109_29).trans e47.symm
          subst q47
          refine g_callv (X := _) (As := [.int (Int32.ofInt 5), .int u_109_29]) (r := []) (b := A 109) (q := 109) 53 (gd rfl) rfl rfl rfl rfl rfl (ww_o rfl) (Nat.le_of_ble_eq_true rfl) (Nat.zero_le _) (Nat.zero_le _) (k_298 (by first | exact dq1 hd rfl | exact dq0 hd rfl | exact dq2 hd rfl | exact dq3 hd rfl | omega) hI (in_w 1 5 (in_c 5 rfl) rfl)) (fun e u h => h) (fun v u h => ?_)
          obtain ⟨s50, hI50, hF50, n50, rfl, rfl⟩ := h
          obtain ⟨z50a, e50⟩ : ∃ w, w = s50.2.2.1 109 23 := ⟨_, rfl⟩
          have i50a := inv_F hI50 0 9 rfl e50
          rw [← (show z50a = s50.2.2.1 109 23 from e50)] at n50
          show GG _ _ _ _ _ _ _ _ [] _ _ _
          refine g_aload_n 54 (gd rfl) rfl rfl ?_
          refine g_iconst 1 55 (gd rfl) rfl rfl ?_
          refine g_iload_n 56 (gd rfl) rfl rfl ?_
          have v56 : u_109_109 = s50.2.2.1 109 109 := fr_F (e_109_109) hF50 rfl
          have n56 : (u_109_109).toInt ≤ 399 := by have a0 := oa7 i36x1 ro_109_29 i29 ((inv_F hI 0 200 rfl e_109_111)) ((inv_F hI 0 400 rfl e_109_109)) ((in_c (-1) rfl)) i50a; omega
          refine g_callv (X := _) (As := [.int (Int32.ofInt 1), .int (Int32.ofInt (-1))]) (r := []) (b := A 109) (q := 109) 59 (gd rfl) rfl rfl rfl rfl rfl (ww_o rfl) (Nat.le_of_ble_eq_true rfl) (Nat.zero_le _) (Nat.zero_le _) (k_393 (by first | exact dq1 hd rfl | exact dq0 hd rfl | exact dq2 hd rfl | exact dq3 hd rfl | omega) hI50 v56 n56) (fun e u h => h) (fun v u h => ?_)
          obtain ⟨s56, hI56, hF56, n56a, rfl, rfl, p56, p56a⟩ := h
          obtain ⟨z56a, e56⟩ : ∃ w, w = s56.2.2.1 109 109 := ⟨_, rfl⟩
          have i56a := inv_F hI56 0 400 rfl e56
          rw [← (show u_109_109 = s50.2.2.1 109 109 from fr_F (e_109_109) hF50 rfl)] at n56a
          rw [← (show z56a = s56.2.2.1 109 109 from e56)] at n56a
          show GG _ _ _ _ _ _ _ _ [] _ _ _
          refine g_aload_n 60 (gd rfl) rfl rfl ?_
          have v60 : u_109_111 = s56.2.2.1 109 111 := fr_F (fr_F (e_109_111) hF50 rfl) hF56 rfl
          have n60 : (z56a).toInt + (u_109_111).toInt ≤ 120 := by have a0 := oa8 i36x1 ro_109_29 i29 ((inv_F hI 0 200 rfl e_109_111)) ((inv_F hI 0 400 rfl e_109_109)) ((in_c (-1) rfl)) i56a i50a; omega
          refine g_callv (X := _) (As := []) (r := []) (b := A 109) (q := 109) 63 (gd rfl) rfl rfl rfl rfl rfl (ww_o rfl) (Nat.le_of_ble_eq_true rfl) (Nat.zero_le _) (Nat.zero_le _) (k_400 (by first | exact dq1 hd rfl | exact dq0 hd rfl | exact dq2 hd rfl | exact dq3 hd rfl | omega) hI56 e56 v60 n60) (fun e u h => h) (fun v u h => ?_)
          obtain ⟨s60, hI60, hF60, n60a, rfl, rfl, p60⟩ := h
          obtain ⟨z60a, e60⟩ : ∃ w, w = s60.2.2.1 109 109 := ⟨_, rfl⟩
          have i60a := inv_F hI60 0 400 rfl e60
          obtain ⟨z60b, e60a⟩ : ∃ w, w = s60.2.2.1 109 111 := ⟨_, rfl⟩
          have i60b := inv_F hI60 0 200 rfl e60a
          rw [← (show z56a = s56.2.2.1 109 109 from e56)] at n60a
          rw [← (show u_109_111 = s56.2.2.1 109 111 from fr_F (fr_F (e_109_111) hF50 rfl) hF56 rfl)] at n60a
          rw [← (show z60a = s60.2.2.1 109 109 from e60)] at n60a
          rw [← (show z60b = s60.2.2.1 109 111 from e60a)] at n60a
          show GG _ _ _ _ _ _ _ _ [] _ _ _
          refine g_iconst 1 64 (gd rfl) rfl rfl ?_
          have n64 : ((Int32.ofInt 1)).toInt = 0 → PR s s60 0 0 := by exact fun h => absurd h (by decide)
          have n64a : ((Int32.ofInt 1)).toInt ≠ 0 → PR s s60 0 1 := by intro hR; first | (exact absurd rfl hR) | exact pr_tr (pr_val p15 p15a rfl (inv_F hI 0 400 rfl rfl).1 (by rw [← e15, ← e_109_109]; exact n15a) (hF15.2.2.1 109 23 rfl) (hF15.1 190 rfl) (hF15.2.2.1 109 111 rfl) (fun _ => Or.inl rfl)) p19 | exact pr_tr (pr_val p56 p56a rfl (inv_F hI 0 400 rfl rfl).1 (by rw [← e56, ← e_109_109]; exact n56a) (hF56.2.2.1 109 23 rfl) (hF56.1 190 rfl) (hF56.2.2.1 109 111 rfl) (fun _ => Or.inr ⟨rfl, by decide, by decide⟩)) p60 | exact pr_tr (pr_tr (b := 0) (pr_flt (hF50.1 187 rfl) (hF50.1 188 rfl) (hF50.2.2.1 109 109 rfl) (by rw [← e50]; omega)) (pr_val p56 p56a rfl (inv_F hI50 0 400 rfl rfl).1 (by rw [← e56, ← (show u_109_109 = s50.2.2.1 109 109 from fr_F e_109_109 hF50 rfl)]; exact n56a) (hF56.2.2.1 109 23 rfl) (hF56.1 190 rfl) (hF56.2.2.1 109 111 rfl) (fun h => absurd h (by rw [← e50]; omega)))) p60
          have n64b : (z60a).toInt + (z60b).toInt ≤ (u_109_109).toInt + (u_109_111).toInt + 1 := by have a0 := oa9 i36x1 ro_109_29 i29 ((inv_F hI 0 200 rfl e_109_111)) ((inv_F hI 0 400 rfl e_109_109)) ((in_c (-1) rfl)) i60b i60a i50a; omega
          have n64c : (s60.2.2.1 109 109).toInt + (s60.2.2.1 109 111).toInt ≤ (s.2.2.1 109 109).toInt + (s.2.2.1 109 111).toInt + 1 := by have b0 : z60a = s60.2.2.1 109 109 := e60; have b1 : z60b = s60.2.2.1 109 111 := e60a; first | (rw [← b0, ← b1, ← e_109_109, ← e_109_111]; exact n64b) | (rw [← b0, ← b1]; exact n64b)
          have n64d : (u_109_28).toInt = 0 → (z60a).toInt + (z60b).toInt = (u_109_109).toInt + (u_109_111).toInt := by have a0 := oa9 i36x1 ro_109_29 i29 ((inv_F hI 0 200 rfl e_109_111)) ((inv_F hI 0 400 rfl e_109_109)) ((in_c (-1) rfl)) i60b i60a i50a; omega
          have n64e : (s.2.2.1 109 28).toInt = 0 → (s60.2.2.1 109 109).toInt + (s60.2.2.1 109 111).toInt = (s.2.2.1 109 109).toInt + (s.2.2.1 109 111).toInt := by have b0 : z60a = s60.2.2.1 109 109 := e60; have b1 : z60b = s60.2.2.1 109 111 := e60a; first | (rw [← b0, ← b1, ← e_109_28, ← e_109_109, ← e_109_111]; exact n64d) | (rw [← b0, ← b1]; exact n64d)
          have n64f : (u_109_28).toInt = 0 → 1 ≤ (z50a).toInt := by have a0 := oa9 i36x1 ro_109_29 i29 ((inv_F hI 0 200 rfl e_109_111)) ((inv_F hI 0 400 rfl e_109_109)) ((in_c (-1) rfl)) i60b i60a i50a; omega
          have n64g : (s.2.2.1 109 28).toInt = 0 → 1 ≤ (s60.2.2.1 109 23).toInt := by have b0 : z50a = s60.2.2.1 109 23 := fr_F (fr_F (e50) hF56 rfl) hF60 rfl; rw [← b0, ← e_109_28]; exact n64f
          exact g_ireturn (gd rfl) rfl (nb01 (in_w 0 1 (in_c 1 rfl) rfl)) (hP _ _ ⟨s60, hI60, (fr_tr rfl (fr_tr rfl (fr_tr rfl fr_rf hF50) hF56) hF60), n64c, n64e, n64g, (Int32.ofInt 1), rfl, rfl, in_w 0 1 (in_c 1 rfl) rfl, n64, n64a⟩)
      · skip
        have i36x1 := sw_eq c36x1
        refine g_iconst (-1) 122 (gd rfl) rfl rfl ?_
        refine g_ireturn (gd rfl) rfl rfl (hp36 _ _ ?_)
        show GG _ _ _ _ _ _ _ _ [.int (Int32.ofInt (-1))] _ _ _
        refine g_istore_n 40 (gd rfl) rfl (Nat.le_of_ble_eq_true rfl) ?_
        refine g_iload_n 41 (gd rfl) rfl rfl ?_
        refine g_if_ge 44 53 (gd rfl) rfl rfl (fun c41 => ?_) (fun c41 => ?_)
        · skip
          exact zn_ge c41 (in_c (-1) rfl) rfl
        · skip
          refine g_aload_n 45 (gd rfl) rfl rfl ?_
          refine g_iconst 5 46 (gd rfl) rfl rfl ?_
          refine g_aload_n 47 (gd rfl) rfl rfl ?_
          refine g_getI 50 (gd rfl) rfl rfl rfl (fun z47 e47 => ?_)
          have q47 : u_109_29 = z47 := (e_109_29).trans e47.symm
          subst q47
          refine g_callv (X := _) (As := [.int (Int32.ofInt 5), .int u_109_29]) (r := []) (b := A 109) (q := 109) 53 (gd rfl) rfl rfl rfl rfl rfl (ww_o rfl) (Nat.le_of_ble_eq_true rfl) (Nat.zero_le _) (Nat.zero_le _) (k_298 (by first | exact dq1 hd rfl | exact dq0 hd rfl | exact dq2 hd rfl | exact dq3 hd rfl | omega) hI (in_w 1 5 (in_c 5 rfl) rfl)) (fun e u h => h) (fun v u h => ?_)
          obtain ⟨s50, hI50, hF50, n50, rfl, rfl⟩ := h
          obtain ⟨z50a, e50⟩ : ∃ w, w = s50.2.2.1 109 23 := ⟨_, rfl⟩
          have i50a := inv_F hI50 0 9 rfl e50
          rw [← (show z50a = s50.2.2.1 109 23 from e50)] at n50
          show GG _ _ _ _ _ _ _ _ [] _ _ _
          refine g_aload_n 54 (gd rfl) rfl rfl ?_
          refine g_iconst 1 55 (gd rfl) rfl rfl ?_
          refine g_iload_n 56 (gd rfl) rfl rfl ?_
          have v56 : u_109_109 = s50.2.2.1 109 109 := fr_F (e_109_109) hF50 rfl
          have n56 : (u_109_109).toInt ≤ 399 := by have a0 := oa7 i36x1 ro_109_29 i29 ((inv_F hI 0 200 rfl e_109_111)) ((inv_F hI 0 400 rfl e_109_109)) ((in_c (-1) rfl)) i50a; omega
          refine g_callv (X := _) (As := [.int (Int32.ofInt 1), .int (Int32.ofInt (-1))]) (r := []) (b := A 109) (q := 109) 59 (gd rfl) rfl rfl rfl rfl rfl (ww_o rfl) (Nat.le_of_ble_eq_true rfl) (Nat.zero_le _) (Nat.zero_le _) (k_393 (by first | exact dq1 hd rfl | exact dq0 hd rfl | exact dq2 hd rfl | exact dq3 hd rfl | omega) hI50 v56 n56) (fun e u h => h) (fun v u h => ?_)
          obtain ⟨s56, hI56, hF56, n56a, rfl, rfl, p56, p56a⟩ := h
          obtain ⟨z56a, e56⟩ : ∃ w, w = s56.2.2.1 109 109 := ⟨_, rfl⟩
          have i56a := inv_F hI56 0 400 rfl e56
          rw [← (show u_109_109 = s50.2.2.1 109 109 from fr_F (e_109_109) hF50 rfl)] at n56a
          rw [← (show z56a = s56.2.2.1 109 109 from e56)] at n56a
          show GG _ _ _ _ _ _ _ _ [] _ _ _
          refine g_aload_n 60 (gd rfl) rfl rfl ?_
          have v60 : u_109_111 = s56.2.2.1 109 111 := fr_F (fr_F (e_109_111) hF50 rfl) hF56 rfl
          have n60 : (z56a).toInt + (u_109_111).toInt ≤ 120 := by have a0 := oa8 i36x1 ro_109_29 i29 ((inv_F hI 0 200 rfl e_109_111)) ((inv_F hI 0 400 rfl e_109_109)) ((in_c (-1) rfl)) i56a i50a; omega
          refine g_callv (X := _) (As := []) (r := []) (b := A 109) (q := 109) 63 (gd rfl) rfl rfl rfl rfl rfl (ww_o rfl) (Nat.le_of_ble_eq_true rfl) (Nat.zero_le _) (Nat.zero_le _) (k_400 (by first | exact dq1 hd rfl | exact dq0 hd rfl | exact dq2 hd rfl | exact dq3 hd rfl | omega) hI56 e56 v60 n60) (fun e u h => h) (fun v u h => ?_)
          obtain ⟨s60, hI60, hF60, n60a, rfl, rfl, p60⟩ := h
          obtain ⟨z60a, e60⟩ : ∃ w, w = s60.2.2.1 109 109 := ⟨_, rfl⟩
          have i60a := inv_F hI60 0 400 rfl e60
          obtain ⟨z60b, e60a⟩ : ∃ w, w = s60.2.2.1 109 111 := ⟨_, rfl⟩
          have i60b := inv_F hI60 0 200 rfl e60a
          rw [← (show z56a = s56.2.2.1 109 109 from e56)] at n60a
          rw [← (show u_109_111 = s56.2.2.1 109 111 from fr_F (fr_F (e_109_111) hF50 rfl) hF56 rfl)] at n60a
          rw [← (show z60a = s60.2.2.1 109 109 from e60)] at n60a
          rw [← (show z60b = s60.2.2.1 109 111 from e60a)] at n60a
          show GG _ _ _ _ _ _ _ _ [] _ _ _
          refine g_iconst 1 64 (gd rfl) rfl rfl ?_
          have n64 : ((Int32.ofInt 1)).toInt = 0 → PR s s60 0 0 := by exact fun h => absurd h (by decide)
          have n64a : ((Int32.ofInt 1)).toInt ≠ 0 → PR s s60 0 1 := by intro hR; first | (exact absurd rfl hR) | exact pr_tr (pr_val p15 p15a rfl (inv_F hI 0 400 rfl rfl).1 (by rw [← e15, ← e_109_109]; exact n15a) (hF15.2.2.1 109 23 rfl) (hF15.1 190 rfl) (hF15.2.2.1 109 111 rfl) (fun _ => Or.inl rfl)) p19 | exact pr_tr (pr_val p56 p56a rfl (inv_F hI 0 400 rfl rfl).1 (by rw [← e56, ← e_109_109]; exact n56a) (hF56.2.2.1 109 23 rfl) (hF56.1 190 rfl) (hF56.2.2.1 109 111 rfl) (fun _ => Or.inr ⟨rfl, by decide, by decide⟩)) p60 | exact pr_tr (pr_tr (b := 0) (pr_flt (hF50.1 187 rfl) (hF50.1 188 rfl) (hF50.2.2.1 109 109 rfl) (by rw [← e50]; omega)) (pr_val p56 p56a rfl (inv_F hI50 0 400 rfl rfl).1 (by rw [← e56, ← (show u_109_109 = s50.2.2.1 109 109 from fr_F e_109_109 hF50 rfl)]; exact n56a) (hF56.2.2.1 109 23 rfl) (hF56.1 190 rfl) (hF56.2.2.1 109 111 rfl) (fun h => absurd h (by rw [← e50]; omega)))) p60
          have n64b : (z60a).toInt + (z60b).toInt ≤ (u_109_109).toInt + (u_109_111).toInt + 1 := by have a0 := oa9 i36x1 ro_109_29 i29 ((inv_F hI 0 200 rfl e_109_111)) ((inv_F hI 0 400 rfl e_109_109)) ((in_c (-1) rfl)) i60b i60a i50a; omega
          have n64c : (s60.2.2.1 109 109).toInt + (s60.2.2.1 109 111).toInt ≤ (s.2.2.1 109 109).toInt + (s.2.2.1 109 111).toInt + 1 := by have b0 : z60a = s60.2.2.1 109 109 := e60; have b1 : z60b = s60.2.2.1 109 111 := e60a; first | (rw [← b0, ← b1, ← e_109_109, ← e_109_111]; exact n64b) | (rw [← b0, ← b1]; exact n64b)
          have n64d : (u_109_28).toInt = 0 → (z60a).toInt + (z60b).toInt = (u_109_109).toInt + (u_109_111).toInt := by have a0 := oa9 i36x1 ro_109_29 i29 ((inv_F hI 0 200 rfl e_109_111)) ((inv_F hI 0 400 rfl e_109_109)) ((in_c (-1) rfl)) i60b i60a i50a; omega
          have n64e : (s.2.2.1 109 28).toInt = 0 → (s60.2.2.1 109 109).toInt + (s60.2.2.1 109 111).toInt = (s.2.2.1 109 109).toInt + (s.2.2.1 109 111).toInt := by have b0 : z60a = s60.2.2.1 109 109 := e60; have b1 : z60b = s60.2.2.1 109 111 := e60a; first | (rw [← b0, ← b1, ← e_109_28, ← e_109_109, ← e_109_111]; exact n64d) | (rw [← b0, ← b1]; exact n64d)
          have n64f : (u_109_28).toInt = 0 → 1 ≤ (z50a).toInt := by have a0 := oa9 i36x1 ro_109_29 i29 ((inv_F hI 0 200 rfl e_109_111)) ((inv_F hI 0 400 rfl e_109_109)) ((in_c (-1) rfl)) i60b i60a i50a; omega
          have n64g : (s.2.2.1 109 28).toInt = 0 → 1 ≤ (s60.2.2.1 109 23).toInt := by have b0 : z50a = s60.2.2.1 109 23 := fr_F (fr_F (e50) hF56 rfl) hF60 rfl; rw [← b0, ← e_109_28]; exact n64f
          exact g_ireturn (gd rfl) rfl (nb01 (in_w 0 1 (in_c 1 rfl) rfl)) (hP _ _ ⟨s60, hI60, (fr_tr rfl (fr_tr rfl (fr_tr rfl fr_rf hF50) hF56) hF60), n64c, n64e, n64g, (Int32.ofInt 1), rfl, rfl, in_w 0 1 (in_c 1 rfl) rfl, n64, n64a⟩)
      · skip
        have i36x1 := sw_eq c36x1
        refine g_iconst (-1) 122 (gd rfl) rfl rfl ?_
        refine g_ireturn (gd rfl) rfl rfl (hp36 _ _ ?_)
        show GG _ _ _ _ _ _ _ _ [.int (Int32.ofInt (-1))] _ _ _
        refine g_istore_n 40 (gd rfl) rfl (Nat.le_of_ble_eq_true rfl) ?_
        refine g_iload_n 41 (gd rfl) rfl rfl ?_
        refine g_if_ge 44 53 (gd rfl) rfl rfl (fun c41 => ?_) (fun c41 => ?_)
        · skip
          exact zn_ge c41 (in_c (-1) rfl) rfl
        · skip
          refine g_aload_n 45 (gd rfl) rfl rfl ?_
          refine g_iconst 5 46 (gd rfl) rfl rfl ?_
          refine g_aload_n 47 (gd rfl) rfl rfl ?_
          refine g_getI 50 (gd rfl) rfl rfl rfl (fun z47 e47 => ?_)
          have q47 : u_109_29 = z47 := (e_109_29).trans e47.symm
          subst q47
          refine g_callv (X := _) (As := [.int (Int32.ofInt 5), .int u_109_29]) (r := []) (b := A 109) (q := 109) 53 (gd rfl) rfl rfl rfl rfl rfl (ww_o rfl) (Nat.le_of_ble_eq_true rfl) (Nat.zero_le _) (Nat.zero_le _) (k_298 (by first | exact dq1 hd rfl | exact dq0 hd rfl | exact dq2 hd rfl | exact dq3 hd rfl | omega) hI (in_w 1 5 (in_c 5 rfl) rfl)) (fun e u h => h) (fun v u h => ?_)
          obtain ⟨s50, hI50, hF50, n50, rfl, rfl⟩ := h
          obtain ⟨z50a, e50⟩ : ∃ w, w = s50.2.2.1 109 23 := ⟨_, rfl⟩
          have i50a := inv_F hI50 0 9 rfl e50
          rw [← (show z50a = s50.2.2.1 109 23 from e50)] at n50
          show GG _ _ _ _ _ _ _ _ [] _ _ _
          refine g_aload_n 54 (gd rfl) rfl rfl ?_
          refine g_iconst 1 55 (gd rfl) rfl rfl ?_
          refine g_iload_n 56 (gd rfl) rfl rfl ?_
          have v56 : u_109_109 = s50.2.2.1 109 109 := fr_F (e_109_109) hF50 rfl
          have n56 : (u_109_109).toInt ≤ 399 := by have a0 := oa7 i36x1 ro_109_29 i29 ((inv_F hI 0 200 rfl e_109_111)) ((inv_F hI 0 400 rfl e_109_109)) ((in_c (-1) rfl)) i50a; omega
          refine g_callv (X := _) (As := [.int (Int32.ofInt 1), .int (Int32.ofInt (-1))]) (r := []) (b := A 109) (q := 109) 59 (gd rfl) rfl rfl rfl rfl rfl (ww_o rfl) (Nat.le_of_ble_eq_true rfl) (Nat.zero_le _) (Nat.zero_le _) (k_393 (by first | exact dq1 hd rfl | exact dq0 hd rfl | exact dq2 hd rfl | exact dq3 hd rfl | omega) hI50 v56 n56) (fun e u h => h) (fun v u h => ?_)
          obtain ⟨s56, hI56, hF56, n56a, rfl, rfl, p56, p56a⟩ := h
          obtain ⟨z56a, e56⟩ : ∃ w, w = s56.2.2.1 109 109 := ⟨_, rfl⟩
          have i56a := inv_F hI56 0 400 rfl e56
          rw [← (show u_109_109 = s50.2.2.1 109 109 from fr_F (e_109_109) hF50 rfl)] at n56a
          rw [← (show z56a = s56.2.2.1 109 109 from e56)] at n56a
          show GG _ _ _ _ _ _ _ _ [] _ _ _
          refine g_aload_n 60 (gd rfl) rfl rfl ?_
          have v60 : u_109_111 = s56.2.2.1 109 111 := fr_F (fr_F (e_109_111) hF50 rfl) hF56 rfl
          have n60 : (z56a).toInt + (u_109_111).toInt ≤ 120 := by have a0 := oa8 i36x1 ro_109_29 i29 ((inv_F hI 0 200 rfl e_109_111)) ((inv_F hI 0 400 rfl e_109_109)) ((in_c (-1) rfl)) i56a i50a; omega
          refine g_callv (X := _) (As := []) (r := []) (b := A 109) (q := 109) 63 (gd rfl) rfl rfl rfl rfl rfl (ww_o rfl) (Nat.le_of_ble_eq_true rfl) (Nat.zero_le _) (Nat.zero_le _) (k_400 (by first | exact dq1 hd rfl | exact dq0 hd rfl | exact dq2 hd rfl | exact dq3 hd rfl | omega) hI56 e56 v60 n60) (fun e u h => h) (fun v u h => ?_)
          obtain ⟨s60, hI60, hF60, n60a, rfl, rfl, p60⟩ := h
          obtain ⟨z60a, e60⟩ : ∃ w, w = s60.2.2.1 109 109 := ⟨_, rfl⟩
          have i60a := inv_F hI60 0 400 rfl e60
          obtain ⟨z60b, e60a⟩ : ∃ w, w = s60.2.2.1 109 111 := ⟨_, rfl⟩
          have i60b := inv_F hI60 0 200 rfl e60a
          rw [← (show z56a = s56.2.2.1 109 109 from e56)] at n60a
          rw [← (show u_109_111 = s56.2.2.1 109 111 from fr_F (fr_F (e_109_111) hF50 rfl) hF56 rfl)] at n60a
          rw [← (show z60a = s60.2.2.1 109 109 from e60)] at n60a
          rw [← (show z60b = s60.2.2.1 109 111 from e60a)] at n60a
          show GG _ _ _ _ _ _ _ _ [] _ _ _
          refine g_iconst 1 64 (gd rfl) rfl rfl ?_
          have n64 : ((Int32.ofInt 1)).toInt = 0 → PR s s60 0 0 := by exact fun h => absurd h (by decide)
          have n64a : ((Int32.ofInt 1)).toInt ≠ 0 → PR s s60 0 1 := by intro hR; first | (exact absurd rfl hR) | exact pr_tr (pr_val p15 p15a rfl (inv_F hI 0 400 rfl rfl).1 (by rw [← e15, ← e_109_109]; exact n15a) (hF15.2.2.1 109 23 rfl) (hF15.1 190 rfl) (hF15.2.2.1 109 111 rfl) (fun _ => Or.inl rfl)) p19 | exact pr_tr (pr_val p56 p56a rfl (inv_F hI 0 400 rfl rfl).1 (by rw [← e56, ← e_109_109]; exact n56a) (hF56.2.2.1 109 23 rfl) (hF56.1 190 rfl) (hF56.2.2.1 109 111 rfl) (fun _ => Or.inr ⟨rfl, by decide, by decide⟩)) p60 | exact pr_tr (pr_tr (b := 0) (pr_flt (hF50.1 187 rfl) (hF50.1 188 rfl) (hF50.2.2.1 109 109 rfl) (by rw [← e50]; omega)) (pr_val p56 p56a rfl (inv_F hI50 0 400 rfl rfl).1 (by rw [← e56, ← (show u_109_109 = s50.2.2.1 109 109 from fr_F e_109_109 hF50 rfl)]; exact n56a) (hF56.2.2.1 109 23 rfl) (hF56.1 190 rfl) (hF56.2.2.1 109 111 rfl) (fun h => absurd h (by rw [← e50]; omega)))) p60
          have n64b : (z60a).toInt + (z60b).toInt ≤ (u_109_109).toInt + (u_109_111).toInt + 1 := by have a0 := oa9 i36x1 ro_109_29 i29 ((inv_F hI 0 200 rfl e_109_111)) ((inv_F hI 0 400 rfl e_109_109)) ((in_c (-1) rfl)) i60b i60a i50a; omega
          have n64c : (s60.2.2.1 109 109).toInt + (s60.2.2.1 109 111).toInt ≤ (s.2.2.1 109 109).toInt + (s.2.2.1 109 111).toInt + 1 := by have b0 : z60a = s60.2.2.1 109 109 := e60; have b1 : z60b = s60.2.2.1 109 111 := e60a; first | (rw [← b0, ← b1, ← e_109_109, ← e_109_111]; exact n64b) | (rw [← b0, ← b1]; exact n64b)
          have n64d : (u_109_28).toInt = 0 → (z60a).toInt + (z60b).toInt = (u_109_109).toInt + (u_109_111).toInt := by have a0 := oa9 i36x1 ro_109_29 i29 ((inv_F hI 0 200 rfl e_109_111)) ((inv_F hI 0 400 rfl e_109_109)) ((in_c (-1) rfl)) i60b i60a i50a; omega
          have n64e : (s.2.2.1 109 28).toInt = 0 → (s60.2.2.1 109 109).toInt + (s60.2.2.1 109 111).toInt = (s.2.2.1 109 109).toInt + (s.2.2.1 109 111).toInt := by have b0 : z60a = s60.2.2.1 109 109 := e60; have b1 : z60b = s60.2.2.1 109 111 := e60a; first | (rw [← b0, ← b1, ← e_109_28, ← e_109_109, ← e_109_111]; exact n64d) | (rw [← b0, ← b1]; exact n64d)
          have n64f : (u_109_28).toInt = 0 → 1 ≤ (z50a).toInt := by have a0 := oa9 i36x1 ro_109_29 i29 ((inv_F hI 0 200 rfl e_109_111)) ((inv_F hI 0 400 rfl e_109_109)) ((in_c (-1) rfl)) i60b i60a i50a; omega
          have n64g : (s.2.2.1 109 28).toInt = 0 → 1 ≤ (s60.2.2.1 109 23).toInt := by have b0 : z50a = s60.2.2.1 109 23 := fr_F (fr_F (e50) hF56 rfl) hF60 rfl; rw [← b0, ← e_109_28]; exact n64f
          exact g_ireturn (gd rfl) rfl (nb01 (in_w 0 1 (in_c 1 rfl) rfl)) (hP _ _ ⟨s60, hI60, (fr_tr rfl (fr_tr rfl (fr_tr rfl fr_rf hF50) hF56) hF60), n64c, n64e, n64g, (Int32.ofInt 1), rfl, rfl, in_w 0 1 (in_c 1 rfl) rfl, n64, n64a⟩)
      · skip
        have i36x1 := sw_eq c36x1
        refine g_iconst 0 101 (gd rfl) rfl rfl ?_
        refine g_ireturn (gd rfl) rfl rfl (hp36 _ _ ?_)
        show GG _ _ _ _ _ _ _ _ [.int (Int32.ofInt 0)] _ _ _
        refine g_istore_n 40 (gd rfl) rfl (Nat.le_of_ble_eq_true rfl) ?_
        refine g_iload_n 41 (gd rfl) rfl rfl ?_
        refine g_if_ge 44 53 (gd rfl) rfl rfl (fun c41 => ?_) (fun c41 => ?_)
        · skip
          refine g_aload_n 54 (gd rfl) rfl rfl ?_
          refine g_iconst 1 55 (gd rfl) rfl rfl ?_
          refine g_iload_n 56 (gd rfl) rfl rfl ?_
          have n56 : (u_109_109).toInt ≤ 399 := by have a0 := oa6 i36x1 ro_109_29 i29 ((inv_F hI 0 200 rfl e_109_111)) ((inv_F hI 0 400 rfl e_109_109)) ((in_c 0 rfl)); omega
          refine g_callv (X := _) (As := [.int (Int32.ofInt 1), .int (Int32.ofInt 0)]) (r := []) (b := A 109) (q := 109) 59 (gd rfl) rfl rfl rfl rfl rfl (ww_o rfl) (Nat.le_of_ble_eq_true rfl) (Nat.zero_le _) (Nat.zero_le _) (k_393 (by first | exact dq1 hd rfl | exact dq0 hd rfl | exact dq2 hd rfl | exact dq3 hd rfl | omega) hI e_109_109 n56) (fun e u h => h) (fun v u h => ?_)
          obtain ⟨s56, hI56, hF56, n56a, rfl, rfl, p56, p56a⟩ := h
          obtain ⟨z56a, e56⟩ : ∃ w, w = s56.2.2.1 109 109 := ⟨_, rfl⟩
          have i56a := inv_F hI56 0 400 rfl e56
          rw [← (show u_109_109 = s.2.2.1 109 109 from e_109_109)] at n56a
          rw [← (show z56a = s56.2.2.1 109 109 from e56)] at n56a
          show GG _ _ _ _ _ _ _ _ [] _ _ _
          refine g_aload_n 60 (gd rfl) rfl rfl ?_
          have v60 : u_109_111 = s56.2.2.1 109 111 := fr_F (e_109_111) hF56 rfl
          have n60 : (z56a).toInt + (u_109_111).toInt ≤ 120 := by have a0 := oa7 i36x1 ro_109_29 i29 ((inv_F hI 0 200 rfl e_109_111)) ((inv_F hI 0 400 rfl e_109_109)) ((in_c 0 rfl)) i56a; omega
          refine g_callv (X := _) (As := []) (r := []) (b := A 109) (q := 109) 63 (gd rfl) rfl rfl rfl rfl rfl (ww_o rfl) (Nat.le_of_ble_eq_true rfl) (Nat.zero_le _) (Nat.zero_le _) (k_400 (by first | exact dq1 hd rfl | exact dq0 hd rfl | exact dq2 hd rfl | exact dq3 hd rfl | omega) hI56 e56 v60 n60) (fun e u h => h) (fun v u h => ?_)
          obtain ⟨s60, hI60, hF60, n60a, rfl, rfl, p60⟩ := h
          obtain ⟨z60a, e60⟩ : ∃ w, w = s60.2.2.1 109 109 := ⟨_, rfl⟩
          have i60a := inv_F hI60 0 400 rfl e60
          obtain ⟨z60b, e60a⟩ : ∃ w, w = s60.2.2.1 109 111 := ⟨_, rfl⟩
          have i60b := inv_F hI60 0 200 rfl e60a
          rw [← (show z56a = s56.2.2.1 109 109 from e56)] at n60a
          rw [← (show u_109_111 = s56.2.2.1 109 111 from fr_F (e_109_111) hF56 rfl)] at n60a
          rw [← (show z60a = s60.2.2.1 109 109 from e60)] at n60a
          rw [← (show z60b = s60.2.2.1 109 111 from e60a)] at n60a
          show GG _ _ _ _ _ _ _ _ [] _ _ _
          refine g_iconst 1 64 (gd rfl) rfl rfl ?_
          have n64 : ((Int32.ofInt 1)).toInt = 0 → PR s s60 0 0 := by exact fun h => absurd h (by decide)
          have n64a : ((Int32.ofInt 1)).toInt ≠ 0 → PR s s60 0 1 := by intro hR; first | (exact absurd rfl hR) | exact pr_tr (pr_val p15 p15a rfl (inv_F hI 0 400 rfl rfl).1 (by rw [← e15, ← e_109_109]; exact n15a) (hF15.2.2.1 109 23 rfl) (hF15.1 190 rfl) (hF15.2.2.1 109 111 rfl) (fun _ => Or.inl rfl)) p19 | exact pr_tr (pr_val p56 p56a rfl (inv_F hI 0 400 rfl rfl).1 (by rw [← e56, ← e_109_109]; exact n56a) (hF56.2.2.1 109 23 rfl) (hF56.1 190 rfl) (hF56.2.2.1 109 111 rfl) (fun _ => Or.inr ⟨rfl, by decide, by decide⟩)) p60 | exact pr_tr (pr_tr (b := 0) (pr_flt (hF50.1 187 rfl) (hF50.1 188 rfl) (hF50.2.2.1 109 109 rfl) (by rw [← e50]; omega)) (pr_val p56 p56a rfl (inv_F hI50 0 400 rfl rfl).1 (by rw [← e56, ← (show u_109_109 = s50.2.2.1 109 109 from fr_F e_109_109 hF50 rfl)]; exact n56a) (hF56.2.2.1 109 23 rfl) (hF56.1 190 rfl) (hF56.2.2.1 109 111 rfl) (fun h => absurd h (by rw [← e50]; omega)))) p60
          have n64b : (z60a).toInt + (z60b).toInt ≤ (u_109_109).toInt + (u_109_111).toInt + 1 := by have a0 := oa8 i36x1 ro_109_29 i29 ((inv_F hI 0 200 rfl e_109_111)) ((inv_F hI 0 400 rfl e_109_109)) ((in_c 0 rfl)) i60b i60a; omega
          have n64c : (s60.2.2.1 109 109).toInt + (s60.2.2.1 109 111).toInt ≤ (s.2.2.1 109 109).toInt + (s.2.2.1 109 111).toInt + 1 := by have b0 : z60a = s60.2.2.1 109 109 := e60; have b1 : z60b = s60.2.2.1 109 111 := e60a; first | (rw [← b0, ← b1, ← e_109_109, ← e_109_111]; exact n64b) | (rw [← b0, ← b1]; exact n64b)
          have n64d : (u_109_28).toInt = 0 → (z60a).toInt + (z60b).toInt = (u_109_109).toInt + (u_109_111).toInt := by have a0 := oa8 i36x1 ro_109_29 i29 ((inv_F hI 0 200 rfl e_109_111)) ((inv_F hI 0 400 rfl e_109_109)) ((in_c 0 rfl)) i60b i60a; omega
          have n64e : (s.2.2.1 109 28).toInt = 0 → (s60.2.2.1 109 109).toInt + (s60.2.2.1 109 111).toInt = (s.2.2.1 109 109).toInt + (s.2.2.1 109 111).toInt := by have b0 : z60a = s60.2.2.1 109 109 := e60; have b1 : z60b = s60.2.2.1 109 111 := e60a; first | (rw [← b0, ← b1, ← e_109_28, ← e_109_109, ← e_109_111]; exact n64d) | (rw [← b0, ← b1]; exact n64d)
          have n64f : (u_109_28).toInt = 0 → 1 ≤ ((s60.2.2.1 109 23)).toInt := by have a0 := oa9 i36x1 ro_109_29 i29 ((inv_F hI 0 200 rfl e_109_111)) ((inv_F hI 0 400 rfl e_109_109)) ((in_c 0 rfl)) i60b i60a ((show In (s60.2.2.1 109 23) 0 9 from inv_F hI60 0 9 rfl rfl)); omega
          have n64g : (s.2.2.1 109 28).toInt = 0 → 1 ≤ (s60.2.2.1 109 23).toInt := by rw [← e_109_28]; exact n64f
          exact g_ireturn (gd rfl) rfl (nb01 (in_w 0 1 (in_c 1 rfl) rfl)) (hP _ _ ⟨s60, hI60, (fr_tr rfl (fr_tr rfl fr_rf hF56) hF60), n64c, n64e, n64g, (Int32.ofInt 1), rfl, rfl, in_w 0 1 (in_c 1 rfl) rfl, n64, n64a⟩)
        · skip
          exact zn_lt c41 (in_c 0 rfl) rfl
      · skip
        refine g_iconst (-1) 122 (gd rfl) rfl rfl ?_
        refine g_ireturn (gd rfl) rfl rfl (hp36 _ _ ?_)
        show GG _ _ _ _ _ _ _ _ [.int (Int32.ofInt (-1))] _ _ _
        refine g_istore_n 40 (gd rfl) rfl (Nat.le_of_ble_eq_true rfl) ?_
        refine g_iload_n 41 (gd rfl) rfl rfl ?_
        refine g_if_ge 44 53 (gd rfl) rfl rfl (fun c41 => ?_) (fun c41 => ?_)
        · skip
          exact zn_ge c41 (in_c (-1) rfl) rfl
        · skip
          refine g_aload_n 45 (gd rfl) rfl rfl ?_
          refine g_iconst 5 46 (gd rfl) rfl rfl ?_
          refine g_aload_n 47 (gd rfl) rfl rfl ?_
          refine g_getI 50 (gd rfl) rfl rfl rfl (fun z47 e47 => ?_)
          have q47 : u_109_29 = z47 := (e_109_29).trans e47.symm
          subst q47
          refine g_callv (X := _) (As := [.int (Int32.ofInt 5), .int u_109_29]) (r := []) (b := A 109) (q := 109) 53 (gd rfl) rfl rfl rfl rfl rfl (ww_o rfl) (Nat.le_of_ble_eq_true rfl) (Nat.zero_le _) (Nat.zero_le _) (k_298 (by first | exact dq1 hd rfl | exact dq0 hd rfl | exact dq2 hd rfl | exact dq3 hd rfl | omega) hI (in_w 1 5 (in_c 5 rfl) rfl)) (fun e u h => h) (fun v u h => ?_)
          obtain ⟨s50, hI50, hF50, n50, rfl, rfl⟩ := h
          obtain ⟨z50a, e50⟩ : ∃ w, w = s50.2.2.1 109 23 := ⟨_, rfl⟩
          have i50a := inv_F hI50 0 9 rfl e50
          rw [← (show z50a = s50.2.2.1 109 23 from e50)] at n50
          show GG _ _ _ _ _ _ _ _ [] _ _ _
          refine g_aload_n 54 (gd rfl) rfl rfl ?_
          refine g_iconst 1 55 (gd rfl) rfl rfl ?_
          refine g_iload_n 56 (gd rfl) rfl rfl ?_
          have v56 : u_109_109 = s50.2.2.1 109 109 := fr_F (e_109_109) hF50 rfl
          have n56 : (u_109_109).toInt ≤ 399 := by have a0 := oa6 ro_109_29 i29 ((inv_F hI 0 200 rfl e_109_111)) ((inv_F hI 0 400 rfl e_109_109)) ((in_c (-1) rfl)) i50a; omega
          refine g_callv (X := _) (As := [.int (Int32.ofInt 1), .int (Int32.ofInt (-1))]) (r := []) (b := A 109) (q := 109) 59 (gd rfl) rfl rfl rfl rfl rfl (ww_o rfl) (Nat.le_of_ble_eq_true rfl) (Nat.zero_le _) (Nat.zero_le _) (k_393 (by first | exact dq1 hd rfl | exact dq0 hd rfl | exact dq2 hd rfl | exact dq3 hd rfl | omega) hI50 v56 n56) (fun e u h => h) (fun v u h => ?_)
          obtain ⟨s56, hI56, hF56, n56a, rfl, rfl, p56, p56a⟩ := h
          obtain ⟨z56a, e56⟩ : ∃ w, w = s56.2.2.1 109 109 := ⟨_, rfl⟩
          have i56a := inv_F hI56 0 400 rfl e56
          rw [← (show u_109_109 = s50.2.2.1 109 109 from fr_F (e_109_109) hF50 rfl)] at n56a
          rw [← (show z56a = s56.2.2.1 109 109 from e56)] at n56a
          show GG _ _ _ _ _ _ _ _ [] _ _ _
          refine g_aload_n 60 (gd rfl) rfl rfl ?_
          have v60 : u_109_111 = s56.2.2.1 109 111 := fr_F (fr_F (e_109_111) hF50 rfl) hF56 rfl
          have n60 : (z56a).toInt + (u_109_111).toInt ≤ 120 := by have a0 := oa7 ro_109_29 i29 ((inv_F hI 0 200 rfl e_109_111)) ((inv_F hI 0 400 rfl e_109_109)) ((in_c (-1) rfl)) i56a i50a; omega
          refine g_callv (X := _) (As := []) (r := []) (b := A 109) (q := 109) 63 (gd rfl) rfl rfl rfl rfl rfl (ww_o rfl) (Nat.le_of_ble_eq_true rfl) (Nat.zero_le _) (Nat.zero_le _) (k_400 (by first | exact dq1 hd rfl | exact dq0 hd rfl | exact dq2 hd rfl | exact dq3 hd rfl | omega) hI56 e56 v60 n60) (fun e u h => h) (fun v u h => ?_)
          obtain ⟨s60, hI60, hF60, n60a, rfl, rfl, p60⟩ := h
          obtain ⟨z60a, e60⟩ : ∃ w, w = s60.2.2.1 109 109 := ⟨_, rfl⟩
          have i60a := inv_F hI60 0 400 rfl e60
          obtain ⟨z60b, e60a⟩ : ∃ w, w = s60.2.2.1 109 111 := ⟨_, rfl⟩
          have i60b := inv_F hI60 0 200 rfl e60a
          rw [← (show z56a = s56.2.2.1 109 109 from e56)] at n60a
          rw [← (show u_109_111 = s56.2.2.1 109 111 from fr_F (fr_F (e_109_111) hF50 rfl) hF56 rfl)] at n60a
          rw [← (show z60a = s60.2.2.1 109 109 from e60)] at n60a
          rw [← (show z60b = s60.2.2.1 109 111 from e60a)] at n60a
          show GG _ _ _ _ _ _ _ _ [] _ _ _
          refine g_iconst 1 64 (gd rfl) rfl rfl ?_
          have n64 : ((Int32.ofInt 1)).toInt = 0 → PR s s60 0 0 := by exact fun h => absurd h (by decide)
          have n64a : ((Int32.ofInt 1)).toInt ≠ 0 → PR s s60 0 1 := by intro hR; first | (exact absurd rfl hR) | exact pr_tr (pr_val p15 p15a rfl (inv_F hI 0 400 rfl rfl).1 (by rw [← e15, ← e_109_109]; exact n15a) (hF15.2.2.1 109 23 rfl) (hF15.1 190 rfl) (hF15.2.2.1 109 111 rfl) (fun _ => Or.inl rfl)) p19 | exact pr_tr (pr_val p56 p56a rfl (inv_F hI 0 400 rfl rfl).1 (by rw [← e56, ← e_109_109]; exact n56a) (hF56.2.2.1 109 23 rfl) (hF56.1 190 rfl) (hF56.2.2.1 109 111 rfl) (fun _ => Or.inr ⟨rfl, by decide, by decide⟩)) p60 | exact pr_tr (pr_tr (b := 0) (pr_flt (hF50.1 187 rfl) (hF50.1 188 rfl) (hF50.2.2.1 109 109 rfl) (by rw [← e50]; omega)) (pr_val p56 p56a rfl (inv_F hI50 0 400 rfl rfl).1 (by rw [← e56, ← (show u_109_109 = s50.2.2.1 109 109 from fr_F e_109_109 hF50 rfl)]; exact n56a) (hF56.2.2.1 109 23 rfl) (hF56.1 190 rfl) (hF56.2.2.1 109 111 rfl) (fun h => absurd h (by rw [← e50]; omega)))) p60
          have n64b : (z60a).toInt + (z60b).toInt ≤ (u_109_109).toInt + (u_109_111).toInt + 1 := by have a0 := oa8 ro_109_29 i29 ((inv_F hI 0 200 rfl e_109_111)) ((inv_F hI 0 400 rfl e_109_109)) ((in_c (-1) rfl)) i60b i60a i50a; omega
          have n64c : (s60.2.2.1 109 109).toInt + (s60.2.2.1 109 111).toInt ≤ (s.2.2.1 109 109).toInt + (s.2.2.1 109 111).toInt + 1 := by have b0 : z60a = s60.2.2.1 109 109 := e60; have b1 : z60b = s60.2.2.1 109 111 := e60a; first | (rw [← b0, ← b1, ← e_109_109, ← e_109_111]; exact n64b) | (rw [← b0, ← b1]; exact n64b)
          have n64d : (u_109_28).toInt = 0 → (z60a).toInt + (z60b).toInt = (u_109_109).toInt + (u_109_111).toInt := by have a0 := oa8 ro_109_29 i29 ((inv_F hI 0 200 rfl e_109_111)) ((inv_F hI 0 400 rfl e_109_109)) ((in_c (-1) rfl)) i60b i60a i50a; omega
          have n64e : (s.2.2.1 109 28).toInt = 0 → (s60.2.2.1 109 109).toInt + (s60.2.2.1 109 111).toInt = (s.2.2.1 109 109).toInt + (s.2.2.1 109 111).toInt := by have b0 : z60a = s60.2.2.1 109 109 := e60; have b1 : z60b = s60.2.2.1 109 111 := e60a; first | (rw [← b0, ← b1, ← e_109_28, ← e_109_109, ← e_109_111]; exact n64d) | (rw [← b0, ← b1]; exact n64d)
          have n64f : (u_109_28).toInt = 0 → 1 ≤ (z50a).toInt := by have a0 := oa8 ro_109_29 i29 ((inv_F hI 0 200 rfl e_109_111)) ((inv_F hI 0 400 rfl e_109_109)) ((in_c (-1) rfl)) i60b i60a i50a; omega
          have n64g : (s.2.2.1 109 28).toInt = 0 → 1 ≤ (s60.2.2.1 109 23).toInt := by have b0 : z50a = s60.2.2.1 109 23 := fr_F (fr_F (e50) hF56 rfl) hF60 rfl; rw [← b0, ← e_109_28]; exact n64f
          exact g_ireturn (gd rfl) rfl (nb01 (in_w 0 1 (in_c 1 rfl) rfl)) (hP _ _ ⟨s60, hI60, (fr_tr rfl (fr_tr rfl (fr_tr rfl fr_rf hF50) hF56) hF60), n64c, n64e, n64g, (Int32.ofInt 1), rfl, rfl, in_w 0 1 (in_c 1 rfl) rfl, n64, n64a⟩)
  · skip
    have i5 := r_eq1 2 2 c5 (inv_F hI (-2147483648) 2147483647 rfl e_109_28) (in_c 2 rfl) rfl
    refine g_aload_n 9 (gd rfl) rfl rfl ?_
    refine g_iconst 0 10 (gd rfl) rfl rfl ?_
    refine g_aload_n 11 (gd rfl) rfl rfl ?_
    refine g_getL 14 (gd rfl) rfl rfl rfl (fun z11 e11 => ?_)
    refine g_l2i 15 (gd rfl) rfl (fun z14 e14 => ?_)
    have n15 : (u_109_109).toInt ≤ 399 := by have a0 := oa4 ro_109_29 i5 ((inv_F hI 0 200 rfl e_109_111)) ((inv_F hI 0 400 rfl e_109_109)); omega
    refine g_callv (X := _) (As := [.int (Int32.ofInt 0), .int z14]) (r := []) (b := A 109) (q := 109) 18 (gd rfl) rfl rfl rfl rfl rfl (ww_o rfl) (Nat.le_of_ble_eq_true rfl) (Nat.zero_le _) (Nat.zero_le _) (k_393 (by first | exact dq1 hd rfl | exact dq0 hd rfl | exact dq2 hd rfl | exact dq3 hd rfl | omega) hI e_109_109 n15) (fun e u h => h) (fun v u h => ?_)
    obtain ⟨s15, hI15, hF15, n15a, rfl, rfl, p15, p15a⟩ := h
    obtain ⟨z15a, e15⟩ : ∃ w, w = s15.2.2.1 109 109 := ⟨_, rfl⟩
    have i15a := inv_F hI15 0 400 rfl e15
    rw [← (show u_109_109 = s.2.2.1 109 109 from e_109_109)] at n15a
    rw [← (show z15a = s15.2.2.1 109 109 from e15)] at n15a
    show GG _ _ _ _ _ _ _ _ [] _ _ _
    refine g_aload_n 19 (gd rfl) rfl rfl ?_
    have v19 : u_109_111 = s15.2.2.1 109 111 := fr_F (e_109_111) hF15 rfl
    have n19 : (z15a).toInt + (u_109_111).toInt ≤ 120 := by have a0 := oa5 ro_109_29 i5 ((inv_F hI 0 200 rfl e_109_111)) ((inv_F hI 0 400 rfl e_109_109)) i15a; omega
    refine g_callv (X := _) (As := []) (r := []) (b := A 109) (q := 109) 22 (gd rfl) rfl rfl rfl rfl rfl (ww_o rfl) (Nat.le_of_ble_eq_true rfl) (Nat.zero_le _) (Nat.zero_le _) (k_400 (by first | exact dq1 hd rfl | exact dq0 hd rfl | exact dq2 hd rfl | exact dq3 hd rfl | omega) hI15 e15 v19 n19) (fun e u h => h) (fun v u h => ?_)
    obtain ⟨s19, hI19, hF19, n19a, rfl, rfl, p19⟩ := h
    obtain ⟨z19a, e19⟩ : ∃ w, w = s19.2.2.1 109 109 := ⟨_, rfl⟩
    have i19a := inv_F hI19 0 400 rfl e19
    obtain ⟨z19b, e19a⟩ : ∃ w, w = s19.2.2.1 109 111 := ⟨_, rfl⟩
    have i19b := inv_F hI19 0 200 rfl e19a
    rw [← (show z15a = s15.2.2.1 109 109 from e15)] at n19a
    rw [← (show u_109_111 = s15.2.2.1 109 111 from fr_F (e_109_111) hF15 rfl)] at n19a
    rw [← (show z19a = s19.2.2.1 109 109 from e19)] at n19a
    rw [← (show z19b = s19.2.2.1 109 111 from e19a)] at n19a
    show GG _ _ _ _ _ _ _ _ [] _ _ _
    refine g_iconst 1 23 (gd rfl) rfl rfl ?_
    have n23 : ((Int32.ofInt 1)).toInt = 0 → PR s s19 0 0 := by exact fun h => absurd h (by decide)
    have n23a : ((Int32.ofInt 1)).toInt ≠ 0 → PR s s19 0 1 := by intro hR; first | (exact absurd rfl hR) | exact pr_tr (pr_val p15 p15a rfl (inv_F hI 0 400 rfl rfl).1 (by rw [← e15, ← e_109_109]; exact n15a) (hF15.2.2.1 109 23 rfl) (hF15.1 190 rfl) (hF15.2.2.1 109 111 rfl) (fun _ => Or.inl rfl)) p19 | exact pr_tr (pr_val p56 p56a rfl (inv_F hI 0 400 rfl rfl).1 (by rw [← e56, ← e_109_109]; exact n56a) (hF56.2.2.1 109 23 rfl) (hF56.1 190 rfl) (hF56.2.2.1 109 111 rfl) (fun _ => Or.inr ⟨rfl, by decide, by decide⟩)) p60 | exact pr_tr (pr_tr (b := 0) (pr_flt (hF50.1 187 rfl) (hF50.1 188 rfl) (hF50.2.2.1 109 109 rfl) (by rw [← e50]; omega)) (pr_val p56 p56a rfl (inv_F hI50 0 400 rfl rfl).1 (by rw [← e56, ← (show u_109_109 = s50.2.2.1 109 109 from fr_F e_109_109 hF50 rfl)]; exact n56a) (hF56.2.2.1 109 23 rfl) (hF56.1 190 rfl) (hF56.2.2.1 109 111 rfl) (fun h => absurd h (by rw [← e50]; omega)))) p60
    have n23b : (z19a).toInt + (z19b).toInt ≤ (u_109_109).toInt + (u_109_111).toInt + 1 := by have a0 := oa6 ro_109_29 i5 ((inv_F hI 0 200 rfl e_109_111)) ((inv_F hI 0 400 rfl e_109_109)) i19b i19a; omega
    have n23c : (s19.2.2.1 109 109).toInt + (s19.2.2.1 109 111).toInt ≤ (s.2.2.1 109 109).toInt + (s.2.2.1 109 111).toInt + 1 := by have b0 : z19a = s19.2.2.1 109 109 := e19; have b1 : z19b = s19.2.2.1 109 111 := e19a; first | (rw [← b0, ← b1, ← e_109_109, ← e_109_111]; exact n23b) | (rw [← b0, ← b1]; exact n23b)
    have n23d : (u_109_28).toInt = 0 → (z19a).toInt + (z19b).toInt = (u_109_109).toInt + (u_109_111).toInt := by have a0 := oa6 ro_109_29 i5 ((inv_F hI 0 200 rfl e_109_111)) ((inv_F hI 0 400 rfl e_109_109)) i19b i19a; omega
    have n23e : (s.2.2.1 109 28).toInt = 0 → (s19.2.2.1 109 109).toInt + (s19.2.2.1 109 111).toInt = (s.2.2.1 109 109).toInt + (s.2.2.1 109 111).toInt := by have b0 : z19a = s19.2.2.1 109 109 := e19; have b1 : z19b = s19.2.2.1 109 111 := e19a; first | (rw [← b0, ← b1, ← e_109_28, ← e_109_109, ← e_109_111]; exact n23d) | (rw [← b0, ← b1]; exact n23d)
    have n23f : (u_109_28).toInt = 0 → 1 ≤ ((s19.2.2.1 109 23)).toInt := by have a0 := oa7 ro_109_29 i5 ((inv_F hI 0 200 rfl e_109_111)) ((inv_F hI 0 400 rfl e_109_109)) i19b i19a ((show In (s19.2.2.1 109 23) 0 9 from inv_F hI19 0 9 rfl rfl)); omega
    have n23g : (s.2.2.1 109 28).toInt = 0 → 1 ≤ (s19.2.2.1 109 23).toInt := by rw [← e_109_28]; exact n23f
    exact g_ireturn (gd rfl) rfl (nb01 (in_w 0 1 (in_c 1 rfl) rfl)) (hP _ _ ⟨s19, hI19, (fr_tr rfl (fr_tr rfl fr_rf hF15) hF19), n23c, n23e, n23g, (Int32.ofInt 1), rfl, rfl, in_w 0 1 (in_c 1 rfl) rfl, n23, n23a⟩)
end
section
/-! methods, by vc.py -/
def fm_402 : FM := ([187, 188, 190], [], [(109, 23), (109, 24), (109, 109), (109, 111), (109, 112)], [])
/-- GraphHouseModel.behindFactor -/
theorem k_402 {Z : AmZ} {A : Nat → Nat} {s : GS} {ex : va_W} {d : Nat} {X : AmX} {x1 : Int32} {u_109_109 : Int32} {u_109_111 : Int32} {u_109_28 : Int32} (hd : 4 ≤ d) (hI : Inv s) (h1 : In x1 0 1) (e_109_109 : u_109_109 = s.2.2.1 109 109) (e_109_111 : u_109_111 = s.2.2.1 109 111) (e_109_28 : u_109_28 = s.2.2.1 109 28) (p_0 : (u_109_109).toInt + (u_109_111).toInt ≤ 120) (p_1 : (u_109_28).toInt ≠ 0 → (u_109_109).toInt + (u_109_111).toInt ≤ 119) : GC Z d 402 [.ref (A 109), .int x1] (WW Z A s ++ ex) 0 0 (fun v u => ∃ t : GS, Inv t ∧ Fr fm_402 s t ∧ ((t.2.2.1 109 109).toInt + (t.2.2.1 109 111).toInt ≤ (s.2.2.1 109 109).toInt + (s.2.2.1 109 111).toInt + 1) ∧ ((s.2.2.1 109 28).toInt = 0 → (t.2.2.1 109 109).toInt + (t.2.2.1 109 111).toInt = (s.2.2.1 109 109).toInt + (s.2.2.1 109 111).toInt) ∧ ∃ z : Int32, v = some (.int z) ∧ u = WW Z A t ++ ex ∧ In z 0 2 ∧ ((z).toInt = 0 → PR s t 1 0) ∧ ((z).toInt ≠ 0 → PR s t 1 1) ∧ ((s.2.2.1 109 28).toInt = 0 → (z).toInt = 2)) X := by
  intro post xp hP hX
  obtain ⟨u_109_29, e_109_29⟩ : ∃ w, w = s.2.2.1 109 29 := ⟨_, rfl⟩
  have ro_109_29 := inv_F hI 0 1000 rfl e_109_29
  obtain ⟨u_109_30, e_109_30⟩ : ∃ w, w = s.2.2.1 109 30 := ⟨_, rfl⟩
  refine g_enter2 (k := 402) (N := 900) (by first | exact dq1 hd rfl | exact dq0 hd rfl | exact dq2 hd rfl | exact dq3 hd rfl | omega) rfl (Nat.le_of_ble_eq_true rfl) ?_
  refine g_aload_n 1 (gd rfl) rfl rfl ?_
  refine g_getI 4 (gd rfl) rfl rfl rfl (fun z1 e1 => ?_)
  have q1 : u_109_28 = z1 := (e_109_28).trans e1.symm
  subst q1
  refine g_if_eq 7 24 (gd rfl) rfl rfl (fun c4 => ?_) (fun c4 => ?_)
  · skip
    have i4 := z_eq 0 0 c4 (inv_F hI (-2147483648) 2147483647 rfl e_109_28) rfl
    refine g_aload_n 25 (gd rfl) rfl rfl ?_
    refine g_iconst 1 26 (gd rfl) rfl rfl ?_
    have n26 : (u_109_109).toInt + (u_109_111).toInt ≤ 120 := by have a0 := oa5 ro_109_29 i4 ((inv_F hI 0 200 rfl e_109_111)) ((inv_F hI 0 400 rfl e_109_109)) h1; omega
    refine g_callv (X := _) (As := [.int (Int32.ofInt 1)]) (r := []) (b := A 109) (q := 109) 29 (gd rfl) rfl rfl rfl rfl rfl (ww_o rfl) (Nat.le_of_ble_eq_true rfl) (Nat.zero_le _) (Nat.zero_le _) (k_399 (by first | exact dq1 hd rfl | exact dq0 hd rfl | exact dq2 hd rfl | exact dq3 hd rfl | omega) hI (in_w 1 3 (in_c 1 rfl) rfl) e_109_109 e_109_111 n26) (fun e u h => h) (fun v u h => ?_)
    obtain ⟨s26, hI26, hF26, n26a, rfl, rfl, p26⟩ := h
    obtain ⟨z26a, e26⟩ : ∃ w, w = s26.2.2.1 109 109 := ⟨_, rfl⟩
    have i26a := inv_F hI26 0 400 rfl e26
    obtain ⟨z26b, e26a⟩ : ∃ w, w = s26.2.2.1 109 111 := ⟨_, rfl⟩
    have i26b := inv_F hI26 0 200 rfl e26a
    rw [← (show u_109_109 = s.2.2.1 109 109 from e_109_109)] at n26a
    rw [← (show u_109_111 = s.2.2.1 109 111 from e_109_111)] at n26a
    rw [← (show z26a = s26.2.2.1 109 109 from e26)] at n26a
    rw [← (show z26b = s26.2.2.1 109 111 from e26a)] at n26a
    show GG _ _ _ _ _ _ _ _ [] _ _ _
    refine g_aload_n 30 (gd rfl) rfl rfl ?_
    refine g_getI 33 (gd rfl) rfl rfl rfl (fun z30 e30 => ?_)
    have q30 : z26b = z30 := (e26a).trans e30.symm
    subst q30
    refine g_if_gt 36 53 (gd rfl) rfl rfl (fun c33 => ?_) (fun c33 => ?_)
    · skip
      have i33 := z_gt 1 200 c33 i26b rfl
      refine g_aload_n 54 (gd rfl) rfl rfl ?_
      refine g_iconst 2 55 (gd rfl) rfl rfl ?_
      refine g_aload_n 56 (gd rfl) rfl rfl ?_
      refine g_getI 59 (gd rfl) rfl rfl rfl (fun z56 e56 => ?_)
      have q56 : u_109_29 = z56 := (fr_F (e_109_29) hF26 rfl).trans e56.symm
      subst q56
      refine g_callv (X := _) (As := [.int (Int32.ofInt 2), .int u_109_29]) (r := []) (b := A 109) (q := 109) 62 (gd rfl) rfl rfl rfl rfl rfl (ww_o rfl) (Nat.le_of_ble_eq_true rfl) (Nat.zero_le _) (Nat.zero_le _) (k_298 (by first | exact dq1 hd rfl | exact dq0 hd rfl | exact dq2 hd rfl | exact dq3 hd rfl | omega) hI26 (in_w 1 5 (in_c 2 rfl) rfl)) (fun e u h => h) (fun v u h => ?_)
      obtain ⟨s59, hI59, hF59, n59, rfl, rfl⟩ := h
      obtain ⟨z59a, e59⟩ : ∃ w, w = s59.2.2.1 109 23 := ⟨_, rfl⟩
      have i59a := inv_F hI59 0 9 rfl e59
      rw [← (show z59a = s59.2.2.1 109 23 from e59)] at n59
      show GG _ _ _ _ _ _ _ _ [] _ _ _
      refine g_iconst 2 63 (gd rfl) rfl rfl ?_
      have n63 : ((Int32.ofInt 2)).toInt = 0 → PR s s59 1 0 := by exact fun h => absurd h (by decide)
      have n63a : ((Int32.ofInt 2)).toInt ≠ 0 → PR s s59 1 1 := by intro hR; first | (exact absurd rfl hR) | exact p26 | exact pr_tr p26 (pr_flt (hF59.1 187 rfl) (hF59.1 188 rfl) (hF59.2.2.1 109 109 rfl) (by rw [← e59]; omega)) | exact pr_tr p163 (pr_flt (hF181.1 187 rfl) (hF181.1 188 rfl) (hF181.2.2.1 109 109 rfl) (by rw [← e181]; omega)) | exact pr_flt (hF202.1 187 rfl) (hF202.1 188 rfl) (hF202.2.2.1 109 109 rfl) (by rw [← e202]; omega) | exact pr_tr p163 (pr_tr (pr_drop (x := z167x21) (b := z167x20) (hF187.1 187 rfl) (hF187.1 188 rfl) (hF187.2.2.1 109 109 rfl) (hF187.2.2.1 109 23 rfl) (hF187.1 190 rfl) (by rw [← e187]; have a0 := oa8 ro_109_29 i4 ((inv_F hI 0 200 rfl e_109_111)) ((inv_F hI 0 400 rfl e_109_109)) h1 i59a i33 i26a; omega) (by rw [← e163a]; have a0 := oa8 ro_109_29 i4 ((inv_F hI 0 200 rfl e_109_111)) ((inv_F hI 0 400 rfl e_109_109)) h1 i59a i33 i26a; omega) i167x20.1 e167x21 (Or.inr (c172.trans rfl))) p191)
      have n63b : (s.2.2.1 109 28).toInt = 0 → ((Int32.ofInt 2)).toInt = 2 := by rw [← e_109_28]; intro h0; first | rfl | (exfalso; have a0 := oa8 ro_109_29 i4 ((inv_F hI 0 200 rfl e_109_111)) ((inv_F hI 0 400 rfl e_109_109)) h1 i59a i33 i26a; omega)
      have n63c : (z26a).toInt + (z26b).toInt ≤ (u_109_109).toInt + (u_109_111).toInt + 1 := by have a0 := oa8 ro_109_29 i4 ((inv_F hI 0 200 rfl e_109_111)) ((inv_F hI 0 400 rfl e_109_109)) h1 i59a i33 i26a; omega
      have n63d : (s59.2.2.1 109 109).toInt + (s59.2.2.1 109 111).toInt ≤ (s.2.2.1 109 109).toInt + (s.2.2.1 109 111).toInt + 1 := by have b0 : z26a = s59.2.2.1 109 109 := fr_F (e26) hF59 rfl; have b1 : z26b = s59.2.2.1 109 111 := fr_F (e26a) hF59 rfl; first | (rw [← b0, ← b1, ← e_109_109, ← e_109_111]; exact n63c) | (rw [← b0, ← b1]; exact n63c)
      have n63e : (u_109_28).toInt = 0 → (z26a).toInt + (z26b).toInt = (u_109_109).toInt + (u_109_111).toInt := by have a0 := oa8 ro_109_29 i4 ((inv_F hI 0 200 rfl e_109_111)) ((inv_F hI 0 400 rfl e_109_109)) h1 i59a i33 i26a; omega
      have n63f : (s.2.2.1 109 28).toInt = 0 → (s59.2.2.1 109 109).toInt + (s59.2.2.1 109 111).toInt = (s.2.2.1 109 109).toInt + (s.2.2.1 109 111).toInt := by have b0 : z26a = s59.2.2.1 109 109 := fr_F (e26) hF59 rfl; have b1 : z26b = s59.2.2.1 109 111 := fr_F (e26a) hF59 rfl; first | (rw [← b0, ← b1, ← e_109_28, ← e_109_109, ← e_109_111]; exact n63e) | (rw [← b0, ← b1]; exact n63e)
      exact g_ireturn (gd rfl) rfl rfl (hP _ _ ⟨s59, hI59, (fr_tr rfl (fr_tr rfl fr_rf hF26) hF59), n63d, n63f, (Int32.ofInt 2), rfl, rfl, in_w 0 2 (in_c 2 rfl) rfl, n63, n63a, n63b⟩)
    · skip
      have i33 := z_le 0 0 c33 i26b rfl
      refine g_iload_n 37 (gd rfl) rfl rfl ?_
      refine g_aload_n 38 (gd rfl) rfl rfl ?_
      refine g_getI 41 (gd rfl) rfl rfl rfl (fun z38 e38 => ?_)
      have q38 : u_109_28 = z38 := (fr_F (e_109_28) hF26 rfl).trans e38.symm
      subst q38
      refine g_iconst 3 42 (gd rfl) rfl rfl ?_
      refine g_cmp_ne 45 49 (gd rfl) rfl rfl (fun c42 => ?_) (fun c42 => ?_)
      · skip
        refine g_iconst 0 50 (gd rfl) rfl rfl ?_
        refine g_cmp_eq 53 62 (gd rfl) rfl rfl (fun c50 => ?_) (fun c50 => ?_)
        · skip
          have i50 := r_eq1 0 0 c50 h1 (in_c 0 rfl) rfl
          refine g_iconst 2 63 (gd rfl) rfl rfl ?_
          have n63 : ((Int32.ofInt 2)).toInt = 0 → PR s s26 1 0 := by exact fun h => absurd h (by decide)
          have n63a : ((Int32.ofInt 2)).toInt ≠ 0 → PR s s26 1 1 := by intro hR; first | (exact absurd rfl hR) | exact p26 | exact pr_tr p26 (pr_flt (hF59.1 187 rfl) (hF59.1 188 rfl) (hF59.2.2.1 109 109 rfl) (by rw [← e59]; omega)) | exact pr_tr p163 (pr_flt (hF181.1 187 rfl) (hF181.1 188 rfl) (hF181.2.2.1 109 109 rfl) (by rw [← e181]; omega)) | exact pr_flt (hF202.1 187 rfl) (hF202.1 188 rfl) (hF202.2.2.1 109 109 rfl) (by rw [← e202]; omega) | exact pr_tr p163 (pr_tr (pr_drop (x := z167x21) (b := z167x20) (hF187.1 187 rfl) (hF187.1 188 rfl) (hF187.2.2.1 109 109 rfl) (hF187.2.2.1 109 23 rfl) (hF187.1 190 rfl) (by rw [← e187]; have a0 := oa7 ro_109_29 i4 ((inv_F hI 0 200 rfl e_109_111)) ((inv_F hI 0 400 rfl e_109_109)) i50 i33 i26a; omega) (by rw [← e163a]; have a0 := oa7 ro_109_29 i4 ((inv_F hI 0 200 rfl e_109_111)) ((inv_F hI 0 400 rfl e_109_109)) i50 i33 i26a; omega) i167x20.1 e167x21 (Or.inr (c172.trans rfl))) p191)
          have n63b : (s.2.2.1 109 28).toInt = 0 → ((Int32.ofInt 2)).toInt = 2 := by rw [← e_109_28]; intro h0; first | rfl | (exfalso; have a0 := oa7 ro_109_29 i4 ((inv_F hI 0 200 rfl e_109_111)) ((inv_F hI 0 400 rfl e_109_109)) i50 i33 i26a; omega)
          have n63c : (z26a).toInt + (z26b).toInt ≤ (u_109_109).toInt + (u_109_111).toInt + 1 := by have a0 := oa7 ro_109_29 i4 ((inv_F hI 0 200 rfl e_109_111)) ((inv_F hI 0 400 rfl e_109_109)) i50 i33 i26a; omega
          have n63d : (s26.2.2.1 109 109).toInt + (s26.2.2.1 109 111).toInt ≤ (s.2.2.1 109 109).toInt + (s.2.2.1 109 111).toInt + 1 := by have b0 : z26a = s26.2.2.1 109 109 := e26; have b1 : z26b = s26.2.2.1 109 111 := e26a; first | (rw [← b0, ← b1, ← e_109_109, ← e_109_111]; exact n63c) | (rw [← b0, ← b1]; exact n63c)
          have n63e : (u_109_28).toInt = 0 → (z26a).toInt + (z26b).toInt = (u_109_109).toInt + (u_109_111).toInt := by have a0 := oa7 ro_109_29 i4 ((inv_F hI 0 200 rfl e_109_111)) ((inv_F hI 0 400 rfl e_109_109)) i50 i33 i26a; omega
          have n63f : (s.2.2.1 109 28).toInt = 0 → (s26.2.2.1 109 109).toInt + (s26.2.2.1 109 111).toInt = (s.2.2.1 109 109).toInt + (s.2.2.1 109 111).toInt := by have b0 : z26a = s26.2.2.1 109 109 := e26; have b1 : z26b = s26.2.2.1 109 111 := e26a; first | (rw [← b0, ← b1, ← e_109_28, ← e_109_109, ← e_109_111]; exact n63e) | (rw [← b0, ← b1]; exact n63e)
          exact g_ireturn (gd rfl) rfl rfl (hP _ _ ⟨s26, hI26, (fr_tr rfl fr_rf hF26), n63d, n63f, (Int32.ofInt 2), rfl, rfl, in_w 0 2 (in_c 2 rfl) rfl, n63, n63a, n63b⟩)
        · skip
          have i50 := r_ne1 1 1 c50 h1 (in_c 0 rfl) rfl
          refine g_aload_n 54 (gd rfl) rfl rfl ?_
          refine g_iconst 2 55 (gd rfl) rfl rfl ?_
          refine g_aload_n 56 (gd rfl) rfl rfl ?_
          refine g_getI 59 (gd rfl) rfl rfl rfl (fun z56 e56 => ?_)
          have q56 : u_109_29 = z56 := (fr_F (e_109_29) hF26 rfl).trans e56.symm
          subst q56
          refine g_callv (X := _) (As := [.int (Int32.ofInt 2), .int u_109_29]) (r := []) (b := A 109) (q := 109) 62 (gd rfl) rfl rfl rfl rfl rfl (ww_o rfl) (Nat.le_of_ble_eq_true rfl) (Nat.zero_le _) (Nat.zero_le _) (k_298 (by first | exact dq1 hd rfl | exact dq0 hd rfl | exact dq2 hd rfl | exact dq3 hd rfl | omega) hI26 (in_w 1 5 (in_c 2 rfl) rfl)) (fun e u h => h) (fun v u h => ?_)
          obtain ⟨s59, hI59, hF59, n59, rfl, rfl⟩ := h
          obtain ⟨z59a, e59⟩ : ∃ w, w = s59.2.2.1 109 23 := ⟨_, rfl⟩
          have i59a := inv_F hI59 0 9 rfl e59
          rw [← (show z59a = s59.2.2.1 109 23 from e59)] at n59
          show GG _ _ _ _ _ _ _ _ [] _ _ _
          refine g_iconst 2 63 (gd rfl) rfl rfl ?_
          have n63 : ((Int32.ofInt 2)).toInt = 0 → PR s s59 1 0 := by exact fun h => absurd h (by decide)
          have n63a : ((Int32.ofInt 2)).toInt ≠ 0 → PR s s59 1 1 := by intro hR; first | (exact absurd rfl hR) | exact p26 | exact pr_tr p26 (pr_flt (hF59.1 187 rfl) (hF59.1 188 rfl) (hF59.2.2.1 109 109 rfl) (by rw [← e59]; omega)) | exact pr_tr p163 (pr_flt (hF181.1 187 rfl) (hF181.1 188 rfl) (hF181.2.2.1 109 109 rfl) (by rw [← e181]; omega)) | exact pr_flt (hF202.1 187 rfl) (hF202.1 188 rfl) (hF202.2.2.1 109 109 rfl) (by rw [← e202]; omega) | exact pr_tr p163 (pr_tr (pr_drop (x := z167x21) (b := z167x20) (hF187.1 187 rfl) (hF187.1 188 rfl) (hF187.2.2.1 109 109 rfl) (hF187.2.2.1 109 23 rfl) (hF187.1 190 rfl) (by rw [← e187]; have a0 := oa8 ro_109_29 i4 ((inv_F hI 0 200 rfl e_109_111)) ((inv_F hI 0 400 rfl e_109_109)) i50 i59a i33 i26a; omega) (by rw [← e163a]; have a0 := oa8 ro_109_29 i4 ((inv_F hI 0 200 rfl e_109_111)) ((inv_F hI 0 400 rfl e_109_109)) i50 i59a i33 i26a; omega) i167x20.1 e167x21 (Or.inr (c172.trans rfl))) p191)
          have n63b : (s.2.2.1 109 28).toInt = 0 → ((Int32.ofInt 2)).toInt = 2 := by rw [← e_109_28]; intro h0; first | rfl | (exfalso; have a0 := oa8 ro_109_29 i4 ((inv_F hI 0 200 rfl e_109_111)) ((inv_F hI 0 400 rfl e_109_109)) i50 i59a i33 i26a; omega)
          have n63c : (z26a).toInt + (z26b).toInt ≤ (u_109_109).toInt + (u_109_111).toInt + 1 := by have a0 := oa8 ro_109_29 i4 ((inv_F hI 0 200 rfl e_109_111)) ((inv_F hI 0 400 rfl e_109_109)) i50 i59a i33 i26a; omega
          have n63d : (s59.2.2.1 109 109).toInt + (s59.2.2.1 109 111).toInt ≤ (s.2.2.1 109 109).toInt + (s.2.2.1 109 111).toInt + 1 := by have b0 : z26a = s59.2.2.1 109 109 := fr_F (e26) hF59 rfl; have b1 : z26b = s59.2.2.1 109 111 := fr_F (e26a) hF59 rfl; first | (rw [← b0, ← b1, ← e_109_109, ← e_109_111]; exact n63c) | (rw [← b0, ← b1]; exact n63c)
          have n63e : (u_109_28).toInt = 0 → (z26a).toInt + (z26b).toInt = (u_109_109).toInt + (u_109_111).toInt := by have a0 := oa8 ro_109_29 i4 ((inv_F hI 0 200 rfl e_109_111)) ((inv_F hI 0 400 rfl e_109_109)) i50 i59a i33 i26a; omega
          have n63f : (s.2.2.1 109 28).toInt = 0 → (s59.2.2.1 109 109).toInt + (s59.2.2.1 109 111).toInt = (s.2.2.1 109 109).toInt + (s.2.2.1 109 111).toInt := by have b0 : z26a = s59.2.2.1 109 109 := fr_F (e26) hF59 rfl; have b1 : z26b = s59.2.2.1 109 111 := fr_F (e26a) hF59 rfl; first | (rw [← b0, ← b1, ← e_109_28, ← e_109_109, ← e_109_111]; exact n63e) | (rw [← b0, ← b1]; exact n63e)
          exact g_ireturn (gd rfl) rfl rfl (hP _ _ ⟨s59, hI59, (fr_tr rfl (fr_tr rfl fr_rf hF26) hF59), n63d, n63f, (Int32.ofInt 2), rfl, rfl, in_w 0 2 (in_c 2 rfl) rfl, n63, n63a, n63b⟩)
      · skip
        exact n_eq c42 i4 (in_c 3 rfl) rfl
  · skip
    refine g_aload_n 8 (gd rfl) rfl rfl ?_
    refine g_getI 11 (gd rfl) rfl rfl rfl (fun z8 e8 => ?_)
    have q8 : u_109_28 = z8 := (e_109_28).trans e8.symm
    subst q8
    refine g_iconst 3 12 (gd rfl) rfl rfl ?_
    refine g_cmp_ne 15 64 (gd rfl) rfl rfl (fun c12 => ?_) (fun c12 => ?_)
    · skip
      refine g_aload_n 65 (gd rfl) rfl rfl ?_
      refine g_getI 68 (gd rfl) rfl rfl rfl (fun z65 e65 => ?_)
      have q65 : u_109_28 = z65 := (e_109_28).trans e65.symm
      subst q65
      refine g_iconst 3 69 (gd rfl) rfl rfl ?_
      refine g_cmp_ne 72 82 (gd rfl) rfl rfl (fun c69 => ?_) (fun c69 => ?_)
      · skip
        refine g_iconst 0 83 (gd rfl) rfl rfl ?_
        refine g_istore_n 84 (gd rfl) rfl (Nat.le_of_ble_eq_true rfl) ?_
        refine g_iload_n 85 (gd rfl) rfl rfl ?_
        refine g_iconst 1 86 (gd rfl) rfl rfl ?_
        refine g_cmp_le 89 104 (gd rfl) rfl rfl (fun c86 => ?_) (fun c86 => ?_)
        · skip
          refine g_iload_n 105 (gd rfl) rfl rfl ?_
          refine g_iconst 1 106 (gd rfl) rfl rfl ?_
          refine g_cmp_ne 109 144 (gd rfl) rfl rfl (fun c106 => ?_) (fun c106 => ?_)
          · skip
            refine g_aload_n 145 (gd rfl) rfl rfl ?_
            refine g_getI 148 (gd rfl) rfl rfl rfl (fun z145 e145 => ?_)
            have q145 : u_109_28 = z145 := (e_109_28).trans e145.symm
            subst q145
            refine g_iconst 3 149 (gd rfl) rfl rfl ?_
            refine g_cmp_ne 152 196 (gd rfl) rfl rfl (fun c149 => ?_) (fun c149 => ?_)
            · skip
              refine g_aload_n 197 (gd rfl) rfl rfl ?_
              refine g_iconst 2 198 (gd rfl) rfl rfl ?_
              refine g_aload_n 199 (gd rfl) rfl rfl ?_
              refine g_getI 202 (gd rfl) rfl rfl rfl (fun z199 e199 => ?_)
              have q199 : u_109_29 = z199 := (e_109_29).trans e199.symm
              subst q199
              refine g_callv (X := _) (As := [.int (Int32.ofInt 2), .int u_109_29]) (r := []) (b := A 109) (q := 109) 205 (gd rfl) rfl rfl rfl rfl rfl (ww_o rfl) (Nat.le_of_ble_eq_true rfl) (Nat.zero_le _) (Nat.zero_le _) (k_298 (by first | exact dq1 hd rfl | exact dq0 hd rfl | exact dq2 hd rfl | exact dq3 hd rfl | omega) hI (in_w 1 5 (in_c 2 rfl) rfl)) (fun e u h => h) (fun v u h => ?_)
              obtain ⟨s202, hI202, hF202, n202, rfl, rfl⟩ := h
              obtain ⟨z202a, e202⟩ : ∃ w, w = s202.2.2.1 109 23 := ⟨_, rfl⟩
              have i202a := inv_F hI202 0 9 rfl e202
              rw [← (show z202a = s202.2.2.1 109 23 from e202)] at n202
              show GG _ _ _ _ _ _ _ _ [] _ _ _
              refine g_iconst 1 206 (gd rfl) rfl rfl ?_
              have n206 : ((Int32.ofInt 1)).toInt = 0 → PR s s202 1 0 := by exact fun h => absurd h (by decide)
              have n206a : ((Int32.ofInt 1)).toInt ≠ 0 → PR s s202 1 1 := by intro hR; first | (exact absurd rfl hR) | exact p26 | exact pr_tr p26 (pr_flt (hF59.1 187 rfl) (hF59.1 188 rfl) (hF59.2.2.1 109 109 rfl) (by rw [← e59]; omega)) | exact pr_tr p163 (pr_flt (hF181.1 187 rfl) (hF181.1 188 rfl) (hF181.2.2.1 109 109 rfl) (by rw [← e181]; omega)) | exact pr_flt (hF202.1 187 rfl) (hF202.1 188 rfl) (hF202.2.2.1 109 109 rfl) (by rw [← e202]; omega) | exact pr_tr p163 (pr_tr (pr_drop (x := z167x21) (b := z167x20) (hF187.1 187 rfl) (hF187.1 188 rfl) (hF187.2.2.1 109 109 rfl) (hF187.2.2.1 109 23 rfl) (hF187.1 190 rfl) (by rw [← e187]; have a0 := oa6 ro_109_29 ((inv_F hI 0 200 rfl e_109_111)) ((inv_F hI 0 400 rfl e_109_109)) h1 ((in_c 0 rfl)) i202a; omega) (by rw [← e163a]; have a0 := oa6 ro_109_29 ((inv_F hI 0 200 rfl e_109_111)) ((inv_F hI 0 400 rfl e_109_109)) h1 ((in_c 0 rfl)) i202a; omega) i167x20.1 e167x21 (Or.inr (c172.trans rfl))) p191)
              have n206b : (s.2.2.1 109 28).toInt = 0 → ((Int32.ofInt 1)).toInt = 2 := by rw [← e_109_28]; intro h0; first | rfl | (exfalso; have a0 := oa6 ro_109_29 ((inv_F hI 0 200 rfl e_109_111)) ((inv_F hI 0 400 rfl e_109_109)) h1 ((in_c 0 rfl)) i202a; omega)
              have n206c : (u_109_109).toInt + (u_109_111).toInt ≤ (u_109_109).toInt + (u_109_111).toInt + 1 := by have a0 := oa6 ro_109_29 ((inv_F hI 0 200 rfl e_109_111)) ((inv_F hI 0 400 rfl e_109_109)) h1 ((in_c 0 rfl)) i202a; omega
              have n206d : (s202.2.2.1 109 109).toInt + (s202.2.2.1 109 111).toInt ≤ (s.2.2.1 109 109).toInt + (s.2.2.1 109 111).toInt + 1 := by have b0 : u_109_109 = s202.2.2.1 109 109 := fr_F (e_109_109) hF202 rfl; have b1 : u_109_111 = s202.2.2.1 109 111 := fr_F (e_109_111) hF202 rfl; first | (rw [← b0, ← b1, ← e_109_109, ← e_109_111]; exact n206c) | (rw [← b0, ← b1]; exact n206c)
              have n206e : (u_109_28).toInt = 0 → (u_109_109).toInt + (u_109_111).toInt = (u_109_109).toInt + (u_109_111).toInt := by have a0 := oa6 ro_109_29 ((inv_F hI 0 200 rfl e_109_111)) ((inv_F hI 0 400 rfl e_109_109)) h1 ((in_c 0 rfl)) i202a; omega
              have n206f : (s.2.2.1 109 28).toInt = 0 → (s202.2.2.1 109 109).toInt + (s202.2.2.1 109 111).toInt = (s.2.2.1 109 109).toInt + (s.2.2.1 109 111).toInt := by have b0 : u_109_109 = s202.2.2.1 109 109 := fr_F (e_109_109) hF202 rfl; have b1 : u_109_111 = s202.2.2.1 109 111 := fr_F (e_109_111) hF202 rfl; first | (rw [← b0, ← b1, ← e_109_28, ← e_109_109, ← e_109_111]; exact n206e) | (rw [← b0, ← b1]; exact n206e)
              exact g_ireturn (gd rfl) rfl rfl (hP _ _ ⟨s202, hI202, (fr_tr rfl fr_rf hF202), n206d, n206f, (Int32.ofInt 1), rfl, rfl, in_w 0 2 (in_c 1 rfl) rfl, n206, n206a, n206b⟩)
            · skip
              exact absurd c149 c69
          · skip
            exact n_eq c106 (in_c 0 rfl) (in_c 1 rfl) rfl
        · skip
          exact n_lt c86 (in_c 1 rfl) (in_c 0 rfl) rfl
      · skip
        exact absurd c69 c12
    · skip
      have i12 := r_eq1 3 3 c12 (inv_F hI (-2147483648) 2147483647 rfl e_109_28) (in_c 3 rfl) rfl
      refine g_aload_n 16 (gd rfl) rfl rfl ?_
      refine g_getI 19 (gd rfl) rfl rfl rfl (fun z16 e16 => ?_)
      have q16 : u_109_30 = z16 := (e_109_30).trans e16.symm
      subst q16
      refine g_bipush 59 21 (gd rfl) rfl rfl ?_
      refine g_cmp_ne 24 64 (gd rfl) rfl rfl (fun c21 => ?_) (fun c21 => ?_)
      · skip
        refine g_aload_n 65 (gd rfl) rfl rfl ?_
        refine g_getI 68 (gd rfl) rfl rfl rfl (fun z65 e65 => ?_)
        have q65 : u_109_28 = z65 := (e_109_28).trans e65.symm
        subst q65
        refine g_iconst 3 69 (gd rfl) rfl rfl ?_
        refine g_cmp_ne 72 82 (gd rfl) rfl rfl (fun c69 => ?_) (fun c69 => ?_)
        · skip
          exact n_ne c69 i12 (in_c 3 rfl) rfl
        · skip
          refine g_aload_n 73 (gd rfl) rfl rfl ?_
          refine g_getI 76 (gd rfl) rfl rfl rfl (fun z73 e73 => ?_)
          have q73 : u_109_30 = z73 := (e_109_30).trans e73.symm
          subst q73
          refine g_calls (As := [.int u_109_30]) (r := []) 79 (gd rfl) rfl rfl rfl rfl rfl (Nat.le_of_ble_eq_true rfl) (mc := 0) (ms := 0) (Nat.zero_le _) (Nat.zero_le _) (P := fun v u => _) ?_ (fun v u h => h)
          intro po76 xx76 hp76 hx76
          refine g_enter2 (k := 398) (N := 300) (by first | exact dq1 hd rfl | exact dq0 hd rfl | exact dq2 hd rfl | exact dq3 hd rfl | omega) rfl (Nat.le_of_ble_eq_true rfl) ?_
          refine g_iload_n 1 (gd rfl) rfl rfl ?_
          refine g_bipush 42 3 (gd rfl) rfl rfl ?_
          refine g_cmp_ne 6 10 (gd rfl) rfl rfl (fun c76x3 => ?_) (fun c76x3 => ?_)
          · skip
            refine g_iload_n 11 (gd rfl) rfl rfl ?_
            refine g_bipush 43 13 (gd rfl) rfl rfl ?_
            refine g_cmp_eq 16 22 (gd rfl) rfl rfl (fun c76x13 => ?_) (fun c76x13 => ?_)
            · skip
              have i76x13 := r_eq1 43 43 c76x13 (i_rng u_109_30) (in_c 43 rfl) rfl
              refine g_iconst 2 23 (gd rfl) rfl rfl ?_
              refine g_goto 43 (gd rfl) rfl ?_
              refine g_ireturn (gd rfl) rfl rfl (hp76 _ _ ?_)
              show GG _ _ _ _ _ _ _ _ [.int (Int32.ofInt 2)] _ _ _
              refine g_goto 83 (gd rfl) rfl ?_
              refine g_istore_n 84 (gd rfl) rfl (Nat.le_of_ble_eq_true rfl) ?_
              refine g_iload_n 85 (gd rfl) rfl rfl ?_
              refine g_iconst 1 86 (gd rfl) rfl rfl ?_
              refine g_cmp_le 89 104 (gd rfl) rfl rfl (fun c86 => ?_) (fun c86 => ?_)
              · skip
                exact n_le c86 (in_c 2 rfl) (in_c 1 rfl) rfl
              · skip
                refine g_aload_n 90 (gd rfl) rfl rfl ?_
                refine g_iload_n 91 (gd rfl) rfl rfl ?_
                have n91 : (u_109_109).toInt + (u_109_111).toInt ≤ 120 := by have a0 := oa7 i76x13 ro_109_29 i12 ((inv_F hI 0 200 rfl e_109_111)) ((inv_F hI 0 400 rfl e_109_109)) h1 ((in_c 2 rfl)); omega
                refine g_callv (X := _) (As := [.int (Int32.ofInt 2)]) (r := []) (b := A 109) (q := 109) 94 (gd rfl) rfl rfl rfl rfl rfl (ww_o rfl) (Nat.le_of_ble_eq_true rfl) (Nat.zero_le _) (Nat.zero_le _) (k_399 (by first | exact dq1 hd rfl | exact dq0 hd rfl | exact dq2 hd rfl | exact dq3 hd rfl | omega) hI (in_w 1 3 (in_c 2 rfl) rfl) e_109_109 e_109_111 n91) (fun e u h => h) (fun v u h => ?_)
                obtain ⟨s91, hI91, hF91, n91a, rfl, rfl, p91⟩ := h
                obtain ⟨z91a, e91⟩ : ∃ w, w = s91.2.2.1 109 109 := ⟨_, rfl⟩
                have i91a := inv_F hI91 0 400 rfl e91
                obtain ⟨z91b, e91a⟩ : ∃ w, w = s91.2.2.1 109 111 := ⟨_, rfl⟩
                have i91b := inv_F hI91 0 200 rfl e91a
                rw [← (show u_109_109 = s.2.2.1 109 109 from e_109_109)] at n91a
                rw [← (show u_109_111 = s.2.2.1 109 111 from e_109_111)] at n91a
                rw [← (show z91a = s91.2.2.1 109 109 from e91)] at n91a
                rw [← (show z91b = s91.2.2.1 109 111 from e91a)] at n91a
                show GG _ _ _ _ _ _ _ _ [] _ _ _
                refine g_aload_n 95 (gd rfl) rfl rfl ?_
                refine g_aload_n 96 (gd rfl) rfl rfl ?_
                refine g_getI 99 (gd rfl) rfl rfl rfl (fun z96 e96 => ?_)
                have q96 : u_109_30 = z96 := (fr_F (e_109_30) hF91 rfl).trans e96.symm
                subst q96
                have n99 : (z91b).toInt ≤ 199 := by have a0 := oa9 i76x13 ro_109_29 i12 ((inv_F hI 0 200 rfl e_109_111)) ((inv_F hI 0 400 rfl e_109_109)) h1 ((in_c 2 rfl)) i91b i91a; omega
                refine g_callv (X := _) (As := [.int u_109_30]) (r := []) (b := A 109) (q := 109) 102 (gd rfl) rfl rfl rfl rfl rfl (ww_o rfl) (Nat.le_of_ble_eq_true rfl) (Nat.zero_le _) (Nat.zero_le _) (k_396 (by first | exact dq1 hd rfl | exact dq0 hd rfl | exact dq2 hd rfl | exact dq3 hd rfl | omega) hI91 e91a n99) (fun e u h => h) (fun v u h => ?_)
                obtain ⟨s99, hI99, hF99, n99a, rfl, rfl, p99⟩ := h
                obtain ⟨z99a, e99⟩ : ∃ w, w = s99.2.2.1 109 111 := ⟨_, rfl⟩
                have i99a := inv_F hI99 0 200 rfl e99
                rw [← (show z91b = s91.2.2.1 109 111 from e91a)] at n99a
                rw [← (show z99a = s99.2.2.1 109 111 from e99)] at n99a
                show GG _ _ _ _ _ _ _ _ [] _ _ _
                refine g_iconst 0 103 (gd rfl) rfl rfl ?_
                have n103 : ((Int32.ofInt 0)).toInt = 0 → PR s s99 1 0 := by intro hR; first | (exfalso; revert hR; decide) | exact pr_tr p91 (pr_hold (hF99.1 187 rfl) (hF99.1 188 rfl) (hF99.2.2.1 109 109 rfl) (hF99.2.2.1 109 23 rfl) p99 (by rw [← e99, ← e91a]; exact n99a) (inv_F hI91 0 200 rfl rfl).1 (Or.inr ⟨by first | (have hi := i76x3; unfold In at hi; omega) | (have hi := i76x13; unfold In at hi; omega) | (have hi := i76x19; unfold In at hi; omega) | (have hi := i76x29; unfold In at hi; omega) | (have hi := i76x35; unfold In at hi; omega), rfl⟩)) | exact pr_tr p111 (pr_hold (hF139.1 187 rfl) (hF139.1 188 rfl) (hF139.2.2.1 109 109 rfl) (hF139.2.2.1 109 23 rfl) p139 (by rw [← e139, ← e111a]; exact n139a) (inv_F hI111 0 200 rfl rfl).1 (Or.inr ⟨by first | (have hi := i76x3; unfold In at hi; omega) | (have hi := i76x13; unfold In at hi; omega) | (have hi := i76x19; unfold In at hi; omega) | (have hi := i76x29; unfold In at hi; omega) | (have hi := i76x35; unfold In at hi; omega), rfl⟩)) | exact pr_tr p111 (pr_tr (b := 1) (pr_flt (hF131.1 187 rfl) (hF131.1 188 rfl) (hF131.2.2.1 109 109 rfl) (by rw [← e131]; omega)) (pr_hold (hF139.1 187 rfl) (hF139.1 188 rfl) (hF139.2.2.1 109 109 rfl) (hF139.2.2.1 109 23 rfl) p139 (by rw [← e139, ← (show z111b = s131.2.2.1 109 111 from fr_F e111a hF131 rfl)]; exact n139a) (inv_F hI131 0 200 rfl rfl).1 (Or.inr ⟨by first | (have hi := i76x3; unfold In at hi; omega) | (have hi := i76x13; unfold In at hi; omega) | (have hi := i76x19; unfold In at hi; omega) | (have hi := i76x29; unfold In at hi; omega) | (have hi := i76x35; unfold In at hi; omega), rfl⟩)))
                have n103a : ((Int32.ofInt 0)).toInt ≠ 0 → PR s s99 1 1 := by exact fun h => absurd rfl h
                have n103b : (s.2.2.1 109 28).toInt = 0 → ((Int32.ofInt 0)).toInt = 2 := by rw [← e_109_28]; intro h0; first | rfl | (exfalso; have a0 := oa9 i76x13 ro_109_29 i12 ((inv_F hI 0 200 rfl e_109_111)) ((inv_F hI 0 400 rfl e_109_109)) h1 ((in_c 2 rfl)) i99a i91a; omega)
                have n103c : (z91a).toInt + (z99a).toInt ≤ (u_109_109).toInt + (u_109_111).toInt + 1 := by have a0 := oa9 i76x13 ro_109_29 i12 ((inv_F hI 0 200 rfl e_109_111)) ((inv_F hI 0 400 rfl e_109_109)) h1 ((in_c 2 rfl)) i99a i91a; omega
                have n103d : (s99.2.2.1 109 109).toInt + (s99.2.2.1 109 111).toInt ≤ (s.2.2.1 109 109).toInt + (s.2.2.1 109 111).toInt + 1 := by have b0 : z91a = s99.2.2.1 109 109 := fr_F (e91) hF99 rfl; have b1 : z99a = s99.2.2.1 109 111 := e99; first | (rw [← b0, ← b1, ← e_109_109, ← e_109_111]; exact n103c) | (rw [← b0, ← b1]; exact n103c)
                have n103e : (u_109_28).toInt = 0 → (z91a).toInt + (z99a).toInt = (u_109_109).toInt + (u_109_111).toInt := by have a0 := oa9 i76x13 ro_109_29 i12 ((inv_F hI 0 200 rfl e_109_111)) ((inv_F hI 0 400 rfl e_109_109)) h1 ((in_c 2 rfl)) i99a i91a; omega
                have n103f : (s.2.2.1 109 28).toInt = 0 → (s99.2.2.1 109 109).toInt + (s99.2.2.1 109 111).toInt = (s.2.2.1 109 109).toInt + (s.2.2.1 109 111).toInt := by have b0 : z91a = s99.2.2.1 109 109 := fr_F (e91) hF99 rfl; have b1 : z99a = s99.2.2.1 109 111 := e99; first | (rw [← b0, ← b1, ← e_109_28, ← e_109_109, ← e_109_111]; exact n103e) | (rw [← b0, ← b1]; exact n103e)
                exact g_ireturn (gd rfl) rfl rfl (hP _ _ ⟨s99, hI99, (fr_tr rfl (fr_tr rfl fr_rf hF91) hF99), n103d, n103f, (Int32.ofInt 0), rfl, rfl, in_w 0 2 (in_c 0 rfl) rfl, n103, n103a, n103b⟩)
            · skip
              refine g_iload_n 17 (gd rfl) rfl rfl ?_
              refine g_bipush 45 19 (gd rfl) rfl rfl ?_
              refine g_cmp_ne 22 26 (gd rfl) rfl rfl (fun c76x19 => ?_) (fun c76x19 => ?_)
              · skip
                refine g_iload_n 27 (gd rfl) rfl rfl ?_
                refine g_bipush 60 29 (gd rfl) rfl rfl ?_
                refine g_cmp_eq 32 38 (gd rfl) rfl rfl (fun c76x29 => ?_) (fun c76x29 => ?_)
                · skip
                  have i76x29 := r_eq1 60 60 c76x29 (i_rng u_109_30) (in_c 60 rfl) rfl
                  refine g_iconst 1 39 (gd rfl) rfl rfl ?_
                  refine g_goto 43 (gd rfl) rfl ?_
                  refine g_ireturn (gd rfl) rfl rfl (hp76 _ _ ?_)
                  show GG _ _ _ _ _ _ _ _ [.int (Int32.ofInt 1)] _ _ _
                  refine g_goto 83 (gd rfl) rfl ?_
                  refine g_istore_n 84 (gd rfl) rfl (Nat.le_of_ble_eq_true rfl) ?_
                  refine g_iload_n 85 (gd rfl) rfl rfl ?_
                  refine g_iconst 1 86 (gd rfl) rfl rfl ?_
                  refine g_cmp_le 89 104 (gd rfl) rfl rfl (fun c86 => ?_) (fun c86 => ?_)
                  · skip
                    refine g_iload_n 105 (gd rfl) rfl rfl ?_
                    refine g_iconst 1 106 (gd rfl) rfl rfl ?_
                    refine g_cmp_ne 109 144 (gd rfl) rfl rfl (fun c106 => ?_) (fun c106 => ?_)
                    · skip
                      exact n_ne c106 (in_c 1 rfl) (in_c 1 rfl) rfl
                    · skip
                      refine g_aload_n 110 (gd rfl) rfl rfl ?_
                      refine g_iconst 2 111 (gd rfl) rfl rfl ?_
                      have n111 : (u_109_109).toInt + (u_109_111).toInt ≤ 120 := by have a0 := oa7 i76x29 ro_109_29 i12 ((inv_F hI 0 200 rfl e_109_111)) ((inv_F hI 0 400 rfl e_109_109)) h1 ((in_c 1 rfl)); omega
                      refine g_callv (X := _) (As := [.int (Int32.ofInt 2)]) (r := []) (b := A 109) (q := 109) 114 (gd rfl) rfl rfl rfl rfl rfl (ww_o rfl) (Nat.le_of_ble_eq_true rfl) (Nat.zero_le _) (Nat.zero_le _) (k_399 (by first | exact dq1 hd rfl | exact dq0 hd rfl | exact dq2 hd rfl | exact dq3 hd rfl | omega) hI (in_w 1 3 (in_c 2 rfl) rfl) e_109_109 e_109_111 n111) (fun e u h => h) (fun v u h => ?_)
                      obtain ⟨s111, hI111, hF111, n111a, rfl, rfl, p111⟩ := h
                      obtain ⟨z111a, e111⟩ : ∃ w, w = s111.2.2.1 109 109 := ⟨_, rfl⟩
                      have i111a := inv_F hI111 0 400 rfl e111
                      obtain ⟨z111b, e111a⟩ : ∃ w, w = s111.2.2.1 109 111 := ⟨_, rfl⟩
                      have i111b := inv_F hI111 0 200 rfl e111a
                      rw [← (show u_109_109 = s.2.2.1 109 109 from e_109_109)] at n111a
                      rw [← (show u_109_111 = s.2.2.1 109 111 from e_109_111)] at n111a
                      rw [← (show z111a = s111.2.2.1 109 109 from e111)] at n111a
                      rw [← (show z111b = s111.2.2.1 109 111 from e111a)] at n111a
                      show GG _ _ _ _ _ _ _ _ [] _ _ _
                      refine g_aload_n 115 (gd rfl) rfl rfl ?_
                      refine g_callv (X := _) (As := []) (r := []) (b := A 109) (q := 109) 118 (gd rfl) rfl rfl rfl rfl rfl (ww_o rfl) (Nat.le_of_ble_eq_true rfl) (mc := 0) (ms := 0) (Nat.zero_le _) (Nat.zero_le _) (P := fun v u => _) ?_ (fun e u h => h) (fun v u h => h)
                      intro po115 xx115 hp115 hx115
                      refine g_enter2 (k := 395) (N := 300) (by first | exact dq1 hd rfl | exact dq0 hd rfl | exact dq2 hd rfl | exact dq3 hd rfl | omega) rfl (Nat.le_of_ble_eq_true rfl) ?_
                      refine g_aload_n 1 (gd rfl) rfl rfl ?_
                      refine g_getI 4 (gd rfl) rfl rfl rfl (fun z115x1 e115x1 => ?_)
                      have q115x1 : z111b = z115x1 := (e111a).trans e115x1.symm
                      subst q115x1
                      refine g_if_ne 7 11 (gd rfl) rfl rfl (fun c115x4 => ?_) (fun c115x4 => ?_)
                      · skip
                        have i115x4 := z_ne 1 200 c115x4 i111b rfl
                        refine g_aload_n 12 (gd rfl) rfl rfl ?_
                        refine g_getA (q2 := 190) 15 (gd rfl) rfl rfl rfl rfl ?_
                        refine g_aload_n 16 (gd rfl) rfl rfl ?_
                        refine g_getI 19 (gd rfl) rfl rfl rfl (fun z115x16 e115x16 => ?_)
                        have q115x16 : z111b = z115x16 := (e111a).trans e115x16.symm
                        subst q115x16
                        refine g_iconst 1 20 (gd rfl) rfl rfl ?_
                        refine g_isub 21 (gd rfl) rfl (fun z115x20 e115x20 => ?_)
                        have i115x20 := in_sub 0 199 e115x20 i115x4 (in_c 1 rfl) rfl rfl
                        refine g_iaload 22 (gd rfl) rfl (n := 200) rfl (in_ix i115x20 rfl) (fun z115x21 e115x21 => ?_)
                        refine g_ireturn (gd rfl) rfl rfl (hp115 _ _ ?_)
                        show GG _ _ _ _ _ _ _ _ [.int z115x21] _ _ _
                        refine g_calls (As := [.int z115x21]) (r := []) 121 (gd rfl) rfl rfl rfl rfl rfl (Nat.le_of_ble_eq_true rfl) (mc := 0) (ms := 0) (Nat.zero_le _) (Nat.zero_le _) (P := fun v u => _) ?_ (fun v u h => h)
                        intro po118 xx118 hp118 hx118
                        refine g_enter2 (k := 398) (N := 300) (by first | exact dq1 hd rfl | exact dq0 hd rfl | exact dq2 hd rfl | exact dq3 hd rfl | omega) rfl (Nat.le_of_ble_eq_true rfl) ?_
                        refine g_iload_n 1 (gd rfl) rfl rfl ?_
                        refine g_bipush 42 3 (gd rfl) rfl rfl ?_
                        refine g_cmp_ne 6 10 (gd rfl) rfl rfl (fun c118x3 => ?_) (fun c118x3 => ?_)
                        · skip
                          refine g_iload_n 11 (gd rfl) rfl rfl ?_
                          refine g_bipush 43 13 (gd rfl) rfl rfl ?_
                          refine g_cmp_eq 16 22 (gd rfl) rfl rfl (fun c118x13 => ?_) (fun c118x13 => ?_)
                          · skip
                            have i118x13 := r_eq1 43 43 c118x13 (i_rng z115x21) (in_c 43 rfl) rfl
                            refine g_iconst 2 23 (gd rfl) rfl rfl ?_
                            refine g_goto 43 (gd rfl) rfl ?_
                            refine g_ireturn (gd rfl) rfl rfl (hp118 _ _ ?_)
                            show GG _ _ _ _ _ _ _ _ [.int (Int32.ofInt 2)] _ _ _
                            refine g_iconst 1 122 (gd rfl) rfl rfl ?_
                            refine g_cmp_ne 125 134 (gd rfl) rfl rfl (fun c122 => ?_) (fun c122 => ?_)
                            · skip
                              refine g_aload_n 135 (gd rfl) rfl rfl ?_
                              refine g_aload_n 136 (gd rfl) rfl rfl ?_
                              refine g_getI 139 (gd rfl) rfl rfl rfl (fun z136 e136 => ?_)
                              have q136 : u_109_30 = z136 := (fr_F (e_109_30) hF111 rfl).trans e136.symm
                              subst q136
                              have n139 : (z111b).toInt ≤ 199 := by have a0 := oa10 i76x29 ro_109_29 i12 ((inv_F hI 0 200 rfl e_109_111)) ((inv_F hI 0 400 rfl e_109_109)) h1 ((in_c 1 rfl)) i115x4 i111a i115x20; have a10 := t_sub e115x20 i115x4 (in_c 1 rfl) rfl; omega
                              refine g_callv (X := _) (As := [.int u_109_30]) (r := []) (b := A 109) (q := 109) 142 (gd rfl) rfl rfl rfl rfl rfl (ww_o rfl) (Nat.le_of_ble_eq_true rfl) (Nat.zero_le _) (Nat.zero_le _) (k_396 (by first | exact dq1 hd rfl | exact dq0 hd rfl | exact dq2 hd rfl | exact dq3 hd rfl | omega) hI111 e111a n139) (fun e u h => h) (fun v u h => ?_)
                              obtain ⟨s139, hI139, hF139, n139a, rfl, rfl, p139⟩ := h
                              obtain ⟨z139a, e139⟩ : ∃ w, w = s139.2.2.1 109 111 := ⟨_, rfl⟩
                              have i139a := inv_F hI139 0 200 rfl e139
                              rw [← (show z111b = s111.2.2.1 109 111 from e111a)] at n139a
                              rw [← (show z139a = s139.2.2.1 109 111 from e139)] at n139a
                              show GG _ _ _ _ _ _ _ _ [] _ _ _
                              refine g_iconst 0 143 (gd rfl) rfl rfl ?_
                              have n143 : ((Int32.ofInt 0)).toInt = 0 → PR s s139 1 0 := by intro hR; first | (exfalso; revert hR; decide) | exact pr_tr p91 (pr_hold (hF99.1 187 rfl) (hF99.1 188 rfl) (hF99.2.2.1 109 109 rfl) (hF99.2.2.1 109 23 rfl) p99 (by rw [← e99, ← e91a]; exact n99a) (inv_F hI91 0 200 rfl rfl).1 (Or.inr ⟨by first | (have hi := i76x3; unfold In at hi; omega) | (have hi := i76x13; unfold In at hi; omega) | (have hi := i76x19; unfold In at hi; omega) | (have hi := i76x29; unfold In at hi; omega) | (have hi := i76x35; unfold In at hi; omega), rfl⟩)) | exact pr_tr p111 (pr_hold (hF139.1 187 rfl) (hF139.1 188 rfl) (hF139.2.2.1 109 109 rfl) (hF139.2.2.1 109 23 rfl) p139 (by rw [← e139, ← e111a]; exact n139a) (inv_F hI111 0 200 rfl rfl).1 (Or.inr ⟨by first | (have hi := i76x3; unfold In at hi; omega) | (have hi := i76x13; unfold In at hi; omega) | (have hi := i76x19; unfold In at hi; omega) | (have hi := i76x29; unfold In at hi; omega) | (have hi := i76x35; unfold In at hi; omega), rfl⟩)) | exact pr_tr p111 (pr_tr (b := 1) (pr_flt (hF131.1 187 rfl) (hF131.1 188 rfl) (hF131.2.2.1 109 109 rfl) (by rw [← e131]; omega)) (pr_hold (hF139.1 187 rfl) (hF139.1 188 rfl) (hF139.2.2.1 109 109 rfl) (hF139.2.2.1 109 23 rfl) p139 (by rw [← e139, ← (show z111b = s131.2.2.1 109 111 from fr_F e111a hF131 rfl)]; exact n139a) (inv_F hI131 0 200 rfl rfl).1 (Or.inr ⟨by first | (have hi := i76x3; unfold In at hi; omega) | (have hi := i76x13; unfold In at hi; omega) | (have hi := i76x19; unfold In at hi; omega) | (have hi := i76x29; unfold In at hi; omega) | (have hi := i76x35; unfold In at hi; omega), rfl⟩)))
                              have n143a : ((Int32.ofInt 0)).toInt ≠ 0 → PR s s139 1 1 := by exact fun h => absurd rfl h
                              have n143b : (s.2.2.1 109 28).toInt = 0 → ((Int32.ofInt 0)).toInt = 2 := by rw [← e_109_28]; intro h0; first | rfl | (exfalso; have a0 := oa10 i76x29 ro_109_29 i12 ((inv_F hI 0 200 rfl e_109_111)) ((inv_F hI 0 400 rfl e_109_109)) h1 ((in_c 1 rfl)) i139a i111a i115x20; have a10 := t_sub e115x20 i115x4 (in_c 1 rfl) rfl; have a11 := in_u i115x4; omega)
                              have n143c : (z111a).toInt + (z139a).toInt ≤ (u_109_109).toInt + (u_109_111).toInt + 1 := by have a0 := oa10 i76x29 ro_109_29 i12 ((inv_F hI 0 200 rfl e_109_111)) ((inv_F hI 0 400 rfl e_109_109)) h1 ((in_c 1 rfl)) i139a i111a i115x20; have a10 := t_sub e115x20 i115x4 (in_c 1 rfl) rfl; have a11 := in_u i115x4; omega
                              have n143d : (s139.2.2.1 109 109).toInt + (s139.2.2.1 109 111).toInt ≤ (s.2.2.1 109 109).toInt + (s.2.2.1 109 111).toInt + 1 := by have b0 : z111a = s139.2.2.1 109 109 := fr_F (e111) hF139 rfl; have b1 : z139a = s139.2.2.1 109 111 := e139; first | (rw [← b0, ← b1, ← e_109_109, ← e_109_111]; exact n143c) | (rw [← b0, ← b1]; exact n143c)
                              have n143e : (u_109_28).toInt = 0 → (z111a).toInt + (z139a).toInt = (u_109_109).toInt + (u_109_111).toInt := by have a0 := oa10 i76x29 ro_109_29 i12 ((inv_F hI 0 200 rfl e_109_111)) ((inv_F hI 0 400 rfl e_109_109)) h1 ((in_c 1 rfl)) i139a i111a i115x20; have a10 := t_sub e115x20 i115x4 (in_c 1 rfl) rfl; have a11 := in_u i115x4; omega
                              have n143f : (s.2.2.1 109 28).toInt = 0 → (s139.2.2.1 109 109).toInt + (s139.2.2.1 109 111).toInt = (s.2.2.1 109 109).toInt + (s.2.2.1 109 111).toInt := by have b0 : z111a = s139.2.2.1 109 109 := fr_F (e111) hF139 rfl; have b1 : z139a = s139.2.2.1 109 111 := e139; first | (rw [← b0, ← b1, ← e_109_28, ← e_109_109, ← e_109_111]; exact n143e) | (rw [← b0, ← b1]; exact n143e)
                              exact g_ireturn (gd rfl) rfl rfl (hP _ _ ⟨s139, hI139, (fr_tr rfl (fr_tr rfl fr_rf hF111) hF139), n143d, n143f, (Int32.ofInt 0), rfl, rfl, in_w 0 2 (in_c 0 rfl) rfl, n143, n143a, n143b⟩)
                            · skip
                              exact n_eq c122 (in_c 2 rfl) (in_c 1 rfl) rfl
                          · skip
                            refine g_iload_n 17 (gd rfl) rfl rfl ?_
                            refine g_bipush 45 19 (gd rfl) rfl rfl ?_
                            refine g_cmp_ne 22 26 (gd rfl) rfl rfl (fun c118x19 => ?_) (fun c118x19 => ?_)
                            · skip
                              refine g_iload_n 27 (gd rfl) rfl rfl ?_
                              refine g_bipush 60 29 (gd rfl) rfl rfl ?_
                              refine g_cmp_eq 32 38 (gd rfl) rfl rfl (fun c118x29 => ?_) (fun c118x29 => ?_)
                              · skip
                                have i118x29 := r_eq1 60 60 c118x29 (i_rng z115x21) (in_c 60 rfl) rfl
                                refine g_iconst 1 39 (gd rfl) rfl rfl ?_
                                refine g_goto 43 (gd rfl) rfl ?_
                                refine g_ireturn (gd rfl) rfl rfl (hp118 _ _ ?_)
                                show GG _ _ _ _ _ _ _ _ [.int (Int32.ofInt 1)] _ _ _
                                refine g_iconst 1 122 (gd rfl) rfl rfl ?_
                                refine g_cmp_ne 125 134 (gd rfl) rfl rfl (fun c122 => ?_) (fun c122 => ?_)
                                · skip
                                  exact n_ne c122 (in_c 1 rfl) (in_c 1 rfl) rfl
                                · skip
                                  refine g_aload_n 126 (gd rfl) rfl rfl ?_
                                  refine g_iconst 2 127 (gd rfl) rfl rfl ?_
                                  refine g_aload_n 128 (gd rfl) rfl rfl ?_
                                  refine g_getI 131 (gd rfl) rfl rfl rfl (fun z128 e128 => ?_)
                                  have q128 : u_109_29 = z128 := (fr_F (e_109_29) hF111 rfl).trans e128.symm
                                  subst q128
                                  refine g_callv (X := _) (As := [.int (Int32.ofInt 2), .int u_109_29]) (r := []) (b := A 109) (q := 109) 134 (gd rfl) rfl rfl rfl rfl rfl (ww_o rfl) (Nat.le_of_ble_eq_true rfl) (Nat.zero_le _) (Nat.zero_le _) (k_298 (by first | exact dq1 hd rfl | exact dq0 hd rfl | exact dq2 hd rfl | exact dq3 hd rfl | omega) hI111 (in_w 1 5 (in_c 2 rfl) rfl)) (fun e u h => h) (fun v u h => ?_)
                                  obtain ⟨s131, hI131, hF131, n131, rfl, rfl⟩ := h
                                  obtain ⟨z131a, e131⟩ : ∃ w, w = s131.2.2.1 109 23 := ⟨_, rfl⟩
                                  have i131a := inv_F hI131 0 9 rfl e131
                                  rw [← (show z131a = s131.2.2.1 109 23 from e131)] at n131
                                  show GG _ _ _ _ _ _ _ _ [] _ _ _
                                  refine g_aload_n 135 (gd rfl) rfl rfl ?_
                                  refine g_aload_n 136 (gd rfl) rfl rfl ?_
                                  refine g_getI 139 (gd rfl) rfl rfl rfl (fun z136 e136 => ?_)
                                  have q136 : u_109_30 = z136 := (fr_F (fr_F (e_109_30) hF111 rfl) hF131 rfl).trans e136.symm
                                  subst q136
                                  have v139 : z111b = s131.2.2.1 109 111 := fr_F (e111a) hF131 rfl
                                  have n139 : (z111b).toInt ≤ 199 := by have a0 := oa11 i76x29 ro_109_29 i12 ((inv_F hI 0 200 rfl e_109_111)) ((inv_F hI 0 400 rfl e_109_109)) h1 ((in_c 1 rfl)) i131a i115x4 i111a i115x20; have a11 := t_sub e115x20 i115x4 (in_c 1 rfl) rfl; omega
                                  refine g_callv (X := _) (As := [.int u_109_30]) (r := []) (b := A 109) (q := 109) 142 (gd rfl) rfl rfl rfl rfl rfl (ww_o rfl) (Nat.le_of_ble_eq_true rfl) (Nat.zero_le _) (Nat.zero_le _) (k_396 (by first | exact dq1 hd rfl | exact dq0 hd rfl | exact dq2 hd rfl | exact dq3 hd rfl | omega) hI131 v139 n139) (fun e u h => h) (fun v u h => ?_)
                                  obtain ⟨s139, hI139, hF139, n139a, rfl, rfl, p139⟩ := h
                                  obtain ⟨z139a, e139⟩ : ∃ w, w = s139.2.2.1 109 111 := ⟨_, rfl⟩
                                  have i139a := inv_F hI139 0 200 rfl e139
                                  rw [← (show z111b = s131.2.2.1 109 111 from fr_F (e111a) hF131 rfl)] at n139a
                                  rw [← (show z139a = s139.2.2.1 109 111 from e139)] at n139a
                                  show GG _ _ _ _ _ _ _ _ [] _ _ _
                                  refine g_iconst 0 143 (gd rfl) rfl rfl ?_
                                  have n143 : ((Int32.ofInt 0)).toInt = 0 → PR s s139 1 0 := by intro hR; first | (exfalso; revert hR; decide) | exact pr_tr p91 (pr_hold (hF99.1 187 rfl) (hF99.1 188 rfl) (hF99.2.2.1 109 109 rfl) (hF99.2.2.1 109 23 rfl) p99 (by rw [← e99, ← e91a]; exact n99a) (inv_F hI91 0 200 rfl rfl).1 (Or.inr ⟨by first | (have hi := i76x3; unfold In at hi; omega) | (have hi := i76x13; unfold In at hi; omega) | (have hi := i76x19; unfold In at hi; omega) | (have hi := i76x29; unfold In at hi; omega) | (have hi := i76x35; unfold In at hi; omega), rfl⟩)) | exact pr_tr p111 (pr_hold (hF139.1 187 rfl) (hF139.1 188 rfl) (hF139.2.2.1 109 109 rfl) (hF139.2.2.1 109 23 rfl) p139 (by rw [← e139, ← e111a]; exact n139a) (inv_F hI111 0 200 rfl rfl).1 (Or.inr ⟨by first | (have hi := i76x3; unfold In at hi; omega) | (have hi := i76x13; unfold In at hi; omega) | (have hi := i76x19; unfold In at hi; omega) | (have hi := i76x29; unfold In at hi; omega) | (have hi := i76x35; unfold In at hi; omega), rfl⟩)) | exact pr_tr p111 (pr_tr (b := 1) (pr_flt (hF131.1 187 rfl) (hF131.1 188 rfl) (hF131.2.2.1 109 109 rfl) (by rw [← e131]; omega)) (pr_hold (hF139.1 187 rfl) (hF139.1 188 rfl) (hF139.2.2.1 109 109 rfl) (hF139.2.2.1 109 23 rfl) p139 (by rw [← e139, ← (show z111b = s131.2.2.1 109 111 from fr_F e111a hF131 rfl)]; exact n139a) (inv_F hI131 0 200 rfl rfl).1 (Or.inr ⟨by first | (have hi := i76x3; unfold In at hi; omega) | (have hi := i76x13; unfold In at hi; omega) | (have hi := i76x19; unfold In at hi; omega) | (have hi := i76x29; unfold In at hi; omega) | (have hi := i76x35; unfold In at hi; omega), rfl⟩)))
                                  have n143a : ((Int32.ofInt 0)).toInt ≠ 0 → PR s s139 1 1 := by exact fun h => absurd rfl h
                                  have n143b : (s.2.2.1 109 28).toInt = 0 → ((Int32.ofInt 0)).toInt = 2 := by rw [← e_109_28]; intro h0; first | rfl | (exfalso; have a0 := oa11 i76x29 ro_109_29 i12 ((inv_F hI 0 200 rfl e_109_111)) ((inv_F hI 0 400 rfl e_109_109)) h1 ((in_c 1 rfl)) i139a i131a i111a i115x20; have a11 := t_sub e115x20 i115x4 (in_c 1 rfl) rfl; have a12 := in_u i115x4; omega)
                                  have n143c : (z111a).toInt + (z139a).toInt ≤ (u_109_109).toInt + (u_109_111).toInt + 1 := by have a0 := oa11 i76x29 ro_109_29 i12 ((inv_F hI 0 200 rfl e_109_111)) ((inv_F hI 0 400 rfl e_109_109)) h1 ((in_c 1 rfl)) i139a i131a i111a i115x20; have a11 := t_sub e115x20 i115x4 (in_c 1 rfl) rfl; have a12 := in_u i115x4; omega
                                  have n143d : (s139.2.2.1 109 109).toInt + (s139.2.2.1 109 111).toInt ≤ (s.2.2.1 109 109).toInt + (s.2.2.1 109 111).toInt + 1 := by have b0 : z111a = s139.2.2.1 109 109 := fr_F (fr_F (e111) hF131 rfl) hF139 rfl; have b1 : z139a = s139.2.2.1 109 111 := e139; first | (rw [← b0, ← b1, ← e_109_109, ← e_109_111]; exact n143c) | (rw [← b0, ← b1]; exact n143c)
                                  have n143e : (u_109_28).toInt = 0 → (z111a).toInt + (z139a).toInt = (u_109_109).toInt + (u_109_111).toInt := by have a0 := oa11 i76x29 ro_109_29 i12 ((inv_F hI 0 200 rfl e_109_111)) ((inv_F hI 0 400 rfl e_109_109)) h1 ((in_c 1 rfl)) i139a i131a i111a i115x20; have a11 := t_sub e115x20 i115x4 (in_c 1 rfl) rfl; have a12 := in_u i115x4; omega
                                  have n143f : (s.2.2.1 109 28).toInt = 0 → (s139.2.2.1 109 109).toInt + (s139.2.2.1 109 111).toInt = (s.2.2.1 109 109).toInt + (s.2.2.1 109 111).toInt := by have b0 : z111a = s139.2.2.1 109 109 := fr_F (fr_F (e111) hF131 rfl) hF139 rfl; have b1 : z139a = s139.2.2.1 109 111 := e139; first | (rw [← b0, ← b1, ← e_109_28, ← e_109_109, ← e_109_111]; exact n143e) | (rw [← b0, ← b1]; exact n143e)
                                  exact g_ireturn (gd rfl) rfl rfl (hP _ _ ⟨s139, hI139, (fr_tr rfl (fr_tr rfl (fr_tr rfl fr_rf hF111) hF131) hF139), n143d, n143f, (Int32.ofInt 0), rfl, rfl, in_w 0 2 (in_c 0 rfl) rfl, n143, n143a, n143b⟩)
                              · skip
                                refine g_iload_n 33 (gd rfl) rfl rfl ?_
                                refine g_bipush 61 35 (gd rfl) rfl rfl ?_
                                refine g_cmp_ne 38 42 (gd rfl) rfl rfl (fun c118x35 => ?_) (fun c118x35 => ?_)
                                · skip
                                  refine g_iconst 0 43 (gd rfl) rfl rfl ?_
                                  refine g_ireturn (gd rfl) rfl rfl (hp118 _ _ ?_)
                                  show GG _ _ _ _ _ _ _ _ [.int (Int32.ofInt 0)] _ _ _
                                  refine g_iconst 1 122 (gd rfl) rfl rfl ?_
                                  refine g_cmp_ne 125 134 (gd rfl) rfl rfl (fun c122 => ?_) (fun c122 => ?_)
                                  · skip
                                    refine g_aload_n 135 (gd rfl) rfl rfl ?_
                                    refine g_aload_n 136 (gd rfl) rfl rfl ?_
                                    refine g_getI 139 (gd rfl) rfl rfl rfl (fun z136 e136 => ?_)
                                    have q136 : u_109_30 = z136 := (fr_F (e_109_30) hF111 rfl).trans e136.symm
                                    subst q136
                                    have n139 : (z111b).toInt ≤ 199 := by have a0 := oa10 i76x29 ro_109_29 i12 ((inv_F hI 0 200 rfl e_109_111)) ((inv_F hI 0 400 rfl e_109_109)) h1 ((in_c 1 rfl)) i115x4 i111a i115x20; have a10 := t_sub e115x20 i115x4 (in_c 1 rfl) rfl; omega
                                    refine g_callv (X := _) (As := [.int u_109_30]) (r := []) (b := A 109) (q := 109) 142 (gd rfl) rfl rfl rfl rfl rfl (ww_o rfl) (Nat.le_of_ble_eq_true rfl) (Nat.zero_le _) (Nat.zero_le _) (k_396 (by first | exact dq1 hd rfl | exact dq0 hd rfl | exact dq2 hd rfl | exact dq3 hd rfl | omega) hI111 e111a n139) (fun e u h => h) (fun v u h => ?_)
                                    obtain ⟨s139, hI139, hF139, n139a, rfl, rfl, p139⟩ := h
                                    obtain ⟨z139a, e139⟩ : ∃ w, w = s139.2.2.1 109 111 := ⟨_, rfl⟩
                                    have i139a := inv_F hI139 0 200 rfl e139
                                    rw [← (show z111b = s111.2.2.1 109 111 from e111a)] at n139a
                                    rw [← (show z139a = s139.2.2.1 109 111 from e139)] at n139a
                                    show GG _ _ _ _ _ _ _ _ [] _ _ _
                                    refine g_iconst 0 143 (gd rfl) rfl rfl ?_
                                    have n143 : ((Int32.ofInt 0)).toInt = 0 → PR s s139 1 0 := by intro hR; first | (exfalso; revert hR; decide) | exact pr_tr p91 (pr_hold (hF99.1 187 rfl) (hF99.1 188 rfl) (hF99.2.2.1 109 109 rfl) (hF99.2.2.1 109 23 rfl) p99 (by rw [← e99, ← e91a]; exact n99a) (inv_F hI91 0 200 rfl rfl).1 (Or.inr ⟨by first | (have hi := i76x3; unfold In at hi; omega) | (have hi := i76x13; unfold In at hi; omega) | (have hi := i76x19; unfold In at hi; omega) | (have hi := i76x29; unfold In at hi; omega) | (have hi := i76x35; unfold In at hi; omega), rfl⟩)) | exact pr_tr p111 (pr_hold (hF139.1 187 rfl) (hF139.1 188 rfl) (hF139.2.2.1 109 109 rfl) (hF139.2.2.1 109 23 rfl) p139 (by rw [← e139, ← e111a]; exact n139a) (inv_F hI111 0 200 rfl rfl).1 (Or.inr ⟨by first | (have hi := i76x3; unfold In at hi; omega) | (have hi := i76x13; unfold In at hi; omega) | (have hi := i76x19; unfold In at hi; omega) | (have hi := i76x29; unfold In at hi; omega) | (have hi := i76x35; unfold In at hi; omega), rfl⟩)) | exact pr_tr p111 (pr_tr (b := 1) (pr_flt (hF131.1 187 rfl) (hF131.1 188 rfl) (hF131.2.2.1 109 109 rfl) (by rw [← e131]; omega)) (pr_hold (hF139.1 187 rfl) (hF139.1 188 rfl) (hF139.2.2.1 109 109 rfl) (hF139.2.2.1 109 23 rfl) p139 (by rw [← e139, ← (show z111b = s131.2.2.1 109 111 from fr_F e111a hF131 rfl)]; exact n139a) (inv_F hI131 0 200 rfl rfl).1 (Or.inr ⟨by first | (have hi := i76x3; unfold In at hi; omega) | (have hi := i76x13; unfold In at hi; omega) | (have hi := i76x19; unfold In at hi; omega) | (have hi := i76x29; unfold In at hi; omega) | (have hi := i76x35; unfold In at hi; omega), rfl⟩)))
                                    have n143a : ((Int32.ofInt 0)).toInt ≠ 0 → PR s s139 1 1 := by exact fun h => absurd rfl h
                                    have n143b : (s.2.2.1 109 28).toInt = 0 → ((Int32.ofInt 0)).toInt = 2 := by rw [← e_109_28]; intro h0; first | rfl | (exfalso; have a0 := oa10 i76x29 ro_109_29 i12 ((inv_F hI 0 200 rfl e_109_111)) ((inv_F hI 0 400 rfl e_109_109)) h1 ((in_c 1 rfl)) i139a i111a i115x20; have a10 := t_sub e115x20 i115x4 (in_c 1 rfl) rfl; have a11 := in_u i115x4; omega)
                                    have n143c : (z111a).toInt + (z139a).toInt ≤ (u_109_109).toInt + (u_109_111).toInt + 1 := by have a0 := oa10 i76x29 ro_109_29 i12 ((inv_F hI 0 200 rfl e_109_111)) ((inv_F hI 0 400 rfl e_109_109)) h1 ((in_c 1 rfl)) i139a i111a i115x20; have a10 := t_sub e115x20 i115x4 (in_c 1 rfl) rfl; have a11 := in_u i115x4; omega
                                    have n143d : (s139.2.2.1 109 109).toInt + (s139.2.2.1 109 111).toInt ≤ (s.2.2.1 109 109).toInt + (s.2.2.1 109 111).toInt + 1 := by have b0 : z111a = s139.2.2.1 109 109 := fr_F (e111) hF139 rfl; have b1 : z139a = s139.2.2.1 109 111 := e139; first | (rw [← b0, ← b1, ← e_109_109, ← e_109_111]; exact n143c) | (rw [← b0, ← b1]; exact n143c)
                                    have n143e : (u_109_28).toInt = 0 → (z111a).toInt + (z139a).toInt = (u_109_109).toInt + (u_109_111).toInt := by have a0 := oa10 i76x29 ro_109_29 i12 ((inv_F hI 0 200 rfl e_109_111)) ((inv_F hI 0 400 rfl e_109_109)) h1 ((in_c 1 rfl)) i139a i111a i115x20; have a10 := t_sub e115x20 i115x4 (in_c 1 rfl) rfl; have a11 := in_u i115x4; omega
                                    have n143f : (s.2.2.1 109 28).toInt = 0 → (s139.2.2.1 109 109).toInt + (s139.2.2.1 109 111).toInt = (s.2.2.1 109 109).toInt + (s.2.2.1 109 111).toInt := by have b0 : z111a = s139.2.2.1 109 109 := fr_F (e111) hF139 rfl; have b1 : z139a = s139.2.2.1 109 111 := e139; first | (rw [← b0, ← b1, ← e_109_28, ← e_109_109, ← e_109_111]; exact n143e) | (rw [← b0, ← b1]; exact n143e)
                                    exact g_ireturn (gd rfl) rfl rfl (hP _ _ ⟨s139, hI139, (fr_tr rfl (fr_tr rfl fr_rf hF111) hF139), n143d, n143f, (Int32.ofInt 0), rfl, rfl, in_w 0 2 (in_c 0 rfl) rfl, n143, n143a, n143b⟩)
                                  · skip
                                    exact n_eq c122 (in_c 0 rfl) (in_c 1 rfl) rfl
                                · skip
                                  have i118x35 := r_eq1 61 61 c118x35 (i_rng z115x21) (in_c 61 rfl) rfl
                                  refine g_iconst 1 39 (gd rfl) rfl rfl ?_
                                  refine g_goto 43 (gd rfl) rfl ?_
                                  refine g_ireturn (gd rfl) rfl rfl (hp118 _ _ ?_)
                                  show GG _ _ _ _ _ _ _ _ [.int (Int32.ofInt 1)] _ _ _
                                  refine g_iconst 1 122 (gd rfl) rfl rfl ?_
                                  refine g_cmp_ne 125 134 (gd rfl) rfl rfl (fun c122 => ?_) (fun c122 => ?_)
                                  · skip
                                    exact n_ne c122 (in_c 1 rfl) (in_c 1 rfl) rfl
                                  · skip
                                    refine g_aload_n 126 (gd rfl) rfl rfl ?_
                                    refine g_iconst 2 127 (gd rfl) rfl rfl ?_
                                    refine g_aload_n 128 (gd rfl) rfl rfl ?_
                                    refine g_getI 131 (gd rfl) rfl rfl rfl (fun z128 e128 => ?_)
                                    have q128 : u_109_29 = z128 := (fr_F (e_109_29) hF111 rfl).trans e128.symm
                                    subst q128
                                    refine g_callv (X := _) (As := [.int (Int32.ofInt 2), .int u_109_29]) (r := []) (b := A 109) (q := 109) 134 (gd rfl) rfl rfl rfl rfl rfl (ww_o rfl) (Nat.le_of_ble_eq_true rfl) (Nat.zero_le _) (Nat.zero_le _) (k_298 (by first | exact dq1 hd rfl | exact dq0 hd rfl | exact dq2 hd rfl | exact dq3 hd rfl | omega) hI111 (in_w 1 5 (in_c 2 rfl) rfl)) (fun e u h => h) (fun v u h => ?_)
                                    obtain ⟨s131, hI131, hF131, n131, rfl, rfl⟩ := h
                                    obtain ⟨z131a, e131⟩ : ∃ w, w = s131.2.2.1 109 23 := ⟨_, rfl⟩
                                    have i131a := inv_F hI131 0 9 rfl e131
                                    rw [← (show z131a = s131.2.2.1 109 23 from e131)] at n131
                                    show GG _ _ _ _ _ _ _ _ [] _ _ _
                                    refine g_aload_n 135 (gd rfl) rfl rfl ?_
                                    refine g_aload_n 136 (gd rfl) rfl rfl ?_
                                    refine g_getI 139 (gd rfl) rfl rfl rfl (fun z136 e136 => ?_)
                                    have q136 : u_109_30 = z136 := (fr_F (fr_F (e_109_30) hF111 rfl) hF131 rfl).trans e136.symm
                                    subst q136
                                    have v139 : z111b = s131.2.2.1 109 111 := fr_F (e111a) hF131 rfl
                                    have n139 : (z111b).toInt ≤ 199 := by have a0 := oa11 i76x29 ro_109_29 i12 ((inv_F hI 0 200 rfl e_109_111)) ((inv_F hI 0 400 rfl e_109_109)) h1 ((in_c 1 rfl)) i131a i115x4 i111a i115x20; have a11 := t_sub e115x20 i115x4 (in_c 1 rfl) rfl; omega
                                    refine g_callv (X := _) (As := [.int u_109_30]) (r := []) (b := A 109) (q := 109) 142 (gd rfl) rfl rfl rfl rfl rfl (ww_o rfl) (Nat.le_of_ble_eq_true rfl) (Nat.zero_le _) (Nat.zero_le _) (k_396 (by first | exact dq1 hd rfl | exact dq0 hd rfl | exact dq2 hd rfl | exact dq3 hd rfl | omega) hI131 v139 n139) (fun e u h => h) (fun v u h => ?_)
                                    obtain ⟨s139, hI139, hF139, n139a, rfl, rfl, p139⟩ := h
                                    obtain ⟨z139a, e139⟩ : ∃ w, w = s139.2.2.1 109 111 := ⟨_, rfl⟩
                                    have i139a := inv_F hI139 0 200 rfl e139
                                    rw [← (show z111b = s131.2.2.1 109 111 from fr_F (e111a) hF131 rfl)] at n139a
                                    rw [← (show z139a = s139.2.2.1 109 111 from e139)] at n139a
                                    show GG _ _ _ _ _ _ _ _ [] _ _ _
                                    refine g_iconst 0 143 (gd rfl) rfl rfl ?_
                                    have n143 : ((Int32.ofInt 0)).toInt = 0 → PR s s139 1 0 := by intro hR; first | (exfalso; revert hR; decide) | exact pr_tr p91 (pr_hold (hF99.1 187 rfl) (hF99.1 188 rfl) (hF99.2.2.1 109 109 rfl) (hF99.2.2.1 109 23 rfl) p99 (by rw [← e99, ← e91a]; exact n99a) (inv_F hI91 0 200 rfl rfl).1 (Or.inr ⟨by first | (have hi := i76x3; unfold In at hi; omega) | (have hi := i76x13; unfold In at hi; omega) | (have hi := i76x19; unfold In at hi; omega) | (have hi := i76x29; unfold In at hi; omega) | (have hi := i76x35; unfold In at hi; omega), rfl⟩)) | exact pr_tr p111 (pr_hold (hF139.1 187 rfl) (hF139.1 188 rfl) (hF139.2.2.1 109 109 rfl) (hF139.2.2.1 109 23 rfl) p139 (by rw [← e139, ← e111a]; exact n139a) (inv_F hI111 0 200 rfl rfl).1 (Or.inr ⟨by first | (have hi := i76x3; unfold In at hi; omega) | (have hi := i76x13; unfold In at hi; omega) | (have hi := i76x19; unfold In at hi; omega) | (have hi := i76x29; unfold In at hi; omega) | (have hi := i76x35; unfold In at hi; omega), rfl⟩)) | exact pr_tr p111 (pr_tr (b := 1) (pr_flt (hF131.1 187 rfl) (hF131.1 188 rfl) (hF131.2.2.1 109 109 rfl) (by rw [← e131]; omega)) (pr_hold (hF139.1 187 rfl) (hF139.1 188 rfl) (hF139.2.2.1 109 109 rfl) (hF139.2.2.1 109 23 rfl) p139 (by rw [← e139, ← (show z111b = s131.2.2.1 109 111 from fr_F e111a hF131 rfl)]; exact n139a) (inv_F hI131 0 200 rfl rfl).1 (Or.inr ⟨by first | (have hi := i76x3; unfold In at hi; omega) | (have hi := i76x13; unfold In at hi; omega) | (have hi := i76x19; unfold In at hi; omega) | (have hi := i76x29; unfold In at hi; omega) | (have hi := i76x35; unfold In at hi; omega), rfl⟩)))
                                    have n143a : ((Int32.ofInt 0)).toInt ≠ 0 → PR s s139 1 1 := by exact fun h => absurd rfl h
                                    have n143b : (s.2.2.1 109 28).toInt = 0 → ((Int32.ofInt 0)).toInt = 2 := by rw [← e_109_28]; intro h0; first | rfl | (exfalso; have a0 := oa11 i76x29 ro_109_29 i12 ((inv_F hI 0 200 rfl e_109_111)) ((inv_F hI 0 400 rfl e_109_109)) h1 ((in_c 1 rfl)) i139a i131a i111a i115x20; have a11 := t_sub e115x20 i115x4 (in_c 1 rfl) rfl; have a12 := in_u i115x4; omega)
                                    have n143c : (z111a).toInt + (z139a).toInt ≤ (u_109_109).toInt + (u_109_111).toInt + 1 := by have a0 := oa11 i76x29 ro_109_29 i12 ((inv_F hI 0 200 rfl e_109_111)) ((inv_F hI 0 400 rfl e_109_109)) h1 ((in_c 1 rfl)) i139a i131a i111a i115x20; have a11 := t_sub e115x20 i115x4 (in_c 1 rfl) rfl; have a12 := in_u i115x4; omega
                                    have n143d : (s139.2.2.1 109 109).toInt + (s139.2.2.1 109 111).toInt ≤ (s.2.2.1 109 109).toInt + (s.2.2.1 109 111).toInt + 1 := by have b0 : z111a = s139.2.2.1 109 109 := fr_F (fr_F (e111) hF131 rfl) hF139 rfl; have b1 : z139a = s139.2.2.1 109 111 := e139; first | (rw [← b0, ← b1, ← e_109_109, ← e_109_111]; exact n143c) | (rw [← b0, ← b1]; exact n143c)
                                    have n143e : (u_109_28).toInt = 0 → (z111a).toInt + (z139a).toInt = (u_109_109).toInt + (u_109_111).toInt := by have a0 := oa11 i76x29 ro_109_29 i12 ((inv_F hI 0 200 rfl e_109_111)) ((inv_F hI 0 400 rfl e_109_109)) h1 ((in_c 1 rfl)) i139a i131a i111a i115x20; have a11 := t_sub e115x20 i115x4 (in_c 1 rfl) rfl; have a12 := in_u i115x4; omega
                                    have n143f : (s.2.2.1 109 28).toInt = 0 → (s139.2.2.1 109 109).toInt + (s139.2.2.1 109 111).toInt = (s.2.2.1 109 109).toInt + (s.2.2.1 109 111).toInt := by have b0 : z111a = s139.2.2.1 109 109 := fr_F (fr_F (e111) hF131 rfl) hF139 rfl; have b1 : z139a = s139.2.2.1 109 111 := e139; first | (rw [← b0, ← b1, ← e_109_28, ← e_109_109, ← e_109_111]; exact n143e) | (rw [← b0, ← b1]; exact n143e)
                                    exact g_ireturn (gd rfl) rfl rfl (hP _ _ ⟨s139, hI139, (fr_tr rfl (fr_tr rfl (fr_tr rfl fr_rf hF111) hF131) hF139), n143d, n143f, (Int32.ofInt 0), rfl, rfl, in_w 0 2 (in_c 0 rfl) rfl, n143, n143a, n143b⟩)
                            · skip
                              have i118x19 := r_eq1 45 45 c118x19 (i_rng z115x21) (in_c 45 rfl) rfl
                              refine g_iconst 2 23 (gd rfl) rfl rfl ?_
                              refine g_goto 43 (gd rfl) rfl ?_
                              refine g_ireturn (gd rfl) rfl rfl (hp118 _ _ ?_)
                              show GG _ _ _ _ _ _ _ _ [.int (Int32.ofInt 2)] _ _ _
                              refine g_iconst 1 122 (gd rfl) rfl rfl ?_
                              refine g_cmp_ne 125 134 (gd rfl) rfl rfl (fun c122 => ?_) (fun c122 => ?_)
                              · skip
                                refine g_aload_n 135 (gd rfl) rfl rfl ?_
                                refine g_aload_n 136 (gd rfl) rfl rfl ?_
                                refine g_getI 139 (gd rfl) rfl rfl rfl (fun z136 e136 => ?_)
                                have q136 : u_109_30 = z136 := (fr_F (e_109_30) hF111 rfl).trans e136.symm
                                subst q136
                                have n139 : (z111b).toInt ≤ 199 := by have a0 := oa10 i76x29 ro_109_29 i12 ((inv_F hI 0 200 rfl e_109_111)) ((inv_F hI 0 400 rfl e_109_109)) h1 ((in_c 1 rfl)) i115x4 i111a i115x20; have a10 := t_sub e115x20 i115x4 (in_c 1 rfl) rfl; omega
                                refine g_callv (X := _) (As := [.int u_109_30]) (r := []) (b := A 109) (q := 109) 142 (gd rfl) rfl rfl rfl rfl rfl (ww_o rfl) (Nat.le_of_ble_eq_true rfl) (Nat.zero_le _) (Nat.zero_le _) (k_396 (by first | exact dq1 hd rfl | exact dq0 hd rfl | exact dq2 hd rfl | exact dq3 hd rfl | omega) hI111 e111a n139) (fun e u h => h) (fun v u h => ?_)
                                obtain ⟨s139, hI139, hF139, n139a, rfl, rfl, p139⟩ := h
                                obtain ⟨z139a, e139⟩ : ∃ w, w = s139.2.2.1 109 111 := ⟨_, rfl⟩
                                have i139a := inv_F hI139 0 200 rfl e139
                                rw [← (show z111b = s111.2.2.1 109 111 from e111a)] at n139a
                                rw [← (show z139a = s139.2.2.1 109 111 from e139)] at n139a
                                show GG _ _ _ _ _ _ _ _ [] _ _ _
                                refine g_iconst 0 143 (gd rfl) rfl rfl ?_
                                have n143 : ((Int32.ofInt 0)).toInt = 0 → PR s s139 1 0 := by intro hR; first | (exfalso; revert hR; decide) | exact pr_tr p91 (pr_hold (hF99.1 187 rfl) (hF99.1 188 rfl) (hF99.2.2.1 109 109 rfl) (hF99.2.2.1 109 23 rfl) p99 (by rw [← e99, ← e91a]; exact n99a) (inv_F hI91 0 200 rfl rfl).1 (Or.inr ⟨by first | (have hi := i76x3; unfold In at hi; omega) | (have hi := i76x13; unfold In at hi; omega) | (have hi := i76x19; unfold In at hi; omega) | (have hi := i76x29; unfold In at hi; omega) | (have hi := i76x35; unfold In at hi; omega), rfl⟩)) | exact pr_tr p111 (pr_hold (hF139.1 187 rfl) (hF139.1 188 rfl) (hF139.2.2.1 109 109 rfl) (hF139.2.2.1 109 23 rfl) p139 (by rw [← e139, ← e111a]; exact n139a) (inv_F hI111 0 200 rfl rfl).1 (Or.inr ⟨by first | (have hi := i76x3; unfold In at hi; omega) | (have hi := i76x13; unfold In at hi; omega) | (have hi := i76x19; unfold In at hi; omega) | (have hi := i76x29; unfold In at hi; omega) | (have hi := i76x35; unfold In at hi; omega), rfl⟩)) | exact pr_tr p111 (pr_tr (b := 1) (pr_flt (hF131.1 187 rfl) (hF131.1 188 rfl) (hF131.2.2.1 109 109 rfl) (by rw [← e131]; omega)) (pr_hold (hF139.1 187 rfl) (hF139.1 188 rfl) (hF139.2.2.1 109 109 rfl) (hF139.2.2.1 109 23 rfl) p139 (by rw [← e139, ← (show z111b = s131.2.2.1 109 111 from fr_F e111a hF131 rfl)]; exact n139a) (inv_F hI131 0 200 rfl rfl).1 (Or.inr ⟨by first | (have hi := i76x3; unfold In at hi; omega) | (have hi := i76x13; unfold In at hi; omega) | (have hi := i76x19; unfold In at hi; omega) | (have hi := i76x29; unfold In at hi; omega) | (have hi := i76x35; unfold In at hi; omega), rfl⟩)))
                                have n143a : ((Int32.ofInt 0)).toInt ≠ 0 → PR s s139 1 1 := by exact fun h => absurd rfl h
                                have n143b : (s.2.2.1 109 28).toInt = 0 → ((Int32.ofInt 0)).toInt = 2 := by rw [← e_109_28]; intro h0; first | rfl | (exfalso; have a0 := oa10 i76x29 ro_109_29 i12 ((inv_F hI 0 200 rfl e_109_111)) ((inv_F hI 0 400 rfl e_109_109)) h1 ((in_c 1 rfl)) i139a i111a i115x20; have a10 := t_sub e115x20 i115x4 (in_c 1 rfl) rfl; have a11 := in_u i115x4; omega)
                                have n143c : (z111a).toInt + (z139a).toInt ≤ (u_109_109).toInt + (u_109_111).toInt + 1 := by have a0 := oa10 i76x29 ro_109_29 i12 ((inv_F hI 0 200 rfl e_109_111)) ((inv_F hI 0 400 rfl e_109_109)) h1 ((in_c 1 rfl)) i139a i111a i115x20; have a10 := t_sub e115x20 i115x4 (in_c 1 rfl) rfl; have a11 := in_u i115x4; omega
                                have n143d : (s139.2.2.1 109 109).toInt + (s139.2.2.1 109 111).toInt ≤ (s.2.2.1 109 109).toInt + (s.2.2.1 109 111).toInt + 1 := by have b0 : z111a = s139.2.2.1 109 109 := fr_F (e111) hF139 rfl; have b1 : z139a = s139.2.2.1 109 111 := e139; first | (rw [← b0, ← b1, ← e_109_109, ← e_109_111]; exact n143c) | (rw [← b0, ← b1]; exact n143c)
                                have n143e : (u_109_28).toInt = 0 → (z111a).toInt + (z139a).toInt = (u_109_109).toInt + (u_109_111).toInt := by have a0 := oa10 i76x29 ro_109_29 i12 ((inv_F hI 0 200 rfl e_109_111)) ((inv_F hI 0 400 rfl e_109_109)) h1 ((in_c 1 rfl)) i139a i111a i115x20; have a10 := t_sub e115x20 i115x4 (in_c 1 rfl) rfl; have a11 := in_u i115x4; omega
                                have n143f : (s.2.2.1 109 28).toInt = 0 → (s139.2.2.1 109 109).toInt + (s139.2.2.1 109 111).toInt = (s.2.2.1 109 109).toInt + (s.2.2.1 109 111).toInt := by have b0 : z111a = s139.2.2.1 109 109 := fr_F (e111) hF139 rfl; have b1 : z139a = s139.2.2.1 109 111 := e139; first | (rw [← b0, ← b1, ← e_109_28, ← e_109_109, ← e_109_111]; exact n143e) | (rw [← b0, ← b1]; exact n143e)
                                exact g_ireturn (gd rfl) rfl rfl (hP _ _ ⟨s139, hI139, (fr_tr rfl (fr_tr rfl fr_rf hF111) hF139), n143d, n143f, (Int32.ofInt 0), rfl, rfl, in_w 0 2 (in_c 0 rfl) rfl, n143, n143a, n143b⟩)
                              · skip
                                exact n_eq c122 (in_c 2 rfl) (in_c 1 rfl) rfl
                        · skip
                          have i118x3 := r_eq1 42 42 c118x3 (i_rng z115x21) (in_c 42 rfl) rfl
                          refine g_iconst 3 7 (gd rfl) rfl rfl ?_
                          refine g_goto 43 (gd rfl) rfl ?_
                          refine g_ireturn (gd rfl) rfl rfl (hp118 _ _ ?_)
                          show GG _ _ _ _ _ _ _ _ [.int (Int32.ofInt 3)] _ _ _
                          refine g_iconst 1 122 (gd rfl) rfl rfl ?_
                          refine g_cmp_ne 125 134 (gd rfl) rfl rfl (fun c122 => ?_) (fun c122 => ?_)
                          · skip
                            refine g_aload_n 135 (gd rfl) rfl rfl ?_
                            refine g_aload_n 136 (gd rfl) rfl rfl ?_
                            refine g_getI 139 (gd rfl) rfl rfl rfl (fun z136 e136 => ?_)
                            have q136 : u_109_30 = z136 := (fr_F (e_109_30) hF111 rfl).trans e136.symm
                            subst q136
                            have n139 : (z111b).toInt ≤ 199 := by have a0 := oa10 i76x29 ro_109_29 i12 ((inv_F hI 0 200 rfl e_109_111)) ((inv_F hI 0 400 rfl e_109_109)) h1 ((in_c 1 rfl)) i115x4 i111a i115x20; have a10 := t_sub e115x20 i115x4 (in_c 1 rfl) rfl; omega
                            refine g_callv (X := _) (As := [.int u_109_30]) (r := []) (b := A 109) (q := 109) 142 (gd rfl) rfl rfl rfl rfl rfl (ww_o rfl) (Nat.le_of_ble_eq_true rfl) (Nat.zero_le _) (Nat.zero_le _) (k_396 (by first | exact dq1 hd rfl | exact dq0 hd rfl | exact dq2 hd rfl | exact dq3 hd rfl | omega) hI111 e111a n139) (fun e u h => h) (fun v u h => ?_)
                            obtain ⟨s139, hI139, hF139, n139a, rfl, rfl, p139⟩ := h
                            obtain ⟨z139a, e139⟩ : ∃ w, w = s139.2.2.1 109 111 := ⟨_, rfl⟩
                            have i139a := inv_F hI139 0 200 rfl e139
                            rw [← (show z111b = s111.2.2.1 109 111 from e111a)] at n139a
                            rw [← (show z139a = s139.2.2.1 109 111 from e139)] at n139a
                            show GG _ _ _ _ _ _ _ _ [] _ _ _
                            refine g_iconst 0 143 (gd rfl) rfl rfl ?_
                            have n143 : ((Int32.ofInt 0)).toInt = 0 → PR s s139 1 0 := by intro hR; first | (exfalso; revert hR; decide) | exact pr_tr p91 (pr_hold (hF99.1 187 rfl) (hF99.1 188 rfl) (hF99.2.2.1 109 109 rfl) (hF99.2.2.1 109 23 rfl) p99 (by rw [← e99, ← e91a]; exact n99a) (inv_F hI91 0 200 rfl rfl).1 (Or.inr ⟨by first | (have hi := i76x3; unfold In at hi; omega) | (have hi := i76x13; unfold In at hi; omega) | (have hi := i76x19; unfold In at hi; omega) | (have hi := i76x29; unfold In at hi; omega) | (have hi := i76x35; unfold In at hi; omega), rfl⟩)) | exact pr_tr p111 (pr_hold (hF139.1 187 rfl) (hF139.1 188 rfl) (hF139.2.2.1 109 109 rfl) (hF139.2.2.1 109 23 rfl) p139 (by rw [← e139, ← e111a]; exact n139a) (inv_F hI111 0 200 rfl rfl).1 (Or.inr ⟨by first | (have hi := i76x3; unfold In at hi; omega) | (have hi := i76x13; unfold In at hi; omega) | (have hi := i76x19; unfold In at hi; omega) | (have hi := i76x29; unfold In at hi; omega) | (have hi := i76x35; unfold In at hi; omega), rfl⟩)) | exact pr_tr p111 (pr_tr (b := 1) (pr_flt (hF131.1 187 rfl) (hF131.1 188 rfl) (hF131.2.2.1 109 109 rfl) (by rw [← e131]; omega)) (pr_hold (hF139.1 187 rfl) (hF139.1 188 rfl) (hF139.2.2.1 109 109 rfl) (hF139.2.2.1 109 23 rfl) p139 (by rw [← e139, ← (show z111b = s131.2.2.1 109 111 from fr_F e111a hF131 rfl)]; exact n139a) (inv_F hI131 0 200 rfl rfl).1 (Or.inr ⟨by first | (have hi := i76x3; unfold In at hi; omega) | (have hi := i76x13; unfold In at hi; omega) | (have hi := i76x19; unfold In at hi; omega) | (have hi := i76x29; unfold In at hi; omega) | (have hi := i76x35; unfold In at hi; omega), rfl⟩)))
                            have n143a : ((Int32.ofInt 0)).toInt ≠ 0 → PR s s139 1 1 := by exact fun h => absurd rfl h
                            have n143b : (s.2.2.1 109 28).toInt = 0 → ((Int32.ofInt 0)).toInt = 2 := by rw [← e_109_28]; intro h0; first | rfl | (exfalso; have a0 := oa10 i76x29 ro_109_29 i12 ((inv_F hI 0 200 rfl e_109_111)) ((inv_F hI 0 400 rfl e_109_109)) h1 ((in_c 1 rfl)) i139a i111a i115x20; have a10 := t_sub e115x20 i115x4 (in_c 1 rfl) rfl; have a11 := in_u i115x4; omega)
                            have n143c : (z111a).toInt + (z139a).toInt ≤ (u_109_109).toInt + (u_109_111).toInt + 1 := by have a0 := oa10 i76x29 ro_109_29 i12 ((inv_F hI 0 200 rfl e_109_111)) ((inv_F hI 0 400 rfl e_109_109)) h1 ((in_c 1 rfl)) i139a i111a i115x20; have a10 := t_sub e115x20 i115x4 (in_c 1 rfl) rfl; have a11 := in_u i115x4; omega
                            have n143d : (s139.2.2.1 109 109).toInt + (s139.2.2.1 109 111).toInt ≤ (s.2.2.1 109 109).toInt + (s.2.2.1 109 111).toInt + 1 := by have b0 : z111a = s139.2.2.1 109 109 := fr_F (e111) hF139 rfl; have b1 : z139a = s139.2.2.1 109 111 := e139; first | (rw [← b0, ← b1, ← e_109_109, ← e_109_111]; exact n143c) | (rw [← b0, ← b1]; exact n143c)
                            have n143e : (u_109_28).toInt = 0 → (z111a).toInt + (z139a).toInt = (u_109_109).toInt + (u_109_111).toInt := by have a0 := oa10 i76x29 ro_109_29 i12 ((inv_F hI 0 200 rfl e_109_111)) ((inv_F hI 0 400 rfl e_109_109)) h1 ((in_c 1 rfl)) i139a i111a i115x20; have a10 := t_sub e115x20 i115x4 (in_c 1 rfl) rfl; have a11 := in_u i115x4; omega
                            have n143f : (s.2.2.1 109 28).toInt = 0 → (s139.2.2.1 109 109).toInt + (s139.2.2.1 109 111).toInt = (s.2.2.1 109 109).toInt + (s.2.2.1 109 111).toInt := by have b0 : z111a = s139.2.2.1 109 109 := fr_F (e111) hF139 rfl; have b1 : z139a = s139.2.2.1 109 111 := e139; first | (rw [← b0, ← b1, ← e_109_28, ← e_109_109, ← e_109_111]; exact n143e) | (rw [← b0, ← b1]; exact n143e)
                            exact g_ireturn (gd rfl) rfl rfl (hP _ _ ⟨s139, hI139, (fr_tr rfl (fr_tr rfl fr_rf hF111) hF139), n143d, n143f, (Int32.ofInt 0), rfl, rfl, in_w 0 2 (in_c 0 rfl) rfl, n143, n143a, n143b⟩)
                          · skip
                            exact n_eq c122 (in_c 3 rfl) (in_c 1 rfl) rfl
                      · skip
                        have i115x4 := z_eq 0 0 c115x4 i111b rfl
                        refine g_iconst 0 8 (gd rfl) rfl rfl ?_
                        refine g_goto 22 (gd rfl) rfl ?_
                        refine g_ireturn (gd rfl) rfl rfl (hp115 _ _ ?_)
                        show GG _ _ _ _ _ _ _ _ [.int (Int32.ofInt 0)] _ _ _
                        refine g_calls (As := [.int (Int32.ofInt 0)]) (r := []) 121 (gd rfl) rfl rfl rfl rfl rfl (Nat.le_of_ble_eq_true rfl) (mc := 0) (ms := 0) (Nat.zero_le _) (Nat.zero_le _) (P := fun v u => _) ?_ (fun v u h => h)
                        intro po118 xx118 hp118 hx118
                        refine g_enter2 (k := 398) (N := 300) (by first | exact dq1 hd rfl | exact dq0 hd rfl | exact dq2 hd rfl | exact dq3 hd rfl | omega) rfl (Nat.le_of_ble_eq_true rfl) ?_
                        refine g_iload_n 1 (gd rfl) rfl rfl ?_
                        refine g_bipush 42 3 (gd rfl) rfl rfl ?_
                        refine g_cmp_ne 6 10 (gd rfl) rfl rfl (fun c118x3 => ?_) (fun c118x3 => ?_)
                        · skip
                          refine g_iload_n 11 (gd rfl) rfl rfl ?_
                          refine g_bipush 43 13 (gd rfl) rfl rfl ?_
                          refine g_cmp_eq 16 22 (gd rfl) rfl rfl (fun c118x13 => ?_) (fun c118x13 => ?_)
                          · skip
                            exact n_eq c118x13 (in_c 0 rfl) (in_c 43 rfl) rfl
                          · skip
                            refine g_iload_n 17 (gd rfl) rfl rfl ?_
                            refine g_bipush 45 19 (gd rfl) rfl rfl ?_
                            refine g_cmp_ne 22 26 (gd rfl) rfl rfl (fun c118x19 => ?_) (fun c118x19 => ?_)
                            · skip
                              refine g_iload_n 27 (gd rfl) rfl rfl ?_
                              refine g_bipush 60 29 (gd rfl) rfl rfl ?_
                              refine g_cmp_eq 32 38 (gd rfl) rfl rfl (fun c118x29 => ?_) (fun c118x29 => ?_)
                              · skip
                                exact n_eq c118x29 (in_c 0 rfl) (in_c 60 rfl) rfl
                              · skip
                                refine g_iload_n 33 (gd rfl) rfl rfl ?_
                                refine g_bipush 61 35 (gd rfl) rfl rfl ?_
                                refine g_cmp_ne 38 42 (gd rfl) rfl rfl (fun c118x35 => ?_) (fun c118x35 => ?_)
                                · skip
                                  refine g_iconst 0 43 (gd rfl) rfl rfl ?_
                                  refine g_ireturn (gd rfl) rfl rfl (hp118 _ _ ?_)
                                  show GG _ _ _ _ _ _ _ _ [.int (Int32.ofInt 0)] _ _ _
                                  refine g_iconst 1 122 (gd rfl) rfl rfl ?_
                                  refine g_cmp_ne 125 134 (gd rfl) rfl rfl (fun c122 => ?_) (fun c122 => ?_)
                                  · skip
                                    refine g_aload_n 135 (gd rfl) rfl rfl ?_
                                    refine g_aload_n 136 (gd rfl) rfl rfl ?_
                                    refine g_getI 139 (gd rfl) rfl rfl rfl (fun z136 e136 => ?_)
                                    have q136 : u_109_30 = z136 := (fr_F (e_109_30) hF111 rfl).trans e136.symm
                                    subst q136
                                    have n139 : (z111b).toInt ≤ 199 := by have a0 := oa9 i76x29 ro_109_29 i12 ((inv_F hI 0 200 rfl e_109_111)) ((inv_F hI 0 400 rfl e_109_109)) h1 ((in_c 1 rfl)) i115x4 i111a; omega
                                    refine g_callv (X := _) (As := [.int u_109_30]) (r := []) (b := A 109) (q := 109) 142 (gd rfl) rfl rfl rfl rfl rfl (ww_o rfl) (Nat.le_of_ble_eq_true rfl) (Nat.zero_le _) (Nat.zero_le _) (k_396 (by first | exact dq1 hd rfl | exact dq0 hd rfl | exact dq2 hd rfl | exact dq3 hd rfl | omega) hI111 e111a n139) (fun e u h => h) (fun v u h => ?_)
                                    obtain ⟨s139, hI139, hF139, n139a, rfl, rfl, p139⟩ := h
                                    obtain ⟨z139a, e139⟩ : ∃ w, w = s139.2.2.1 109 111 := ⟨_, rfl⟩
                                    have i139a := inv_F hI139 0 200 rfl e139
                                    rw [← (show z111b = s111.2.2.1 109 111 from e111a)] at n139a
                                    rw [← (show z139a = s139.2.2.1 109 111 from e139)] at n139a
                                    show GG _ _ _ _ _ _ _ _ [] _ _ _
                                    refine g_iconst 0 143 (gd rfl) rfl rfl ?_
                                    have n143 : ((Int32.ofInt 0)).toInt = 0 → PR s s139 1 0 := by intro hR; first | (exfalso; revert hR; decide) | exact pr_tr p91 (pr_hold (hF99.1 187 rfl) (hF99.1 188 rfl) (hF99.2.2.1 109 109 rfl) (hF99.2.2.1 109 23 rfl) p99 (by rw [← e99, ← e91a]; exact n99a) (inv_F hI91 0 200 rfl rfl).1 (Or.inr ⟨by first | (have hi := i76x3; unfold In at hi; omega) | (have hi := i76x13; unfold In at hi; omega) | (have hi := i76x19; unfold In at hi; omega) | (have hi := i76x29; unfold In at hi; omega) | (have hi := i76x35; unfold In at hi; omega), rfl⟩)) | exact pr_tr p111 (pr_hold (hF139.1 187 rfl) (hF139.1 188 rfl) (hF139.2.2.1 109 109 rfl) (hF139.2.2.1 109 23 rfl) p139 (by rw [← e139, ← e111a]; exact n139a) (inv_F hI111 0 200 rfl rfl).1 (Or.inr ⟨by first | (have hi := i76x3; unfold In at hi; omega) | (have hi := i76x13; unfold In at hi; omega) | (have hi := i76x19; unfold In at hi; omega) | (have hi := i76x29; unfold In at hi; omega) | (have hi := i76x35; unfold In at hi; omega), rfl⟩)) | exact pr_tr p111 (pr_tr (b := 1) (pr_flt (hF131.1 187 rfl) (hF131.1 188 rfl) (hF131.2.2.1 109 109 rfl) (by rw [← e131]; omega)) (pr_hold (hF139.1 187 rfl) (hF139.1 188 rfl) (hF139.2.2.1 109 109 rfl) (hF139.2.2.1 109 23 rfl) p139 (by rw [← e139, ← (show z111b = s131.2.2.1 109 111 from fr_F e111a hF131 rfl)]; exact n139a) (inv_F hI131 0 200 rfl rfl).1 (Or.inr ⟨by first | (have hi := i76x3; unfold In at hi; omega) | (have hi := i76x13; unfold In at hi; omega) | (have hi := i76x19; unfold In at hi; omega) | (have hi := i76x29; unfold In at hi; omega) | (have hi := i76x35; unfold In at hi; omega), rfl⟩)))
                                    have n143a : ((Int32.ofInt 0)).toInt ≠ 0 → PR s s139 1 1 := by exact fun h => absurd rfl h
                                    have n143b : (s.2.2.1 109 28).toInt = 0 → ((Int32.ofInt 0)).toInt = 2 := by rw [← e_109_28]; intro h0; first | rfl | (exfalso; have a0 := oa9 i76x29 ro_109_29 i12 ((inv_F hI 0 200 rfl e_109_111)) ((inv_F hI 0 400 rfl e_109_109)) h1 ((in_c 1 rfl)) i139a i111a; omega)
                                    have n143c : (z111a).toInt + (z139a).toInt ≤ (u_109_109).toInt + (u_109_111).toInt + 1 := by have a0 := oa9 i76x29 ro_109_29 i12 ((inv_F hI 0 200 rfl e_109_111)) ((inv_F hI 0 400 rfl e_109_109)) h1 ((in_c 1 rfl)) i139a i111a; omega
                                    have n143d : (s139.2.2.1 109 109).toInt + (s139.2.2.1 109 111).toInt ≤ (s.2.2.1 109 109).toInt + (s.2.2.1 109 111).toInt + 1 := by have b0 : z111a = s139.2.2.1 109 109 := fr_F (e111) hF139 rfl; have b1 : z139a = s139.2.2.1 109 111 := e139; first | (rw [← b0, ← b1, ← e_109_109, ← e_109_111]; exact n143c) | (rw [← b0, ← b1]; exact n143c)
                                    have n143e : (u_109_28).toInt = 0 → (z111a).toInt + (z139a).toInt = (u_109_109).toInt + (u_109_111).toInt := by have a0 := oa9 i76x29 ro_109_29 i12 ((inv_F hI 0 200 rfl e_109_111)) ((inv_F hI 0 400 rfl e_109_109)) h1 ((in_c 1 rfl)) i139a i111a; omega
                                    have n143f : (s.2.2.1 109 28).toInt = 0 → (s139.2.2.1 109 109).toInt + (s139.2.2.1 109 111).toInt = (s.2.2.1 109 109).toInt + (s.2.2.1 109 111).toInt := by have b0 : z111a = s139.2.2.1 109 109 := fr_F (e111) hF139 rfl; have b1 : z139a = s139.2.2.1 109 111 := e139; first | (rw [← b0, ← b1, ← e_109_28, ← e_109_109, ← e_109_111]; exact n143e) | (rw [← b0, ← b1]; exact n143e)
                                    exact g_ireturn (gd rfl) rfl rfl (hP _ _ ⟨s139, hI139, (fr_tr rfl (fr_tr rfl fr_rf hF111) hF139), n143d, n143f, (Int32.ofInt 0), rfl, rfl, in_w 0 2 (in_c 0 rfl) rfl, n143, n143a, n143b⟩)
                                  · skip
                                    exact n_eq c122 (in_c 0 rfl) (in_c 1 rfl) rfl
                                · skip
                                  exact n_eq c118x35 (in_c 0 rfl) (in_c 61 rfl) rfl
                            · skip
                              exact n_eq c118x19 (in_c 0 rfl) (in_c 45 rfl) rfl
                        · skip
                          exact n_eq c118x3 (in_c 0 rfl) (in_c 42 rfl) rfl
                  · skip
                    exact n_lt c86 (in_c 1 rfl) (in_c 1 rfl) rfl
                · skip
                  refine g_iload_n 33 (gd rfl) rfl rfl ?_
                  refine g_bipush 61 35 (gd rfl) rfl rfl ?_
                  refine g_cmp_ne 38 42 (gd rfl) rfl rfl (fun c76x35 => ?_) (fun c76x35 => ?_)
                  · skip
                    refine g_iconst 0 43 (gd rfl) rfl rfl ?_
                    refine g_ireturn (gd rfl) rfl rfl (hp76 _ _ ?_)
                    show GG _ _ _ _ _ _ _ _ [.int (Int32.ofInt 0)] _ _ _
                    refine g_goto 83 (gd rfl) rfl ?_
                    refine g_istore_n 84 (gd rfl) rfl (Nat.le_of_ble_eq_true rfl) ?_
                    refine g_iload_n 85 (gd rfl) rfl rfl ?_
                    refine g_iconst 1 86 (gd rfl) rfl rfl ?_
                    refine g_cmp_le 89 104 (gd rfl) rfl rfl (fun c86 => ?_) (fun c86 => ?_)
                    · skip
                      refine g_iload_n 105 (gd rfl) rfl rfl ?_
                      refine g_iconst 1 106 (gd rfl) rfl rfl ?_
                      refine g_cmp_ne 109 144 (gd rfl) rfl rfl (fun c106 => ?_) (fun c106 => ?_)
                      · skip
                        refine g_aload_n 145 (gd rfl) rfl rfl ?_
                        refine g_getI 148 (gd rfl) rfl rfl rfl (fun z145 e145 => ?_)
                        have q145 : u_109_28 = z145 := (e_109_28).trans e145.symm
                        subst q145
                        refine g_iconst 3 149 (gd rfl) rfl rfl ?_
                        refine g_cmp_ne 152 196 (gd rfl) rfl rfl (fun c149 => ?_) (fun c149 => ?_)
                        · skip
                          exact n_ne c149 i12 (in_c 3 rfl) rfl
                        · skip
                          refine g_aload_n 153 (gd rfl) rfl rfl ?_
                          refine g_getI 156 (gd rfl) rfl rfl rfl (fun z153 e153 => ?_)
                          have q153 : u_109_30 = z153 := (e_109_30).trans e153.symm
                          subst q153
                          refine g_bipush 41 158 (gd rfl) rfl rfl ?_
                          refine g_cmp_ne 161 196 (gd rfl) rfl rfl (fun c158 => ?_) (fun c158 => ?_)
                          · skip
                            refine g_aload_n 197 (gd rfl) rfl rfl ?_
                            refine g_iconst 2 198 (gd rfl) rfl rfl ?_
                            refine g_aload_n 199 (gd rfl) rfl rfl ?_
                            refine g_getI 202 (gd rfl) rfl rfl rfl (fun z199 e199 => ?_)
                            have q199 : u_109_29 = z199 := (e_109_29).trans e199.symm
                            subst q199
                            refine g_callv (X := _) (As := [.int (Int32.ofInt 2), .int u_109_29]) (r := []) (b := A 109) (q := 109) 205 (gd rfl) rfl rfl rfl rfl rfl (ww_o rfl) (Nat.le_of_ble_eq_true rfl) (Nat.zero_le _) (Nat.zero_le _) (k_298 (by first | exact dq1 hd rfl | exact dq0 hd rfl | exact dq2 hd rfl | exact dq3 hd rfl | omega) hI (in_w 1 5 (in_c 2 rfl) rfl)) (fun e u h => h) (fun v u h => ?_)
                            obtain ⟨s202, hI202, hF202, n202, rfl, rfl⟩ := h
                            obtain ⟨z202a, e202⟩ : ∃ w, w = s202.2.2.1 109 23 := ⟨_, rfl⟩
                            have i202a := inv_F hI202 0 9 rfl e202
                            rw [← (show z202a = s202.2.2.1 109 23 from e202)] at n202
                            show GG _ _ _ _ _ _ _ _ [] _ _ _
                            refine g_iconst 1 206 (gd rfl) rfl rfl ?_
                            have n206 : ((Int32.ofInt 1)).toInt = 0 → PR s s202 1 0 := by exact fun h => absurd h (by decide)
                            have n206a : ((Int32.ofInt 1)).toInt ≠ 0 → PR s s202 1 1 := by intro hR; first | (exact absurd rfl hR) | exact p26 | exact pr_tr p26 (pr_flt (hF59.1 187 rfl) (hF59.1 188 rfl) (hF59.2.2.1 109 109 rfl) (by rw [← e59]; omega)) | exact pr_tr p163 (pr_flt (hF181.1 187 rfl) (hF181.1 188 rfl) (hF181.2.2.1 109 109 rfl) (by rw [← e181]; omega)) | exact pr_flt (hF202.1 187 rfl) (hF202.1 188 rfl) (hF202.2.2.1 109 109 rfl) (by rw [← e202]; omega) | exact pr_tr p163 (pr_tr (pr_drop (x := z167x21) (b := z167x20) (hF187.1 187 rfl) (hF187.1 188 rfl) (hF187.2.2.1 109 109 rfl) (hF187.2.2.1 109 23 rfl) (hF187.1 190 rfl) (by rw [← e187]; have a0 := oa7 ro_109_29 i12 ((inv_F hI 0 200 rfl e_109_111)) ((inv_F hI 0 400 rfl e_109_109)) h1 ((in_c 0 rfl)) i202a; omega) (by rw [← e163a]; have a0 := oa7 ro_109_29 i12 ((inv_F hI 0 200 rfl e_109_111)) ((inv_F hI 0 400 rfl e_109_109)) h1 ((in_c 0 rfl)) i202a; omega) i167x20.1 e167x21 (Or.inr (c172.trans rfl))) p191)
                            have n206b : (s.2.2.1 109 28).toInt = 0 → ((Int32.ofInt 1)).toInt = 2 := by rw [← e_109_28]; intro h0; first | rfl | (exfalso; have a0 := oa7 ro_109_29 i12 ((inv_F hI 0 200 rfl e_109_111)) ((inv_F hI 0 400 rfl e_109_109)) h1 ((in_c 0 rfl)) i202a; omega)
                            have n206c : (u_109_109).toInt + (u_109_111).toInt ≤ (u_109_109).toInt + (u_109_111).toInt + 1 := by have a0 := oa7 ro_109_29 i12 ((inv_F hI 0 200 rfl e_109_111)) ((inv_F hI 0 400 rfl e_109_109)) h1 ((in_c 0 rfl)) i202a; omega
                            have n206d : (s202.2.2.1 109 109).toInt + (s202.2.2.1 109 111).toInt ≤ (s.2.2.1 109 109).toInt + (s.2.2.1 109 111).toInt + 1 := by have b0 : u_109_109 = s202.2.2.1 109 109 := fr_F (e_109_109) hF202 rfl; have b1 : u_109_111 = s202.2.2.1 109 111 := fr_F (e_109_111) hF202 rfl; first | (rw [← b0, ← b1, ← e_109_109, ← e_109_111]; exact n206c) | (rw [← b0, ← b1]; exact n206c)
                            have n206e : (u_109_28).toInt = 0 → (u_109_109).toInt + (u_109_111).toInt = (u_109_109).toInt + (u_109_111).toInt := by have a0 := oa7 ro_109_29 i12 ((inv_F hI 0 200 rfl e_109_111)) ((inv_F hI 0 400 rfl e_109_109)) h1 ((in_c 0 rfl)) i202a; omega
                            have n206f : (s.2.2.1 109 28).toInt = 0 → (s202.2.2.1 109 109).toInt + (s202.2.2.1 109 111).toInt = (s.2.2.1 109 109).toInt + (s.2.2.1 109 111).toInt := by have b0 : u_109_109 = s202.2.2.1 109 109 := fr_F (e_109_109) hF202 rfl; have b1 : u_109_111 = s202.2.2.1 109 111 := fr_F (e_109_111) hF202 rfl; first | (rw [← b0, ← b1, ← e_109_28, ← e_109_109, ← e_109_111]; exact n206e) | (rw [← b0, ← b1]; exact n206e)
                            exact g_ireturn (gd rfl) rfl rfl (hP _ _ ⟨s202, hI202, (fr_tr rfl fr_rf hF202), n206d, n206f, (Int32.ofInt 1), rfl, rfl, in_w 0 2 (in_c 1 rfl) rfl, n206, n206a, n206b⟩)
                          · skip
                            have i158 := r_eq1 41 41 c158 (i_rng u_109_30) (in_c 41 rfl) rfl
                            refine g_aload_n 162 (gd rfl) rfl rfl ?_
                            refine g_iconst 1 163 (gd rfl) rfl rfl ?_
                            have n163 : (u_109_109).toInt + (u_109_111).toInt ≤ 120 := by have a0 := oa7 i158 ro_109_29 i12 ((inv_F hI 0 200 rfl e_109_111)) ((inv_F hI 0 400 rfl e_109_109)) h1 ((in_c 0 rfl)); omega
                            refine g_callv (X := _) (As := [.int (Int32.ofInt 1)]) (r := []) (b := A 109) (q := 109) 166 (gd rfl) rfl rfl rfl rfl rfl (ww_o rfl) (Nat.le_of_ble_eq_true rfl) (Nat.zero_le _) (Nat.zero_le _) (k_399 (by first | exact dq1 hd rfl | exact dq0 hd rfl | exact dq2 hd rfl | exact dq3 hd rfl | omega) hI (in_w 1 3 (in_c 1 rfl) rfl) e_109_109 e_109_111 n163) (fun e u h => h) (fun v u h => ?_)
                            obtain ⟨s163, hI163, hF163, n163a, rfl, rfl, p163⟩ := h
                            obtain ⟨z163a, e163⟩ : ∃ w, w = s163.2.2.1 109 109 := ⟨_, rfl⟩
                            have i163a := inv_F hI163 0 400 rfl e163
                            obtain ⟨z163b, e163a⟩ : ∃ w, w = s163.2.2.1 109 111 := ⟨_, rfl⟩
                            have i163b := inv_F hI163 0 200 rfl e163a
                            rw [← (show u_109_109 = s.2.2.1 109 109 from e_109_109)] at n163a
                            rw [← (show u_109_111 = s.2.2.1 109 111 from e_109_111)] at n163a
                            rw [← (show z163a = s163.2.2.1 109 109 from e163)] at n163a
                            rw [← (show z163b = s163.2.2.1 109 111 from e163a)] at n163a
                            show GG _ _ _ _ _ _ _ _ [] _ _ _
                            refine g_aload_n 167 (gd rfl) rfl rfl ?_
                            refine g_callv (X := _) (As := []) (r := []) (b := A 109) (q := 109) 170 (gd rfl) rfl rfl rfl rfl rfl (ww_o rfl) (Nat.le_of_ble_eq_true rfl) (mc := 0) (ms := 0) (Nat.zero_le _) (Nat.zero_le _) (P := fun v u => _) ?_ (fun e u h => h) (fun v u h => h)
                            intro po167 xx167 hp167 hx167
                            refine g_enter2 (k := 395) (N := 300) (by first | exact dq1 hd rfl | exact dq0 hd rfl | exact dq2 hd rfl | exact dq3 hd rfl | omega) rfl (Nat.le_of_ble_eq_true rfl) ?_
                            refine g_aload_n 1 (gd rfl) rfl rfl ?_
                            refine g_getI 4 (gd rfl) rfl rfl rfl (fun z167x1 e167x1 => ?_)
                            have q167x1 : z163b = z167x1 := (e163a).trans e167x1.symm
                            subst q167x1
                            refine g_if_ne 7 11 (gd rfl) rfl rfl (fun c167x4 => ?_) (fun c167x4 => ?_)
                            · skip
                              have i167x4 := z_ne 1 200 c167x4 i163b rfl
                              refine g_aload_n 12 (gd rfl) rfl rfl ?_
                              refine g_getA (q2 := 190) 15 (gd rfl) rfl rfl rfl rfl ?_
                              refine g_aload_n 16 (gd rfl) rfl rfl ?_
                              refine g_getI 19 (gd rfl) rfl rfl rfl (fun z167x16 e167x16 => ?_)
                              have q167x16 : z163b = z167x16 := (e163a).trans e167x16.symm
                              subst q167x16
                              refine g_iconst 1 20 (gd rfl) rfl rfl ?_
                              refine g_isub 21 (gd rfl) rfl (fun z167x20 e167x20 => ?_)
                              have i167x20 := in_sub 0 199 e167x20 i167x4 (in_c 1 rfl) rfl rfl
                              refine g_iaload 22 (gd rfl) rfl (n := 200) rfl (in_ix i167x20 rfl) (fun z167x21 e167x21 => ?_)
                              refine g_ireturn (gd rfl) rfl rfl (hp167 _ _ ?_)
                              show GG _ _ _ _ _ _ _ _ [.int z167x21] _ _ _
                              refine g_bipush 40 172 (gd rfl) rfl rfl ?_
                              refine g_cmp_eq 175 186 (gd rfl) rfl rfl (fun c172 => ?_) (fun c172 => ?_)
                              · skip
                                have i172 := r_eq1 40 40 c172 (i_rng z167x21) (in_c 40 rfl) rfl
                                refine g_aload_n 187 (gd rfl) rfl rfl ?_
                                have n187 : 1 ≤ (z163b).toInt := by have a0 := oa10 i158 ro_109_29 i12 ((inv_F hI 0 200 rfl e_109_111)) ((inv_F hI 0 400 rfl e_109_109)) h1 ((in_c 0 rfl)) i167x4 i163a i167x20; have a10 := t_sub e167x20 i167x4 (in_c 1 rfl) rfl; have a11 := in_u ((in_c 1 rfl)); omega
                                refine g_callv (X := _) (As := []) (r := []) (b := A 109) (q := 109) 190 (gd rfl) rfl rfl rfl rfl rfl (ww_o rfl) (Nat.le_of_ble_eq_true rfl) (Nat.zero_le _) (Nat.zero_le _) (k_397 (by first | exact dq1 hd rfl | exact dq0 hd rfl | exact dq2 hd rfl | exact dq3 hd rfl | omega) hI163 e163a n187) (fun e u h => h) (fun v u h => ?_)
                                obtain ⟨s187, hI187, hF187, n187a, rfl, rfl⟩ := h
                                obtain ⟨z187a, e187⟩ : ∃ w, w = s187.2.2.1 109 111 := ⟨_, rfl⟩
                                have i187a := inv_F hI187 0 200 rfl e187
                                rw [← (show z163b = s163.2.2.1 109 111 from e163a)] at n187a
                                rw [← (show z187a = s187.2.2.1 109 111 from e187)] at n187a
                                show GG _ _ _ _ _ _ _ _ [] _ _ _
                                refine g_aload_n 191 (gd rfl) rfl rfl ?_
                                have v191 : z163a = s187.2.2.1 109 109 := fr_F (e163) hF187 rfl
                                have n191 : (z163a).toInt + (z187a).toInt ≤ 120 := by have a0 := oa10 i158 ro_109_29 i12 ((inv_F hI 0 200 rfl e_109_111)) ((inv_F hI 0 400 rfl e_109_109)) h1 ((in_c 0 rfl)) i187a i163a i167x20; have a10 := t_sub e167x20 i167x4 (in_c 1 rfl) rfl; have a11 := oa2 ((in_c 1 rfl)) i167x4; omega
                                refine g_callv (X := _) (As := []) (r := []) (b := A 109) (q := 109) 194 (gd rfl) rfl rfl rfl rfl rfl (ww_o rfl) (Nat.le_of_ble_eq_true rfl) (Nat.zero_le _) (Nat.zero_le _) (k_400 (by first | exact dq1 hd rfl | exact dq0 hd rfl | exact dq2 hd rfl | exact dq3 hd rfl | omega) hI187 v191 e187 n191) (fun e u h => h) (fun v u h => ?_)
                                obtain ⟨s191, hI191, hF191, n191a, rfl, rfl, p191⟩ := h
                                obtain ⟨z191a, e191⟩ : ∃ w, w = s191.2.2.1 109 109 := ⟨_, rfl⟩
                                have i191a := inv_F hI191 0 400 rfl e191
                                obtain ⟨z191b, e191a⟩ : ∃ w, w = s191.2.2.1 109 111 := ⟨_, rfl⟩
                                have i191b := inv_F hI191 0 200 rfl e191a
                                rw [← (show z163a = s187.2.2.1 109 109 from fr_F (e163) hF187 rfl)] at n191a
                                rw [← (show z187a = s187.2.2.1 109 111 from e187)] at n191a
                                rw [← (show z191a = s191.2.2.1 109 109 from e191)] at n191a
                                rw [← (show z191b = s191.2.2.1 109 111 from e191a)] at n191a
                                show GG _ _ _ _ _ _ _ _ [] _ _ _
                                refine g_iconst 1 195 (gd rfl) rfl rfl ?_
                                have n195 : ((Int32.ofInt 1)).toInt = 0 → PR s s191 1 0 := by exact fun h => absurd h (by decide)
                                have n195a : ((Int32.ofInt 1)).toInt ≠ 0 → PR s s191 1 1 := by intro hR; first | (exact absurd rfl hR) | exact p26 | exact pr_tr p26 (pr_flt (hF59.1 187 rfl) (hF59.1 188 rfl) (hF59.2.2.1 109 109 rfl) (by rw [← e59]; omega)) | exact pr_tr p163 (pr_flt (hF181.1 187 rfl) (hF181.1 188 rfl) (hF181.2.2.1 109 109 rfl) (by rw [← e181]; omega)) | exact pr_flt (hF202.1 187 rfl) (hF202.1 188 rfl) (hF202.2.2.1 109 109 rfl) (by rw [← e202]; omega) | exact pr_tr p163 (pr_tr (pr_drop (x := z167x21) (b := z167x20) (hF187.1 187 rfl) (hF187.1 188 rfl) (hF187.2.2.1 109 109 rfl) (hF187.2.2.1 109 23 rfl) (hF187.1 190 rfl) (by rw [← e187]; have a0 := oa10 i158 ro_109_29 i12 ((inv_F hI 0 200 rfl e_109_111)) ((inv_F hI 0 400 rfl e_109_109)) h1 ((in_c 0 rfl)) i191b i191a i167x20; have a10 := t_sub e167x20 i167x4 (in_c 1 rfl) rfl; have a11 := oa2 ((in_c 1 rfl)) i167x4; omega) (by rw [← e163a]; have a0 := oa10 i158 ro_109_29 i12 ((inv_F hI 0 200 rfl e_109_111)) ((inv_F hI 0 400 rfl e_109_109)) h1 ((in_c 0 rfl)) i191b i191a i167x20; have a10 := t_sub e167x20 i167x4 (in_c 1 rfl) rfl; have a11 := oa2 ((in_c 1 rfl)) i167x4; omega) i167x20.1 e167x21 (Or.inr (c172.trans rfl))) p191)
                                have n195b : (s.2.2.1 109 28).toInt = 0 → ((Int32.ofInt 1)).toInt = 2 := by rw [← e_109_28]; intro h0; first | rfl | (exfalso; have a0 := oa10 i158 ro_109_29 i12 ((inv_F hI 0 200 rfl e_109_111)) ((inv_F hI 0 400 rfl e_109_109)) h1 ((in_c 0 rfl)) i191b i191a i167x20; have a10 := t_sub e167x20 i167x4 (in_c 1 rfl) rfl; have a11 := oa2 ((in_c 1 rfl)) i167x4; omega)
                                have n195c : (z191a).toInt + (z191b).toInt ≤ (u_109_109).toInt + (u_109_111).toInt + 1 := by have a0 := oa10 i158 ro_109_29 i12 ((inv_F hI 0 200 rfl e_109_111)) ((inv_F hI 0 400 rfl e_109_109)) h1 ((in_c 0 rfl)) i191b i191a i167x20; have a10 := t_sub e167x20 i167x4 (in_c 1 rfl) rfl; have a11 := oa2 ((in_c 1 rfl)) i167x4; omega
                                have n195d : (s191.2.2.1 109 109).toInt + (s191.2.2.1 109 111).toInt ≤ (s.2.2.1 109 109).toInt + (s.2.2.1 109 111).toInt + 1 := by have b0 : z191a = s191.2.2.1 109 109 := e191; have b1 : z191b = s191.2.2.1 109 111 := e191a; first | (rw [← b0, ← b1, ← e_109_109, ← e_109_111]; exact n195c) | (rw [← b0, ← b1]; exact n195c)
                                have n195e : (u_109_28).toInt = 0 → (z191a).toInt + (z191b).toInt = (u_109_109).toInt + (u_109_111).toInt := by have a0 := oa10 i158 ro_109_29 i12 ((inv_F hI 0 200 rfl e_109_111)) ((inv_F hI 0 400 rfl e_109_109)) h1 ((in_c 0 rfl)) i191b i191a i167x20; have a10 := t_sub e167x20 i167x4 (in_c 1 rfl) rfl; have a11 := oa2 ((in_c 1 rfl)) i167x4; omega
                                have n195f : (s.2.2.1 109 28).toInt = 0 → (s191.2.2.1 109 109).toInt + (s191.2.2.1 109 111).toInt = (s.2.2.1 109 109).toInt + (s.2.2.1 109 111).toInt := by have b0 : z191a = s191.2.2.1 109 109 := e191; have b1 : z191b = s191.2.2.1 109 111 := e191a; first | (rw [← b0, ← b1, ← e_109_28, ← e_109_109, ← e_109_111]; exact n195e) | (rw [← b0, ← b1]; exact n195e)
                                exact g_ireturn (gd rfl) rfl rfl (hP _ _ ⟨s191, hI191, (fr_tr rfl (fr_tr rfl (fr_tr rfl fr_rf hF163) hF187) hF191), n195d, n195f, (Int32.ofInt 1), rfl, rfl, in_w 0 2 (in_c 1 rfl) rfl, n195, n195a, n195b⟩)
                              · skip
                                refine g_aload_n 176 (gd rfl) rfl rfl ?_
                                refine g_iconst 2 177 (gd rfl) rfl rfl ?_
                                refine g_aload_n 178 (gd rfl) rfl rfl ?_
                                refine g_getI 181 (gd rfl) rfl rfl rfl (fun z178 e178 => ?_)
                                have q178 : u_109_29 = z178 := (fr_F (e_109_29) hF163 rfl).trans e178.symm
                                subst q178
                                refine g_callv (X := _) (As := [.int (Int32.ofInt 2), .int u_109_29]) (r := []) (b := A 109) (q := 109) 184 (gd rfl) rfl rfl rfl rfl rfl (ww_o rfl) (Nat.le_of_ble_eq_true rfl) (Nat.zero_le _) (Nat.zero_le _) (k_298 (by first | exact dq1 hd rfl | exact dq0 hd rfl | exact dq2 hd rfl | exact dq3 hd rfl | omega) hI163 (in_w 1 5 (in_c 2 rfl) rfl)) (fun e u h => h) (fun v u h => ?_)
                                obtain ⟨s181, hI181, hF181, n181, rfl, rfl⟩ := h
                                obtain ⟨z181a, e181⟩ : ∃ w, w = s181.2.2.1 109 23 := ⟨_, rfl⟩
                                have i181a := inv_F hI181 0 9 rfl e181
                                rw [← (show z181a = s181.2.2.1 109 23 from e181)] at n181
                                show GG _ _ _ _ _ _ _ _ [] _ _ _
                                refine g_iconst 1 185 (gd rfl) rfl rfl ?_
                                have n185 : ((Int32.ofInt 1)).toInt = 0 → PR s s181 1 0 := by exact fun h => absurd h (by decide)
                                have n185a : ((Int32.ofInt 1)).toInt ≠ 0 → PR s s181 1 1 := by intro hR; first | (exact absurd rfl hR) | exact p26 | exact pr_tr p26 (pr_flt (hF59.1 187 rfl) (hF59.1 188 rfl) (hF59.2.2.1 109 109 rfl) (by rw [← e59]; omega)) | exact pr_tr p163 (pr_flt (hF181.1 187 rfl) (hF181.1 188 rfl) (hF181.2.2.1 109 109 rfl) (by rw [← e181]; omega)) | exact pr_flt (hF202.1 187 rfl) (hF202.1 188 rfl) (hF202.2.2.1 109 109 rfl) (by rw [← e202]; omega) | exact pr_tr p163 (pr_tr (pr_drop (x := z167x21) (b := z167x20) (hF187.1 187 rfl) (hF187.1 188 rfl) (hF187.2.2.1 109 109 rfl) (hF187.2.2.1 109 23 rfl) (hF187.1 190 rfl) (by rw [← e187]; have a0 := oa11 i158 ro_109_29 i12 ((inv_F hI 0 200 rfl e_109_111)) ((inv_F hI 0 400 rfl e_109_109)) h1 ((in_c 0 rfl)) i181a i167x4 i163a i167x20; have a11 := t_sub e167x20 i167x4 (in_c 1 rfl) rfl; have a12 := in_u ((in_c 1 rfl)); omega) (by rw [← e163a]; have a0 := oa11 i158 ro_109_29 i12 ((inv_F hI 0 200 rfl e_109_111)) ((inv_F hI 0 400 rfl e_109_109)) h1 ((in_c 0 rfl)) i181a i167x4 i163a i167x20; have a11 := t_sub e167x20 i167x4 (in_c 1 rfl) rfl; have a12 := in_u ((in_c 1 rfl)); omega) i167x20.1 e167x21 (Or.inr (c172.trans rfl))) p191)
                                have n185b : (s.2.2.1 109 28).toInt = 0 → ((Int32.ofInt 1)).toInt = 2 := by rw [← e_109_28]; intro h0; first | rfl | (exfalso; have a0 := oa11 i158 ro_109_29 i12 ((inv_F hI 0 200 rfl e_109_111)) ((inv_F hI 0 400 rfl e_109_109)) h1 ((in_c 0 rfl)) i181a i167x4 i163a i167x20; have a11 := t_sub e167x20 i167x4 (in_c 1 rfl) rfl; have a12 := in_u ((in_c 1 rfl)); omega)
                                have n185c : (z163a).toInt + (z163b).toInt ≤ (u_109_109).toInt + (u_109_111).toInt + 1 := by have a0 := oa11 i158 ro_109_29 i12 ((inv_F hI 0 200 rfl e_109_111)) ((inv_F hI 0 400 rfl e_109_109)) h1 ((in_c 0 rfl)) i181a i167x4 i163a i167x20; have a11 := t_sub e167x20 i167x4 (in_c 1 rfl) rfl; have a12 := in_u ((in_c 1 rfl)); omega
                                have n185d : (s181.2.2.1 109 109).toInt + (s181.2.2.1 109 111).toInt ≤ (s.2.2.1 109 109).toInt + (s.2.2.1 109 111).toInt + 1 := by have b0 : z163a = s181.2.2.1 109 109 := fr_F (e163) hF181 rfl; have b1 : z163b = s181.2.2.1 109 111 := fr_F (e163a) hF181 rfl; first | (rw [← b0, ← b1, ← e_109_109, ← e_109_111]; exact n185c) | (rw [← b0, ← b1]; exact n185c)
                                have n185e : (u_109_28).toInt = 0 → (z163a).toInt + (z163b).toInt = (u_109_109).toInt + (u_109_111).toInt := by have a0 := oa11 i158 ro_109_29 i12 ((inv_F hI 0 200 rfl e_109_111)) ((inv_F hI 0 400 rfl e_109_109)) h1 ((in_c 0 rfl)) i181a i167x4 i163a i167x20; have a11 := t_sub e167x20 i167x4 (in_c 1 rfl) rfl; have a12 := in_u ((in_c 1 rfl)); omega
                                have n185f : (s.2.2.1 109 28).toInt = 0 → (s181.2.2.1 109 109).toInt + (s181.2.2.1 109 111).toInt = (s.2.2.1 109 109).toInt + (s.2.2.1 109 111).toInt := by have b0 : z163a = s181.2.2.1 109 109 := fr_F (e163) hF181 rfl; have b1 : z163b = s181.2.2.1 109 111 := fr_F (e163a) hF181 rfl; first | (rw [← b0, ← b1, ← e_109_28, ← e_109_109, ← e_109_111]; exact n185e) | (rw [← b0, ← b1]; exact n185e)
                                exact g_ireturn (gd rfl) rfl rfl (hP _ _ ⟨s181, hI181, (fr_tr rfl (fr_tr rfl fr_rf hF163) hF181), n185d, n185f, (Int32.ofInt 1), rfl, rfl, in_w 0 2 (in_c 1 rfl) rfl, n185, n185a, n185b⟩)
                            · skip
                              have i167x4 := z_eq 0 0 c167x4 i163b rfl
                              refine g_iconst 0 8 (gd rfl) rfl rfl ?_
                              refine g_goto 22 (gd rfl) rfl ?_
                              refine g_ireturn (gd rfl) rfl rfl (hp167 _ _ ?_)
                              show GG _ _ _ _ _ _ _ _ [.int (Int32.ofInt 0)] _ _ _
                              refine g_bipush 40 172 (gd rfl) rfl rfl ?_
                              refine g_cmp_eq 175 186 (gd rfl) rfl rfl (fun c172 => ?_) (fun c172 => ?_)
                              · skip
                                exact n_eq c172 (in_c 0 rfl) (in_c 40 rfl) rfl
                              · skip
                                refine g_aload_n 176 (gd rfl) rfl rfl ?_
                                refine g_iconst 2 177 (gd rfl) rfl rfl ?_
                                refine g_aload_n 178 (gd rfl) rfl rfl ?_
                                refine g_getI 181 (gd rfl) rfl rfl rfl (fun z178 e178 => ?_)
                                have q178 : u_109_29 = z178 := (fr_F (e_109_29) hF163 rfl).trans e178.symm
                                subst q178
                                refine g_callv (X := _) (As := [.int (Int32.ofInt 2), .int u_109_29]) (r := []) (b := A 109) (q := 109) 184 (gd rfl) rfl rfl rfl rfl rfl (ww_o rfl) (Nat.le_of_ble_eq_true rfl) (Nat.zero_le _) (Nat.zero_le _) (k_298 (by first | exact dq1 hd rfl | exact dq0 hd rfl | exact dq2 hd rfl | exact dq3 hd rfl | omega) hI163 (in_w 1 5 (in_c 2 rfl) rfl)) (fun e u h => h) (fun v u h => ?_)
                                obtain ⟨s181, hI181, hF181, n181, rfl, rfl⟩ := h
                                obtain ⟨z181a, e181⟩ : ∃ w, w = s181.2.2.1 109 23 := ⟨_, rfl⟩
                                have i181a := inv_F hI181 0 9 rfl e181
                                rw [← (show z181a = s181.2.2.1 109 23 from e181)] at n181
                                show GG _ _ _ _ _ _ _ _ [] _ _ _
                                refine g_iconst 1 185 (gd rfl) rfl rfl ?_
                                have n185 : ((Int32.ofInt 1)).toInt = 0 → PR s s181 1 0 := by exact fun h => absurd h (by decide)
                                have n185a : ((Int32.ofInt 1)).toInt ≠ 0 → PR s s181 1 1 := by intro hR; first | (exact absurd rfl hR) | exact p26 | exact pr_tr p26 (pr_flt (hF59.1 187 rfl) (hF59.1 188 rfl) (hF59.2.2.1 109 109 rfl) (by rw [← e59]; omega)) | exact pr_tr p163 (pr_flt (hF181.1 187 rfl) (hF181.1 188 rfl) (hF181.2.2.1 109 109 rfl) (by rw [← e181]; omega)) | exact pr_flt (hF202.1 187 rfl) (hF202.1 188 rfl) (hF202.2.2.1 109 109 rfl) (by rw [← e202]; omega) | exact pr_tr p163 (pr_tr (pr_drop (x := z167x21) (b := z167x20) (hF187.1 187 rfl) (hF187.1 188 rfl) (hF187.2.2.1 109 109 rfl) (hF187.2.2.1 109 23 rfl) (hF187.1 190 rfl) (by rw [← e187]; have a0 := oa10 i158 ro_109_29 i12 ((inv_F hI 0 200 rfl e_109_111)) ((inv_F hI 0 400 rfl e_109_109)) h1 ((in_c 0 rfl)) i181a i167x4 i163a; omega) (by rw [← e163a]; have a0 := oa10 i158 ro_109_29 i12 ((inv_F hI 0 200 rfl e_109_111)) ((inv_F hI 0 400 rfl e_109_109)) h1 ((in_c 0 rfl)) i181a i167x4 i163a; omega) i167x20.1 e167x21 (Or.inr (c172.trans rfl))) p191)
                                have n185b : (s.2.2.1 109 28).toInt = 0 → ((Int32.ofInt 1)).toInt = 2 := by rw [← e_109_28]; intro h0; first | rfl | (exfalso; have a0 := oa10 i158 ro_109_29 i12 ((inv_F hI 0 200 rfl e_109_111)) ((inv_F hI 0 400 rfl e_109_109)) h1 ((in_c 0 rfl)) i181a i167x4 i163a; omega)
                                have n185c : (z163a).toInt + (z163b).toInt ≤ (u_109_109).toInt + (u_109_111).toInt + 1 := by have a0 := oa10 i158 ro_109_29 i12 ((inv_F hI 0 200 rfl e_109_111)) ((inv_F hI 0 400 rfl e_109_109)) h1 ((in_c 0 rfl)) i181a i167x4 i163a; omega
                                have n185d : (s181.2.2.1 109 109).toInt + (s181.2.2.1 109 111).toInt ≤ (s.2.2.1 109 109).toInt + (s.2.2.1 109 111).toInt + 1 := by have b0 : z163a = s181.2.2.1 109 109 := fr_F (e163) hF181 rfl; have b1 : z163b = s181.2.2.1 109 111 := fr_F (e163a) hF181 rfl; first | (rw [← b0, ← b1, ← e_109_109, ← e_109_111]; exact n185c) | (rw [← b0, ← b1]; exact n185c)
                                have n185e : (u_109_28).toInt = 0 → (z163a).toInt + (z163b).toInt = (u_109_109).toInt + (u_109_111).toInt := by have a0 := oa10 i158 ro_109_29 i12 ((inv_F hI 0 200 rfl e_109_111)) ((inv_F hI 0 400 rfl e_109_109)) h1 ((in_c 0 rfl)) i181a i167x4 i163a; omega
                                have n185f : (s.2.2.1 109 28).toInt = 0 → (s181.2.2.1 109 109).toInt + (s181.2.2.1 109 111).toInt = (s.2.2.1 109 109).toInt + (s.2.2.1 109 111).toInt := by have b0 : z163a = s181.2.2.1 109 109 := fr_F (e163) hF181 rfl; have b1 : z163b = s181.2.2.1 109 111 := fr_F (e163a) hF181 rfl; first | (rw [← b0, ← b1, ← e_109_28, ← e_109_109, ← e_109_111]; exact n185e) | (rw [← b0, ← b1]; exact n185e)
                                exact g_ireturn (gd rfl) rfl rfl (hP _ _ ⟨s181, hI181, (fr_tr rfl (fr_tr rfl fr_rf hF163) hF181), n185d, n185f, (Int32.ofInt 1), rfl, rfl, in_w 0 2 (in_c 1 rfl) rfl, n185, n185a, n185b⟩)
                      · skip
                        exact n_eq c106 (in_c 0 rfl) (in_c 1 rfl) rfl
                    · skip
                      exact n_lt c86 (in_c 1 rfl) (in_c 0 rfl) rfl
                  · skip
                    have i76x35 := r_eq1 61 61 c76x35 (i_rng u_109_30) (in_c 61 rfl) rfl
                    refine g_iconst 1 39 (gd rfl) rfl rfl ?_
                    refine g_goto 43 (gd rfl) rfl ?_
                    refine g_ireturn (gd rfl) rfl rfl (hp76 _ _ ?_)
                    show GG _ _ _ _ _ _ _ _ [.int (Int32.ofInt 1)] _ _ _
                    refine g_goto 83 (gd rfl) rfl ?_
                    refine g_istore_n 84 (gd rfl) rfl (Nat.le_of_ble_eq_true rfl) ?_
                    refine g_iload_n 85 (gd rfl) rfl rfl ?_
                    refine g_iconst 1 86 (gd rfl) rfl rfl ?_
                    refine g_cmp_le 89 104 (gd rfl) rfl rfl (fun c86 => ?_) (fun c86 => ?_)
                    · skip
                      refine g_iload_n 105 (gd rfl) rfl rfl ?_
                      refine g_iconst 1 106 (gd rfl) rfl rfl ?_
                      refine g_cmp_ne 109 144 (gd rfl) rfl rfl (fun c106 => ?_) (fun c106 => ?_)
                      · skip
                        exact n_ne c106 (in_c 1 rfl) (in_c 1 rfl) rfl
                      · skip
                        refine g_aload_n 110 (gd rfl) rfl rfl ?_
                        refine g_iconst 2 111 (gd rfl) rfl rfl ?_
                        have n111 : (u_109_109).toInt + (u_109_111).toInt ≤ 120 := by have a0 := oa7 i76x35 ro_109_29 i12 ((inv_F hI 0 200 rfl e_109_111)) ((inv_F hI 0 400 rfl e_109_109)) h1 ((in_c 1 rfl)); omega
                        refine g_callv (X := _) (As := [.int (Int32.ofInt 2)]) (r := []) (b := A 109) (q := 109) 114 (gd rfl) rfl rfl rfl rfl rfl (ww_o rfl) (Nat.le_of_ble_eq_true rfl) (Nat.zero_le _) (Nat.zero_le _) (k_399 (by first | exact dq1 hd rfl | exact dq0 hd rfl | exact dq2 hd rfl | exact dq3 hd rfl | omega) hI (in_w 1 3 (in_c 2 rfl) rfl) e_109_109 e_109_111 n111) (fun e u h => h) (fun v u h => ?_)
                        obtain ⟨s111, hI111, hF111, n111a, rfl, rfl, p111⟩ := h
                        obtain ⟨z111a, e111⟩ : ∃ w, w = s111.2.2.1 109 109 := ⟨_, rfl⟩
                        have i111a := inv_F hI111 0 400 rfl e111
                        obtain ⟨z111b, e111a⟩ : ∃ w, w = s111.2.2.1 109 111 := ⟨_, rfl⟩
                        have i111b := inv_F hI111 0 200 rfl e111a
                        rw [← (show u_109_109 = s.2.2.1 109 109 from e_109_109)] at n111a
                        rw [← (show u_109_111 = s.2.2.1 109 111 from e_109_111)] at n111a
                        rw [← (show z111a = s111.2.2.1 109 109 from e111)] at n111a
                        rw [← (show z111b = s111.2.2.1 109 111 from e111a)] at n111a
                        show GG _ _ _ _ _ _ _ _ [] _ _ _
                        refine g_aload_n 115 (gd rfl) rfl rfl ?_
                        refine g_callv (X := _) (As := []) (r := []) (b := A 109) (q := 109) 118 (gd rfl) rfl rfl rfl rfl rfl (ww_o rfl) (Nat.le_of_ble_eq_true rfl) (mc := 0) (ms := 0) (Nat.zero_le _) (Nat.zero_le _) (P := fun v u => _) ?_ (fun e u h => h) (fun v u h => h)
                        intro po115 xx115 hp115 hx115
                        refine g_enter2 (k := 395) (N := 300) (by first | exact dq1 hd rfl | exact dq0 hd rfl | exact dq2 hd rfl | exact dq3 hd rfl | omega) rfl (Nat.le_of_ble_eq_true rfl) ?_
                        refine g_aload_n 1 (gd rfl) rfl rfl ?_
                        refine g_getI 4 (gd rfl) rfl rfl rfl (fun z115x1 e115x1 => ?_)
                        have q115x1 : z111b = z115x1 := (e111a).trans e115x1.symm
                        subst q115x1
                        refine g_if_ne 7 11 (gd rfl) rfl rfl (fun c115x4 => ?_) (fun c115x4 => ?_)
                        · skip
                          have i115x4 := z_ne 1 200 c115x4 i111b rfl
                          refine g_aload_n 12 (gd rfl) rfl rfl ?_
                          refine g_getA (q2 := 190) 15 (gd rfl) rfl rfl rfl rfl ?_
                          refine g_aload_n 16 (gd rfl) rfl rfl ?_
                          refine g_getI 19 (gd rfl) rfl rfl rfl (fun z115x16 e115x16 => ?_)
                          have q115x16 : z111b = z115x16 := (e111a).trans e115x16.symm
                          subst q115x16
                          refine g_iconst 1 20 (gd rfl) rfl rfl ?_
                          refine g_isub 21 (gd rfl) rfl (fun z115x20 e115x20 => ?_)
                          have i115x20 := in_sub 0 199 e115x20 i115x4 (in_c 1 rfl) rfl rfl
                          refine g_iaload 22 (gd rfl) rfl (n := 200) rfl (in_ix i115x20 rfl) (fun z115x21 e115x21 => ?_)
                          refine g_ireturn (gd rfl) rfl rfl (hp115 _ _ ?_)
                          show GG _ _ _ _ _ _ _ _ [.int z115x21] _ _ _
                          refine g_calls (As := [.int z115x21]) (r := []) 121 (gd rfl) rfl rfl rfl rfl rfl (Nat.le_of_ble_eq_true rfl) (mc := 0) (ms := 0) (Nat.zero_le _) (Nat.zero_le _) (P := fun v u => _) ?_ (fun v u h => h)
                          intro po118 xx118 hp118 hx118
                          refine g_enter2 (k := 398) (N := 300) (by first | exact dq1 hd rfl | exact dq0 hd rfl | exact dq2 hd rfl | exact dq3 hd rfl | omega) rfl (Nat.le_of_ble_eq_true rfl) ?_
                          refine g_iload_n 1 (gd rfl) rfl rfl ?_
                          refine g_bipush 42 3 (gd rfl) rfl rfl ?_
                          refine g_cmp_ne 6 10 (gd rfl) rfl rfl (fun c118x3 => ?_) (fun c118x3 => ?_)
                          · skip
                            refine g_iload_n 11 (gd rfl) rfl rfl ?_
                            refine g_bipush 43 13 (gd rfl) rfl rfl ?_
                            refine g_cmp_eq 16 22 (gd rfl) rfl rfl (fun c118x13 => ?_) (fun c118x13 => ?_)
                            · skip
                              have i118x13 := r_eq1 43 43 c118x13 (i_rng z115x21) (in_c 43 rfl) rfl
                              refine g_iconst 2 23 (gd rfl) rfl rfl ?_
                              refine g_goto 43 (gd rfl) rfl ?_
                              refine g_ireturn (gd rfl) rfl rfl (hp118 _ _ ?_)
                              show GG _ _ _ _ _ _ _ _ [.int (Int32.ofInt 2)] _ _ _
                              refine g_iconst 1 122 (gd rfl) rfl rfl ?_
                              refine g_cmp_ne 125 134 (gd rfl) rfl rfl (fun c122 => ?_) (fun c122 => ?_)
                              · skip
                                refine g_aload_n 135 (gd rfl) rfl rfl ?_
                                refine g_aload_n 136 (gd rfl) rfl rfl ?_
                                refine g_getI 139 (gd rfl) rfl rfl rfl (fun z136 e136 => ?_)
                                have q136 : u_109_30 = z136 := (fr_F (e_109_30) hF111 rfl).trans e136.symm
                                subst q136
                                have n139 : (z111b).toInt ≤ 199 := by have a0 := oa10 i76x35 ro_109_29 i12 ((inv_F hI 0 200 rfl e_109_111)) ((inv_F hI 0 400 rfl e_109_109)) h1 ((in_c 1 rfl)) i115x4 i111a i115x20; have a10 := t_sub e115x20 i115x4 (in_c 1 rfl) rfl; omega
                                refine g_callv (X := _) (As := [.int u_109_30]) (r := []) (b := A 109) (q := 109) 142 (gd rfl) rfl rfl rfl rfl rfl (ww_o rfl) (Nat.le_of_ble_eq_true rfl) (Nat.zero_le _) (Nat.zero_le _) (k_396 (by first | exact dq1 hd rfl | exact dq0 hd rfl | exact dq2 hd rfl | exact dq3 hd rfl | omega) hI111 e111a n139) (fun e u h => h) (fun v u h => ?_)
                                obtain ⟨s139, hI139, hF139, n139a, rfl, rfl, p139⟩ := h
                                obtain ⟨z139a, e139⟩ : ∃ w, w = s139.2.2.1 109 111 := ⟨_, rfl⟩
                                have i139a := inv_F hI139 0 200 rfl e139
                                rw [← (show z111b = s111.2.2.1 109 111 from e111a)] at n139a
                                rw [← (show z139a = s139.2.2.1 109 111 from e139)] at n139a
                                show GG _ _ _ _ _ _ _ _ [] _ _ _
                                refine g_iconst 0 143 (gd rfl) rfl rfl ?_
                                have n143 : ((Int32.ofInt 0)).toInt = 0 → PR s s139 1 0 := by intro hR; first | (exfalso; revert hR; decide) | exact pr_tr p91 (pr_hold (hF99.1 187 rfl) (hF99.1 188 rfl) (hF99.2.2.1 109 109 rfl) (hF99.2.2.1 109 23 rfl) p99 (by rw [← e99, ← e91a]; exact n99a) (inv_F hI91 0 200 rfl rfl).1 (Or.inr ⟨by first | (have hi := i76x3; unfold In at hi; omega) | (have hi := i76x13; unfold In at hi; omega) | (have hi := i76x19; unfold In at hi; omega) | (have hi := i76x29; unfold In at hi; omega) | (have hi := i76x35; unfold In at hi; omega), rfl⟩)) | exact pr_tr p111 (pr_hold (hF139.1 187 rfl) (hF139.1 188 rfl) (hF139.2.2.1 109 109 rfl) (hF139.2.2.1 109 23 rfl) p139 (by rw [← e139, ← e111a]; exact n139a) (inv_F hI111 0 200 rfl rfl).1 (Or.inr ⟨by first | (have hi := i76x3; unfold In at hi; omega) | (have hi := i76x13; unfold In at hi; omega) | (have hi := i76x19; unfold In at hi; omega) | (have hi := i76x29; unfold In at hi; omega) | (have hi := i76x35; unfold In at hi; omega), rfl⟩)) | exact pr_tr p111 (pr_tr (b := 1) (pr_flt (hF131.1 187 rfl) (hF131.1 188 rfl) (hF131.2.2.1 109 109 rfl) (by rw [← e131]; omega)) (pr_hold (hF139.1 187 rfl) (hF139.1 188 rfl) (hF139.2.2.1 109 109 rfl) (hF139.2.2.1 109 23 rfl) p139 (by rw [← e139, ← (show z111b = s131.2.2.1 109 111 from fr_F e111a hF131 rfl)]; exact n139a) (inv_F hI131 0 200 rfl rfl).1 (Or.inr ⟨by first | (have hi := i76x3; unfold In at hi; omega) | (have hi := i76x13; unfold In at hi; omega) | (have hi := i76x19; unfold In at hi; omega) | (have hi := i76x29; unfold In at hi; omega) | (have hi := i76x35; unfold In at hi; omega), rfl⟩)))
                                have n143a : ((Int32.ofInt 0)).toInt ≠ 0 → PR s s139 1 1 := by exact fun h => absurd rfl h
                                have n143b : (s.2.2.1 109 28).toInt = 0 → ((Int32.ofInt 0)).toInt = 2 := by rw [← e_109_28]; intro h0; first | rfl | (exfalso; have a0 := oa10 i76x35 ro_109_29 i12 ((inv_F hI 0 200 rfl e_109_111)) ((inv_F hI 0 400 rfl e_109_109)) h1 ((in_c 1 rfl)) i139a i111a i115x20; have a10 := t_sub e115x20 i115x4 (in_c 1 rfl) rfl; have a11 := in_u i115x4; omega)
                                have n143c : (z111a).toInt + (z139a).toInt ≤ (u_109_109).toInt + (u_109_111).toInt + 1 := by have a0 := oa10 i76x35 ro_109_29 i12 ((inv_F hI 0 200 rfl e_109_111)) ((inv_F hI 0 400 rfl e_109_109)) h1 ((in_c 1 rfl)) i139a i111a i115x20; have a10 := t_sub e115x20 i115x4 (in_c 1 rfl) rfl; have a11 := in_u i115x4; omega
                                have n143d : (s139.2.2.1 109 109).toInt + (s139.2.2.1 109 111).toInt ≤ (s.2.2.1 109 109).toInt + (s.2.2.1 109 111).toInt + 1 := by have b0 : z111a = s139.2.2.1 109 109 := fr_F (e111) hF139 rfl; have b1 : z139a = s139.2.2.1 109 111 := e139; first | (rw [← b0, ← b1, ← e_109_109, ← e_109_111]; exact n143c) | (rw [← b0, ← b1]; exact n143c)
                                have n143e : (u_109_28).toInt = 0 → (z111a).toInt + (z139a).toInt = (u_109_109).toInt + (u_109_111).toInt := by have a0 := oa10 i76x35 ro_109_29 i12 ((inv_F hI 0 200 rfl e_109_111)) ((inv_F hI 0 400 rfl e_109_109)) h1 ((in_c 1 rfl)) i139a i111a i115x20; have a10 := t_sub e115x20 i115x4 (in_c 1 rfl) rfl; have a11 := in_u i115x4; omega
                                have n143f : (s.2.2.1 109 28).toInt = 0 → (s139.2.2.1 109 109).toInt + (s139.2.2.1 109 111).toInt = (s.2.2.1 109 109).toInt + (s.2.2.1 109 111).toInt := by have b0 : z111a = s139.2.2.1 109 109 := fr_F (e111) hF139 rfl; have b1 : z139a = s139.2.2.1 109 111 := e139; first | (rw [← b0, ← b1, ← e_109_28, ← e_109_109, ← e_109_111]; exact n143e) | (rw [← b0, ← b1]; exact n143e)
                                exact g_ireturn (gd rfl) rfl rfl (hP _ _ ⟨s139, hI139, (fr_tr rfl (fr_tr rfl fr_rf hF111) hF139), n143d, n143f, (Int32.ofInt 0), rfl, rfl, in_w 0 2 (in_c 0 rfl) rfl, n143, n143a, n143b⟩)
                              · skip
                                exact n_eq c122 (in_c 2 rfl) (in_c 1 rfl) rfl
                            · skip
                              refine g_iload_n 17 (gd rfl) rfl rfl ?_
                              refine g_bipush 45 19 (gd rfl) rfl rfl ?_
                              refine g_cmp_ne 22 26 (gd rfl) rfl rfl (fun c118x19 => ?_) (fun c118x19 => ?_)
                              · skip
                                refine g_iload_n 27 (gd rfl) rfl rfl ?_
                                refine g_bipush 60 29 (gd rfl) rfl rfl ?_
                                refine g_cmp_eq 32 38 (gd rfl) rfl rfl (fun c118x29 => ?_) (fun c118x29 => ?_)
                                · skip
                                  have i118x29 := r_eq1 60 60 c118x29 (i_rng z115x21) (in_c 60 rfl) rfl
                                  refine g_iconst 1 39 (gd rfl) rfl rfl ?_
                                  refine g_goto 43 (gd rfl) rfl ?_
                                  refine g_ireturn (gd rfl) rfl rfl (hp118 _ _ ?_)
                                  show GG _ _ _ _ _ _ _ _ [.int (Int32.ofInt 1)] _ _ _
                                  refine g_iconst 1 122 (gd rfl) rfl rfl ?_
                                  refine g_cmp_ne 125 134 (gd rfl) rfl rfl (fun c122 => ?_) (fun c122 => ?_)
                                  · skip
                                    exact n_ne c122 (in_c 1 rfl) (in_c 1 rfl) rfl
                                  · skip
                                    refine g_aload_n 126 (gd rfl) rfl rfl ?_
                                    refine g_iconst 2 127 (gd rfl) rfl rfl ?_
                                    refine g_aload_n 128 (gd rfl) rfl rfl ?_
                                    refine g_getI 131 (gd rfl) rfl rfl rfl (fun z128 e128 => ?_)
                                    have q128 : u_109_29 = z128 := (fr_F (e_109_29) hF111 rfl).trans e128.symm
                                    subst q128
                                    refine g_callv (X := _) (As := [.int (Int32.ofInt 2), .int u_109_29]) (r := []) (b := A 109) (q := 109) 134 (gd rfl) rfl rfl rfl rfl rfl (ww_o rfl) (Nat.le_of_ble_eq_true rfl) (Nat.zero_le _) (Nat.zero_le _) (k_298 (by first | exact dq1 hd rfl | exact dq0 hd rfl | exact dq2 hd rfl | exact dq3 hd rfl | omega) hI111 (in_w 1 5 (in_c 2 rfl) rfl)) (fun e u h => h) (fun v u h => ?_)
                                    obtain ⟨s131, hI131, hF131, n131, rfl, rfl⟩ := h
                                    obtain ⟨z131a, e131⟩ : ∃ w, w = s131.2.2.1 109 23 := ⟨_, rfl⟩
                                    have i131a := inv_F hI131 0 9 rfl e131
                                    rw [← (show z131a = s131.2.2.1 109 23 from e131)] at n131
                                    show GG _ _ _ _ _ _ _ _ [] _ _ _
                                    refine g_aload_n 135 (gd rfl) rfl rfl ?_
                                    refine g_aload_n 136 (gd rfl) rfl rfl ?_
                                    refine g_getI 139 (gd rfl) rfl rfl rfl (fun z136 e136 => ?_)
                                    have q136 : u_109_30 = z136 := (fr_F (fr_F (e_109_30) hF111 rfl) hF131 rfl).trans e136.symm
                                    subst q136
                                    have v139 : z111b = s131.2.2.1 109 111 := fr_F (e111a) hF131 rfl
                                    have n139 : (z111b).toInt ≤ 199 := by have a0 := oa11 i76x35 ro_109_29 i12 ((inv_F hI 0 200 rfl e_109_111)) ((inv_F hI 0 400 rfl e_109_109)) h1 ((in_c 1 rfl)) i131a i115x4 i111a i115x20; have a11 := t_sub e115x20 i115x4 (in_c 1 rfl) rfl; omega
                                    refine g_callv (X := _) (As := [.int u_109_30]) (r := []) (b := A 109) (q := 109) 142 (gd rfl) rfl rfl rfl rfl rfl (ww_o rfl) (Nat.le_of_ble_eq_true rfl) (Nat.zero_le _) (Nat.zero_le _) (k_396 (by first | exact dq1 hd rfl | exact dq0 hd rfl | exact dq2 hd rfl | exact dq3 hd rfl | omega) hI131 v139 n139) (fun e u h => h) (fun v u h => ?_)
                                    obtain ⟨s139, hI139, hF139, n139a, rfl, rfl, p139⟩ := h
                                    obtain ⟨z139a, e139⟩ : ∃ w, w = s139.2.2.1 109 111 := ⟨_, rfl⟩
                                    have i139a := inv_F hI139 0 200 rfl e139
                                    rw [← (show z111b = s131.2.2.1 109 111 from fr_F (e111a) hF131 rfl)] at n139a
                                    rw [← (show z139a = s139.2.2.1 109 111 from e139)] at n139a
                                    show GG _ _ _ _ _ _ _ _ [] _ _ _
                                    refine g_iconst 0 143 (gd rfl) rfl rfl ?_
                                    have n143 : ((Int32.ofInt 0)).toInt = 0 → PR s s139 1 0 := by intro hR; first | (exfalso; revert hR; decide) | exact pr_tr p91 (pr_hold (hF99.1 187 rfl) (hF99.1 188 rfl) (hF99.2.2.1 109 109 rfl) (hF99.2.2.1 109 23 rfl) p99 (by rw [← e99, ← e91a]; exact n99a) (inv_F hI91 0 200 rfl rfl).1 (Or.inr ⟨by first | (have hi := i76x3; unfold In at hi; omega) | (have hi := i76x13; unfold In at hi; omega) | (have hi := i76x19; unfold In at hi; omega) | (have hi := i76x29; unfold In at hi; omega) | (have hi := i76x35; unfold In at hi; omega), rfl⟩)) | exact pr_tr p111 (pr_hold (hF139.1 187 rfl) (hF139.1 188 rfl) (hF139.2.2.1 109 109 rfl) (hF139.2.2.1 109 23 rfl) p139 (by rw [← e139, ← e111a]; exact n139a) (inv_F hI111 0 200 rfl rfl).1 (Or.inr ⟨by first | (have hi := i76x3; unfold In at hi; omega) | (have hi := i76x13; unfold In at hi; omega) | (have hi := i76x19; unfold In at hi; omega) | (have hi := i76x29; unfold In at hi; omega) | (have hi := i76x35; unfold In at hi; omega), rfl⟩)) | exact pr_tr p111 (pr_tr (b := 1) (pr_flt (hF131.1 187 rfl) (hF131.1 188 rfl) (hF131.2.2.1 109 109 rfl) (by rw [← e131]; omega)) (pr_hold (hF139.1 187 rfl) (hF139.1 188 rfl) (hF139.2.2.1 109 109 rfl) (hF139.2.2.1 109 23 rfl) p139 (by rw [← e139, ← (show z111b = s131.2.2.1 109 111 from fr_F e111a hF131 rfl)]; exact n139a) (inv_F hI131 0 200 rfl rfl).1 (Or.inr ⟨by first | (have hi := i76x3; unfold In at hi; omega) | (have hi := i76x13; unfold In at hi; omega) | (have hi := i76x19; unfold In at hi; omega) | (have hi := i76x29; unfold In at hi; omega) | (have hi := i76x35; unfold In at hi; omega), rfl⟩)))
                                    have n143a : ((Int32.ofInt 0)).toInt ≠ 0 → PR s s139 1 1 := by exact fun h => absurd rfl h
                                    have n143b : (s.2.2.1 109 28).toInt = 0 → ((Int32.ofInt 0)).toInt = 2 := by rw [← e_109_28]; intro h0; first | rfl | (exfalso; have a0 := oa11 i76x35 ro_109_29 i12 ((inv_F hI 0 200 rfl e_109_111)) ((inv_F hI 0 400 rfl e_109_109)) h1 ((in_c 1 rfl)) i139a i131a i111a i115x20; have a11 := t_sub e115x20 i115x4 (in_c 1 rfl) rfl; have a12 := in_u i115x4; omega)
                                    have n143c : (z111a).toInt + (z139a).toInt ≤ (u_109_109).toInt + (u_109_111).toInt + 1 := by have a0 := oa11 i76x35 ro_109_29 i12 ((inv_F hI 0 200 rfl e_109_111)) ((inv_F hI 0 400 rfl e_109_109)) h1 ((in_c 1 rfl)) i139a i131a i111a i115x20; have a11 := t_sub e115x20 i115x4 (in_c 1 rfl) rfl; have a12 := in_u i115x4; omega
                                    have n143d : (s139.2.2.1 109 109).toInt + (s139.2.2.1 109 111).toInt ≤ (s.2.2.1 109 109).toInt + (s.2.2.1 109 111).toInt + 1 := by have b0 : z111a = s139.2.2.1 109 109 := fr_F (fr_F (e111) hF131 rfl) hF139 rfl; have b1 : z139a = s139.2.2.1 109 111 := e139; first | (rw [← b0, ← b1, ← e_109_109, ← e_109_111]; exact n143c) | (rw [← b0, ← b1]; exact n143c)
                                    have n143e : (u_109_28).toInt = 0 → (z111a).toInt + (z139a).toInt = (u_109_109).toInt + (u_109_111).toInt := by have a0 := oa11 i76x35 ro_109_29 i12 ((inv_F hI 0 200 rfl e_109_111)) ((inv_F hI 0 400 rfl e_109_109)) h1 ((in_c 1 rfl)) i139a i131a i111a i115x20; have a11 := t_sub e115x20 i115x4 (in_c 1 rfl) rfl; have a12 := in_u i115x4; omega
                                    have n143f : (s.2.2.1 109 28).toInt = 0 → (s139.2.2.1 109 109).toInt + (s139.2.2.1 109 111).toInt = (s.2.2.1 109 109).toInt + (s.2.2.1 109 111).toInt := by have b0 : z111a = s139.2.2.1 109 109 := fr_F (fr_F (e111) hF131 rfl) hF139 rfl; have b1 : z139a = s139.2.2.1 109 111 := e139; first | (rw [← b0, ← b1, ← e_109_28, ← e_109_109, ← e_109_111]; exact n143e) | (rw [← b0, ← b1]; exact n143e)
                                    exact g_ireturn (gd rfl) rfl rfl (hP _ _ ⟨s139, hI139, (fr_tr rfl (fr_tr rfl (fr_tr rfl fr_rf hF111) hF131) hF139), n143d, n143f, (Int32.ofInt 0), rfl, rfl, in_w 0 2 (in_c 0 rfl) rfl, n143, n143a, n143b⟩)
                                · skip
                                  refine g_iload_n 33 (gd rfl) rfl rfl ?_
                                  refine g_bipush 61 35 (gd rfl) rfl rfl ?_
                                  refine g_cmp_ne 38 42 (gd rfl) rfl rfl (fun c118x35 => ?_) (fun c118x35 => ?_)
                                  · skip
                                    refine g_iconst 0 43 (gd rfl) rfl rfl ?_
                                    refine g_ireturn (gd rfl) rfl rfl (hp118 _ _ ?_)
                                    show GG _ _ _ _ _ _ _ _ [.int (Int32.ofInt 0)] _ _ _
                                    refine g_iconst 1 122 (gd rfl) rfl rfl ?_
                                    refine g_cmp_ne 125 134 (gd rfl) rfl rfl (fun c122 => ?_) (fun c122 => ?_)
                                    · skip
                                      refine g_aload_n 135 (gd rfl) rfl rfl ?_
                                      refine g_aload_n 136 (gd rfl) rfl rfl ?_
                                      refine g_getI 139 (gd rfl) rfl rfl rfl (fun z136 e136 => ?_)
                                      have q136 : u_109_30 = z136 := (fr_F (e_109_30) hF111 rfl).trans e136.symm
                                      subst q136
                                      have n139 : (z111b).toInt ≤ 199 := by have a0 := oa10 i76x35 ro_109_29 i12 ((inv_F hI 0 200 rfl e_109_111)) ((inv_F hI 0 400 rfl e_109_109)) h1 ((in_c 1 rfl)) i115x4 i111a i115x20; have a10 := t_sub e115x20 i115x4 (in_c 1 rfl) rfl; omega
                                      refine g_callv (X := _) (As := [.int u_109_30]) (r := []) (b := A 109) (q := 109) 142 (gd rfl) rfl rfl rfl rfl rfl (ww_o rfl) (Nat.le_of_ble_eq_true rfl) (Nat.zero_le _) (Nat.zero_le _) (k_396 (by first | exact dq1 hd rfl | exact dq0 hd rfl | exact dq2 hd rfl | exact dq3 hd rfl | omega) hI111 e111a n139) (fun e u h => h) (fun v u h => ?_)
                                      obtain ⟨s139, hI139, hF139, n139a, rfl, rfl, p139⟩ := h
                                      obtain ⟨z139a, e139⟩ : ∃ w, w = s139.2.2.1 109 111 := ⟨_, rfl⟩
                                      have i139a := inv_F hI139 0 200 rfl e139
                                      rw [← (show z111b = s111.2.2.1 109 111 from e111a)] at n139a
                                      rw [← (show z139a = s139.2.2.1 109 111 from e139)] at n139a
                                      show GG _ _ _ _ _ _ _ _ [] _ _ _
                                      refine g_iconst 0 143 (gd rfl) rfl rfl ?_
                                      have n143 : ((Int32.ofInt 0)).toInt = 0 → PR s s139 1 0 := by intro hR; first | (exfalso; revert hR; decide) | exact pr_tr p91 (pr_hold (hF99.1 187 rfl) (hF99.1 188 rfl) (hF99.2.2.1 109 109 rfl) (hF99.2.2.1 109 23 rfl) p99 (by rw [← e99, ← e91a]; exact n99a) (inv_F hI91 0 200 rfl rfl).1 (Or.inr ⟨by first | (have hi := i76x3; unfold In at hi; omega) | (have hi := i76x13; unfold In at hi; omega) | (have hi := i76x19; unfold In at hi; omega) | (have hi := i76x29; unfold In at hi; omega) | (have hi := i76x35; unfold In at hi; omega), rfl⟩)) | exact pr_tr p111 (pr_hold (hF139.1 187 rfl) (hF139.1 188 rfl) (hF139.2.2.1 109 109 rfl) (hF139.2.2.1 109 23 rfl) p139 (by rw [← e139, ← e111a]; exact n139a) (inv_F hI111 0 200 rfl rfl).1 (Or.inr ⟨by first | (have hi := i76x3; unfold In at hi; omega) | (have hi := i76x13; unfold In at hi; omega) | (have hi := i76x19; unfold In at hi; omega) | (have hi := i76x29; unfold In at hi; omega) | (have hi := i76x35; unfold In at hi; omega), rfl⟩)) | exact pr_tr p111 (pr_tr (b := 1) (pr_flt (hF131.1 187 rfl) (hF131.1 188 rfl) (hF131.2.2.1 109 109 rfl) (by rw [← e131]; omega)) (pr_hold (hF139.1 187 rfl) (hF139.1 188 rfl) (hF139.2.2.1 109 109 rfl) (hF139.2.2.1 109 23 rfl) p139 (by rw [← e139, ← (show z111b = s131.2.2.1 109 111 from fr_F e111a hF131 rfl)]; exact n139a) (inv_F hI131 0 200 rfl rfl).1 (Or.inr ⟨by first | (have hi := i76x3; unfold In at hi; omega) | (have hi := i76x13; unfold In at hi; omega) | (have hi := i76x19; unfold In at hi; omega) | (have hi := i76x29; unfold In at hi; omega) | (have hi := i76x35; unfold In at hi; omega), rfl⟩)))
                                      have n143a : ((Int32.ofInt 0)).toInt ≠ 0 → PR s s139 1 1 := by exact fun h => absurd rfl h
                                      have n143b : (s.2.2.1 109 28).toInt = 0 → ((Int32.ofInt 0)).toInt = 2 := by rw [← e_109_28]; intro h0; first | rfl | (exfalso; have a0 := oa10 i76x35 ro_109_29 i12 ((inv_F hI 0 200 rfl e_109_111)) ((inv_F hI 0 400 rfl e_109_109)) h1 ((in_c 1 rfl)) i139a i111a i115x20; have a10 := t_sub e115x20 i115x4 (in_c 1 rfl) rfl; have a11 := in_u i115x4; omega)
                                      have n143c : (z111a).toInt + (z139a).toInt ≤ (u_109_109).toInt + (u_109_111).toInt + 1 := by have a0 := oa10 i76x35 ro_109_29 i12 ((inv_F hI 0 200 rfl e_109_111)) ((inv_F hI 0 400 rfl e_109_109)) h1 ((in_c 1 rfl)) i139a i111a i115x20; have a10 := t_sub e115x20 i115x4 (in_c 1 rfl) rfl; have a11 := in_u i115x4; omega
                                      have n143d : (s139.2.2.1 109 109).toInt + (s139.2.2.1 109 111).toInt ≤ (s.2.2.1 109 109).toInt + (s.2.2.1 109 111).toInt + 1 := by have b0 : z111a = s139.2.2.1 109 109 := fr_F (e111) hF139 rfl; have b1 : z139a = s139.2.2.1 109 111 := e139; first | (rw [← b0, ← b1, ← e_109_109, ← e_109_111]; exact n143c) | (rw [← b0, ← b1]; exact n143c)
                                      have n143e : (u_109_28).toInt = 0 → (z111a).toInt + (z139a).toInt = (u_109_109).toInt + (u_109_111).toInt := by have a0 := oa10 i76x35 ro_109_29 i12 ((inv_F hI 0 200 rfl e_109_111)) ((inv_F hI 0 400 rfl e_109_109)) h1 ((in_c 1 rfl)) i139a i111a i115x20; have a10 := t_sub e115x20 i115x4 (in_c 1 rfl) rfl; have a11 := in_u i115x4; omega
                                      have n143f : (s.2.2.1 109 28).toInt = 0 → (s139.2.2.1 109 109).toInt + (s139.2.2.1 109 111).toInt = (s.2.2.1 109 109).toInt + (s.2.2.1 109 111).toInt := by have b0 : z111a = s139.2.2.1 109 109 := fr_F (e111) hF139 rfl; have b1 : z139a = s139.2.2.1 109 111 := e139; first | (rw [← b0, ← b1, ← e_109_28, ← e_109_109, ← e_109_111]; exact n143e) | (rw [← b0, ← b1]; exact n143e)
                                      exact g_ireturn (gd rfl) rfl rfl (hP _ _ ⟨s139, hI139, (fr_tr rfl (fr_tr rfl fr_rf hF111) hF139), n143d, n143f, (Int32.ofInt 0), rfl, rfl, in_w 0 2 (in_c 0 rfl) rfl, n143, n143a, n143b⟩)
                                    · skip
                                      exact n_eq c122 (in_c 0 rfl) (in_c 1 rfl) rfl
                                  · skip
                                    have i118x35 := r_eq1 61 61 c118x35 (i_rng z115x21) (in_c 61 rfl) rfl
                                    refine g_iconst 1 39 (gd rfl) rfl rfl ?_
                                    refine g_goto 43 (gd rfl) rfl ?_
                                    refine g_ireturn (gd rfl) rfl rfl (hp118 _ _ ?_)
                                    show GG _ _ _ _ _ _ _ _ [.int (Int32.ofInt 1)] _ _ _
                                    refine g_iconst 1 122 (gd rfl) rfl rfl ?_
                                    refine g_cmp_ne 125 134 (gd rfl) rfl rfl (fun c122 => ?_) (fun c122 => ?_)
                                    · skip
                                      exact n_ne c122 (in_c 1 rfl) (in_c 1 rfl) rfl
                                    · skip
                                      refine g_aload_n 126 (gd rfl) rfl rfl ?_
                                      refine g_iconst 2 127 (gd rfl) rfl rfl ?_
                                      refine g_aload_n 128 (gd rfl) rfl rfl ?_
                                      refine g_getI 131 (gd rfl) rfl rfl rfl (fun z128 e128 => ?_)
                                      have q128 : u_109_29 = z128 := (fr_F (e_109_29) hF111 rfl).trans e128.symm
                                      subst q128
                                      refine g_callv (X := _) (As := [.int (Int32.ofInt 2), .int u_109_29]) (r := []) (b := A 109) (q := 109) 134 (gd rfl) rfl rfl rfl rfl rfl (ww_o rfl) (Nat.le_of_ble_eq_true rfl) (Nat.zero_le _) (Nat.zero_le _) (k_298 (by first | exact dq1 hd rfl | exact dq0 hd rfl | exact dq2 hd rfl | exact dq3 hd rfl | omega) hI111 (in_w 1 5 (in_c 2 rfl) rfl)) (fun e u h => h) (fun v u h => ?_)
                                      obtain ⟨s131, hI131, hF131, n131, rfl, rfl⟩ := h
                                      obtain ⟨z131a, e131⟩ : ∃ w, w = s131.2.2.1 109 23 := ⟨_, rfl⟩
                                      have i131a := inv_F hI131 0 9 rfl e131
                                      rw [← (show z131a = s131.2.2.1 109 23 from e131)] at n131
                                      show GG _ _ _ _ _ _ _ _ [] _ _ _
                                      refine g_aload_n 135 (gd rfl) rfl rfl ?_
                                      refine g_aload_n 136 (gd rfl) rfl rfl ?_
                                      refine g_getI 139 (gd rfl) rfl rfl rfl (fun z136 e136 => ?_)
                                      have q136 : u_109_30 = z136 := (fr_F (fr_F (e_109_30) hF111 rfl) hF131 rfl).trans e136.symm
                                      subst q136
                                      have v139 : z111b = s131.2.2.1 109 111 := fr_F (e111a) hF131 rfl
                                      have n139 : (z111b).toInt ≤ 199 := by have a0 := oa11 i76x35 ro_109_29 i12 ((inv_F hI 0 200 rfl e_109_111)) ((inv_F hI 0 400 rfl e_109_109)) h1 ((in_c 1 rfl)) i131a i115x4 i111a i115x20; have a11 := t_sub e115x20 i115x4 (in_c 1 rfl) rfl; omega
                                      refine g_callv (X := _) (As := [.int u_109_30]) (r := []) (b := A 109) (q := 109) 142 (gd rfl) rfl rfl rfl rfl rfl (ww_o rfl) (Nat.le_of_ble_eq_true rfl) (Nat.zero_le _) (Nat.zero_le _) (k_396 (by first | exact dq1 hd rfl | exact dq0 hd rfl | exact dq2 hd rfl | exact dq3 hd rfl | omega) hI131 v139 n139) (fun e u h => h) (fun v u h => ?_)
                                      obtain ⟨s139, hI139, hF139, n139a, rfl, rfl, p139⟩ := h
                                      obtain ⟨z139a, e139⟩ : ∃ w, w = s139.2.2.1 109 111 := ⟨_, rfl⟩
                                      have i139a := inv_F hI139 0 200 rfl e139
                                      rw [← (show z111b = s131.2.2.1 109 111 from fr_F (e111a) hF131 rfl)] at n139a
                                      rw [← (show z139a = s139.2.2.1 109 111 from e139)] at n139a
                                      show GG _ _ _ _ _ _ _ _ [] _ _ _
                                      refine g_iconst 0 143 (gd rfl) rfl rfl ?_
                                      have n143 : ((Int32.ofInt 0)).toInt = 0 → PR s s139 1 0 := by intro hR; first | (exfalso; revert hR; decide) | exact pr_tr p91 (pr_hold (hF99.1 187 rfl) (hF99.1 188 rfl) (hF99.2.2.1 109 109 rfl) (hF99.2.2.1 109 23 rfl) p99 (by rw [← e99, ← e91a]; exact n99a) (inv_F hI91 0 200 rfl rfl).1 (Or.inr ⟨by first | (have hi := i76x3; unfold In at hi; omega) | (have hi := i76x13; unfold In at hi; omega) | (have hi := i76x19; unfold In at hi; omega) | (have hi := i76x29; unfold In at hi; omega) | (have hi := i76x35; unfold In at hi; omega), rfl⟩)) | exact pr_tr p111 (pr_hold (hF139.1 187 rfl) (hF139.1 188 rfl) (hF139.2.2.1 109 109 rfl) (hF139.2.2.1 109 23 rfl) p139 (by rw [← e139, ← e111a]; exact n139a) (inv_F hI111 0 200 rfl rfl).1 (Or.inr ⟨by first | (have hi := i76x3; unfold In at hi; omega) | (have hi := i76x13; unfold In at hi; omega) | (have hi := i76x19; unfold In at hi; omega) | (have hi := i76x29; unfold In at hi; omega) | (have hi := i76x35; unfold In at hi; omega), rfl⟩)) | exact pr_tr p111 (pr_tr (b := 1) (pr_flt (hF131.1 187 rfl) (hF131.1 188 rfl) (hF131.2.2.1 109 109 rfl) (by rw [← e131]; omega)) (pr_hold (hF139.1 187 rfl) (hF139.1 188 rfl) (hF139.2.2.1 109 109 rfl) (hF139.2.2.1 109 23 rfl) p139 (by rw [← e139, ← (show z111b = s131.2.2.1 109 111 from fr_F e111a hF131 rfl)]; exact n139a) (inv_F hI131 0 200 rfl rfl).1 (Or.inr ⟨by first | (have hi := i76x3; unfold In at hi; omega) | (have hi := i76x13; unfold In at hi; omega) | (have hi := i76x19; unfold In at hi; omega) | (have hi := i76x29; unfold In at hi; omega) | (have hi := i76x35; unfold In at hi; omega), rfl⟩)))
                                      have n143a : ((Int32.ofInt 0)).toInt ≠ 0 → PR s s139 1 1 := by exact fun h => absurd rfl h
                                      have n143b : (s.2.2.1 109 28).toInt = 0 → ((Int32.ofInt 0)).toInt = 2 := by rw [← e_109_28]; intro h0; first | rfl | (exfalso; have a0 := oa11 i76x35 ro_109_29 i12 ((inv_F hI 0 200 rfl e_109_111)) ((inv_F hI 0 400 rfl e_109_109)) h1 ((in_c 1 rfl)) i139a i131a i111a i115x20; have a11 := t_sub e115x20 i115x4 (in_c 1 rfl) rfl; have a12 := in_u i115x4; omega)
                                      have n143c : (z111a).toInt + (z139a).toInt ≤ (u_109_109).toInt + (u_109_111).toInt + 1 := by have a0 := oa11 i76x35 ro_109_29 i12 ((inv_F hI 0 200 rfl e_109_111)) ((inv_F hI 0 400 rfl e_109_109)) h1 ((in_c 1 rfl)) i139a i131a i111a i115x20; have a11 := t_sub e115x20 i115x4 (in_c 1 rfl) rfl; have a12 := in_u i115x4; omega
                                      have n143d : (s139.2.2.1 109 109).toInt + (s139.2.2.1 109 111).toInt ≤ (s.2.2.1 109 109).toInt + (s.2.2.1 109 111).toInt + 1 := by have b0 : z111a = s139.2.2.1 109 109 := fr_F (fr_F (e111) hF131 rfl) hF139 rfl; have b1 : z139a = s139.2.2.1 109 111 := e139; first | (rw [← b0, ← b1, ← e_109_109, ← e_109_111]; exact n143c) | (rw [← b0, ← b1]; exact n143c)
                                      have n143e : (u_109_28).toInt = 0 → (z111a).toInt + (z139a).toInt = (u_109_109).toInt + (u_109_111).toInt := by have a0 := oa11 i76x35 ro_109_29 i12 ((inv_F hI 0 200 rfl e_109_111)) ((inv_F hI 0 400 rfl e_109_109)) h1 ((in_c 1 rfl)) i139a i131a i111a i115x20; have a11 := t_sub e115x20 i115x4 (in_c 1 rfl) rfl; have a12 := in_u i115x4; omega
                                      have n143f : (s.2.2.1 109 28).toInt = 0 → (s139.2.2.1 109 109).toInt + (s139.2.2.1 109 111).toInt = (s.2.2.1 109 109).toInt + (s.2.2.1 109 111).toInt := by have b0 : z111a = s139.2.2.1 109 109 := fr_F (fr_F (e111) hF131 rfl) hF139 rfl; have b1 : z139a = s139.2.2.1 109 111 := e139; first | (rw [← b0, ← b1, ← e_109_28, ← e_109_109, ← e_109_111]; exact n143e) | (rw [← b0, ← b1]; exact n143e)
                                      exact g_ireturn (gd rfl) rfl rfl (hP _ _ ⟨s139, hI139, (fr_tr rfl (fr_tr rfl (fr_tr rfl fr_rf hF111) hF131) hF139), n143d, n143f, (Int32.ofInt 0), rfl, rfl, in_w 0 2 (in_c 0 rfl) rfl, n143, n143a, n143b⟩)
                              · skip
                                have i118x19 := r_eq1 45 45 c118x19 (i_rng z115x21) (in_c 45 rfl) rfl
                                refine g_iconst 2 23 (gd rfl) rfl rfl ?_
                                refine g_goto 43 (gd rfl) rfl ?_
                                refine g_ireturn (gd rfl) rfl rfl (hp118 _ _ ?_)
                                show GG _ _ _ _ _ _ _ _ [.int (Int32.ofInt 2)] _ _ _
                                refine g_iconst 1 122 (gd rfl) rfl rfl ?_
                                refine g_cmp_ne 125 134 (gd rfl) rfl rfl (fun c122 => ?_) (fun c122 => ?_)
                                · skip
                                  refine g_aload_n 135 (gd rfl) rfl rfl ?_
                                  refine g_aload_n 136 (gd rfl) rfl rfl ?_
                                  refine g_getI 139 (gd rfl) rfl rfl rfl (fun z136 e136 => ?_)
                                  have q136 : u_109_30 = z136 := (fr_F (e_109_30) hF111 rfl).trans e136.symm
                                  subst q136
                                  have n139 : (z111b).toInt ≤ 199 := by have a0 := oa10 i76x35 ro_109_29 i12 ((inv_F hI 0 200 rfl e_109_111)) ((inv_F hI 0 400 rfl e_109_109)) h1 ((in_c 1 rfl)) i115x4 i111a i115x20; have a10 := t_sub e115x20 i115x4 (in_c 1 rfl) rfl; omega
                                  refine g_callv (X := _) (As := [.int u_109_30]) (r := []) (b := A 109) (q := 109) 142 (gd rfl) rfl rfl rfl rfl rfl (ww_o rfl) (Nat.le_of_ble_eq_true rfl) (Nat.zero_le _) (Nat.zero_le _) (k_396 (by first | exact dq1 hd rfl | exact dq0 hd rfl | exact dq2 hd rfl | exact dq3 hd rfl | omega) hI111 e111a n139) (fun e u h => h) (fun v u h => ?_)
                                  obtain ⟨s139, hI139, hF139, n139a, rfl, rfl, p139⟩ := h
                                  obtain ⟨z139a, e139⟩ : ∃ w, w = s139.2.2.1 109 111 := ⟨_, rfl⟩
                                  have i139a := inv_F hI139 0 200 rfl e139
                                  rw [← (show z111b = s111.2.2.1 109 111 from e111a)] at n139a
                                  rw [← (show z139a = s139.2.2.1 109 111 from e139)] at n139a
                                  show GG _ _ _ _ _ _ _ _ [] _ _ _
                                  refine g_iconst 0 143 (gd rfl) rfl rfl ?_
                                  have n143 : ((Int32.ofInt 0)).toInt = 0 → PR s s139 1 0 := by intro hR; first | (exfalso; revert hR; decide) | exact pr_tr p91 (pr_hold (hF99.1 187 rfl) (hF99.1 188 rfl) (hF99.2.2.1 109 109 rfl) (hF99.2.2.1 109 23 rfl) p99 (by rw [← e99, ← e91a]; exact n99a) (inv_F hI91 0 200 rfl rfl).1 (Or.inr ⟨by first | (have hi := i76x3; unfold In at hi; omega) | (have hi := i76x13; unfold In at hi; omega) | (have hi := i76x19; unfold In at hi; omega) | (have hi := i76x29; unfold In at hi; omega) | (have hi := i76x35; unfold In at hi; omega), rfl⟩)) | exact pr_tr p111 (pr_hold (hF139.1 187 rfl) (hF139.1 188 rfl) (hF139.2.2.1 109 109 rfl) (hF139.2.2.1 109 23 rfl) p139 (by rw [← e139, ← e111a]; exact n139a) (inv_F hI111 0 200 rfl rfl).1 (Or.inr ⟨by first | (have hi := i76x3; unfold In at hi; omega) | (have hi := i76x13; unfold In at hi; omega) | (have hi := i76x19; unfold In at hi; omega) | (have hi := i76x29; unfold In at hi; omega) | (have hi := i76x35; unfold In at hi; omega), rfl⟩)) | exact pr_tr p111 (pr_tr (b := 1) (pr_flt (hF131.1 187 rfl) (hF131.1 188 rfl) (hF131.2.2.1 109 109 rfl) (by rw [← e131]; omega)) (pr_hold (hF139.1 187 rfl) (hF139.1 188 rfl) (hF139.2.2.1 109 109 rfl) (hF139.2.2.1 109 23 rfl) p139 (by rw [← e139, ← (show z111b = s131.2.2.1 109 111 from fr_F e111a hF131 rfl)]; exact n139a) (inv_F hI131 0 200 rfl rfl).1 (Or.inr ⟨by first | (have hi := i76x3; unfold In at hi; omega) | (have hi := i76x13; unfold In at hi; omega) | (have hi := i76x19; unfold In at hi; omega) | (have hi := i76x29; unfold In at hi; omega) | (have hi := i76x35; unfold In at hi; omega), rfl⟩)))
                                  have n143a : ((Int32.ofInt 0)).toInt ≠ 0 → PR s s139 1 1 := by exact fun h => absurd rfl h
                                  have n143b : (s.2.2.1 109 28).toInt = 0 → ((Int32.ofInt 0)).toInt = 2 := by rw [← e_109_28]; intro h0; first | rfl | (exfalso; have a0 := oa10 i76x35 ro_109_29 i12 ((inv_F hI 0 200 rfl e_109_111)) ((inv_F hI 0 400 rfl e_109_109)) h1 ((in_c 1 rfl)) i139a i111a i115x20; have a10 := t_sub e115x20 i115x4 (in_c 1 rfl) rfl; have a11 := in_u i115x4; omega)
                                  have n143c : (z111a).toInt + (z139a).toInt ≤ (u_109_109).toInt + (u_109_111).toInt + 1 := by have a0 := oa10 i76x35 ro_109_29 i12 ((inv_F hI 0 200 rfl e_109_111)) ((inv_F hI 0 400 rfl e_109_109)) h1 ((in_c 1 rfl)) i139a i111a i115x20; have a10 := t_sub e115x20 i115x4 (in_c 1 rfl) rfl; have a11 := in_u i115x4; omega
                                  have n143d : (s139.2.2.1 109 109).toInt + (s139.2.2.1 109 111).toInt ≤ (s.2.2.1 109 109).toInt + (s.2.2.1 109 111).toInt + 1 := by have b0 : z111a = s139.2.2.1 109 109 := fr_F (e111) hF139 rfl; have b1 : z139a = s139.2.2.1 109 111 := e139; first | (rw [← b0, ← b1, ← e_109_109, ← e_109_111]; exact n143c) | (rw [← b0, ← b1]; exact n143c)
                                  have n143e : (u_109_28).toInt = 0 → (z111a).toInt + (z139a).toInt = (u_109_109).toInt + (u_109_111).toInt := by have a0 := oa10 i76x35 ro_109_29 i12 ((inv_F hI 0 200 rfl e_109_111)) ((inv_F hI 0 400 rfl e_109_109)) h1 ((in_c 1 rfl)) i139a i111a i115x20; have a10 := t_sub e115x20 i115x4 (in_c 1 rfl) rfl; have a11 := in_u i115x4; omega
                                  have n143f : (s.2.2.1 109 28).toInt = 0 → (s139.2.2.1 109 109).toInt + (s139.2.2.1 109 111).toInt = (s.2.2.1 109 109).toInt + (s.2.2.1 109 111).toInt := by have b0 : z111a = s139.2.2.1 109 109 := fr_F (e111) hF139 rfl; have b1 : z139a = s139.2.2.1 109 111 := e139; first | (rw [← b0, ← b1, ← e_109_28, ← e_109_109, ← e_109_111]; exact n143e) | (rw [← b0, ← b1]; exact n143e)
                                  exact g_ireturn (gd rfl) rfl rfl (hP _ _ ⟨s139, hI139, (fr_tr rfl (fr_tr rfl fr_rf hF111) hF139), n143d, n143f, (Int32.ofInt 0), rfl, rfl, in_w 0 2 (in_c 0 rfl) rfl, n143, n143a, n143b⟩)
                                · skip
                                  exact n_eq c122 (in_c 2 rfl) (in_c 1 rfl) rfl
                          · skip
                            have i118x3 := r_eq1 42 42 c118x3 (i_rng z115x21) (in_c 42 rfl) rfl
                            refine g_iconst 3 7 (gd rfl) rfl rfl ?_
                            refine g_goto 43 (gd rfl) rfl ?_
                            refine g_ireturn (gd rfl) rfl rfl (hp118 _ _ ?_)
                            show GG _ _ _ _ _ _ _ _ [.int (Int32.ofInt 3)] _ _ _
                            refine g_iconst 1 122 (gd rfl) rfl rfl ?_
                            refine g_cmp_ne 125 134 (gd rfl) rfl rfl (fun c122 => ?_) (fun c122 => ?_)
                            · skip
                              refine g_aload_n 135 (gd rfl) rfl rfl ?_
                              refine g_aload_n 136 (gd rfl) rfl rfl ?_
                              refine g_getI 139 (gd rfl) rfl rfl rfl (fun z136 e136 => ?_)
                              have q136 : u_109_30 = z136 := (fr_F (e_109_30) hF111 rfl).trans e136.symm
                              subst q136
                              have n139 : (z111b).toInt ≤ 199 := by have a0 := oa10 i76x35 ro_109_29 i12 ((inv_F hI 0 200 rfl e_109_111)) ((inv_F hI 0 400 rfl e_109_109)) h1 ((in_c 1 rfl)) i115x4 i111a i115x20; have a10 := t_sub e115x20 i115x4 (in_c 1 rfl) rfl; omega
                              refine g_callv (X := _) (As := [.int u_109_30]) (r := []) (b := A 109) (q := 109) 142 (gd rfl) rfl rfl rfl rfl rfl (ww_o rfl) (Nat.le_of_ble_eq_true rfl) (Nat.zero_le _) (Nat.zero_le _) (k_396 (by first | exact dq1 hd rfl | exact dq0 hd rfl | exact dq2 hd rfl | exact dq3 hd rfl | omega) hI111 e111a n139) (fun e u h => h) (fun v u h => ?_)
                              obtain ⟨s139, hI139, hF139, n139a, rfl, rfl, p139⟩ := h
                              obtain ⟨z139a, e139⟩ : ∃ w, w = s139.2.2.1 109 111 := ⟨_, rfl⟩
                              have i139a := inv_F hI139 0 200 rfl e139
                              rw [← (show z111b = s111.2.2.1 109 111 from e111a)] at n139a
                              rw [← (show z139a = s139.2.2.1 109 111 from e139)] at n139a
                              show GG _ _ _ _ _ _ _ _ [] _ _ _
                              refine g_iconst 0 143 (gd rfl) rfl rfl ?_
                              have n143 : ((Int32.ofInt 0)).toInt = 0 → PR s s139 1 0 := by intro hR; first | (exfalso; revert hR; decide) | exact pr_tr p91 (pr_hold (hF99.1 187 rfl) (hF99.1 188 rfl) (hF99.2.2.1 109 109 rfl) (hF99.2.2.1 109 23 rfl) p99 (by rw [← e99, ← e91a]; exact n99a) (inv_F hI91 0 200 rfl rfl).1 (Or.inr ⟨by first | (have hi := i76x3; unfold In at hi; omega) | (have hi := i76x13; unfold In at hi; omega) | (have hi := i76x19; unfold In at hi; omega) | (have hi := i76x29; unfold In at hi; omega) | (have hi := i76x35; unfold In at hi; omega), rfl⟩)) | exact pr_tr p111 (pr_hold (hF139.1 187 rfl) (hF139.1 188 rfl) (hF139.2.2.1 109 109 rfl) (hF139.2.2.1 109 23 rfl) p139 (by rw [← e139, ← e111a]; exact n139a) (inv_F hI111 0 200 rfl rfl).1 (Or.inr ⟨by first | (have hi := i76x3; unfold In at hi; omega) | (have hi := i76x13; unfold In at hi; omega) | (have hi := i76x19; unfold In at hi; omega) | (have hi := i76x29; unfold In at hi; omega) | (have hi := i76x35; unfold In at hi; omega), rfl⟩)) | exact pr_tr p111 (pr_tr (b := 1) (pr_flt (hF131.1 187 rfl) (hF131.1 188 rfl) (hF131.2.2.1 109 109 rfl) (by rw [← e131]; omega)) (pr_hold (hF139.1 187 rfl) (hF139.1 188 rfl) (hF139.2.2.1 109 109 rfl) (hF139.2.2.1 109 23 rfl) p139 (by rw [← e139, ← (show z111b = s131.2.2.1 109 111 from fr_F e111a hF131 rfl)]; exact n139a) (inv_F hI131 0 200 rfl rfl).1 (Or.inr ⟨by first | (have hi := i76x3; unfold In at hi; omega) | (have hi := i76x13; unfold In at hi; omega) | (have hi := i76x19; unfold In at hi; omega) | (have hi := i76x29; unfold In at hi; omega) | (have hi := i76x35; unfold In at hi; omega), rfl⟩)))
                              have n143a : ((Int32.ofInt 0)).toInt ≠ 0 → PR s s139 1 1 := by exact fun h => absurd rfl h
                              have n143b : (s.2.2.1 109 28).toInt = 0 → ((Int32.ofInt 0)).toInt = 2 := by rw [← e_109_28]; intro h0; first | rfl | (exfalso; have a0 := oa10 i76x35 ro_109_29 i12 ((inv_F hI 0 200 rfl e_109_111)) ((inv_F hI 0 400 rfl e_109_109)) h1 ((in_c 1 rfl)) i139a i111a i115x20; have a10 := t_sub e115x20 i115x4 (in_c 1 rfl) rfl; have a11 := in_u i115x4; omega)
                              have n143c : (z111a).toInt + (z139a).toInt ≤ (u_109_109).toInt + (u_109_111).toInt + 1 := by have a0 := oa10 i76x35 ro_109_29 i12 ((inv_F hI 0 200 rfl e_109_111)) ((inv_F hI 0 400 rfl e_109_109)) h1 ((in_c 1 rfl)) i139a i111a i115x20; have a10 := t_sub e115x20 i115x4 (in_c 1 rfl) rfl; have a11 := in_u i115x4; omega
                              have n143d : (s139.2.2.1 109 109).toInt + (s139.2.2.1 109 111).toInt ≤ (s.2.2.1 109 109).toInt + (s.2.2.1 109 111).toInt + 1 := by have b0 : z111a = s139.2.2.1 109 109 := fr_F (e111) hF139 rfl; have b1 : z139a = s139.2.2.1 109 111 := e139; first | (rw [← b0, ← b1, ← e_109_109, ← e_109_111]; exact n143c) | (rw [← b0, ← b1]; exact n143c)
                              have n143e : (u_109_28).toInt = 0 → (z111a).toInt + (z139a).toInt = (u_109_109).toInt + (u_109_111).toInt := by have a0 := oa10 i76x35 ro_109_29 i12 ((inv_F hI 0 200 rfl e_109_111)) ((inv_F hI 0 400 rfl e_109_109)) h1 ((in_c 1 rfl)) i139a i111a i115x20; have a10 := t_sub e115x20 i115x4 (in_c 1 rfl) rfl; have a11 := in_u i115x4; omega
                              have n143f : (s.2.2.1 109 28).toInt = 0 → (s139.2.2.1 109 109).toInt + (s139.2.2.1 109 111).toInt = (s.2.2.1 109 109).toInt + (s.2.2.1 109 111).toInt := by have b0 : z111a = s139.2.2.1 109 109 := fr_F (e111) hF139 rfl; have b1 : z139a = s139.2.2.1 109 111 := e139; first | (rw [← b0, ← b1, ← e_109_28, ← e_109_109, ← e_109_111]; exact n143e) | (rw [← b0, ← b1]; exact n143e)
                              exact g_ireturn (gd rfl) rfl rfl (hP _ _ ⟨s139, hI139, (fr_tr rfl (fr_tr rfl fr_rf hF111) hF139), n143d, n143f, (Int32.ofInt 0), rfl, rfl, in_w 0 2 (in_c 0 rfl) rfl, n143, n143a, n143b⟩)
                            · skip
                              exact n_eq c122 (in_c 3 rfl) (in_c 1 rfl) rfl
                        · skip
                          have i115x4 := z_eq 0 0 c115x4 i111b rfl
                          refine g_iconst 0 8 (gd rfl) rfl rfl ?_
                          refine g_goto 22 (gd rfl) rfl ?_
                          refine g_ireturn (gd rfl) rfl rfl (hp115 _ _ ?_)
                          show GG _ _ _ _ _ _ _ _ [.int (Int32.ofInt 0)] _ _ _
                          refine g_calls (As := [.int (Int32.ofInt 0)]) (r := []) 121 (gd rfl) rfl rfl rfl rfl rfl (Nat.le_of_ble_eq_true rfl) (mc := 0) (ms := 0) (Nat.zero_le _) (Nat.zero_le _) (P := fun v u => _) ?_ (fun v u h => h)
                          intro po118 xx118 hp118 hx118
                          refine g_enter2 (k := 398) (N := 300) (by first | exact dq1 hd rfl | exact dq0 hd rfl | exact dq2 hd rfl | exact dq3 hd rfl | omega) rfl (Nat.le_of_ble_eq_true rfl) ?_
                          refine g_iload_n 1 (gd rfl) rfl rfl ?_
                          refine g_bipush 42 3 (gd rfl) rfl rfl ?_
                          refine g_cmp_ne 6 10 (gd rfl) rfl rfl (fun c118x3 => ?_) (fun c118x3 => ?_)
                          · skip
                            refine g_iload_n 11 (gd rfl) rfl rfl ?_
                            refine g_bipush 43 13 (gd rfl) rfl rfl ?_
                            refine g_cmp_eq 16 22 (gd rfl) rfl rfl (fun c118x13 => ?_) (fun c118x13 => ?_)
                            · skip
                              exact n_eq c118x13 (in_c 0 rfl) (in_c 43 rfl) rfl
                            · skip
                              refine g_iload_n 17 (gd rfl) rfl rfl ?_
                              refine g_bipush 45 19 (gd rfl) rfl rfl ?_
                              refine g_cmp_ne 22 26 (gd rfl) rfl rfl (fun c118x19 => ?_) (fun c118x19 => ?_)
                              · skip
                                refine g_iload_n 27 (gd rfl) rfl rfl ?_
                                refine g_bipush 60 29 (gd rfl) rfl rfl ?_
                                refine g_cmp_eq 32 38 (gd rfl) rfl rfl (fun c118x29 => ?_) (fun c118x29 => ?_)
                                · skip
                                  exact n_eq c118x29 (in_c 0 rfl) (in_c 60 rfl) rfl
                                · skip
                                  refine g_iload_n 33 (gd rfl) rfl rfl ?_
                                  refine g_bipush 61 35 (gd rfl) rfl rfl ?_
                                  refine g_cmp_ne 38 42 (gd rfl) rfl rfl (fun c118x35 => ?_) (fun c118x35 => ?_)
                                  · skip
                                    refine g_iconst 0 43 (gd rfl) rfl rfl ?_
                                    refine g_ireturn (gd rfl) rfl rfl (hp118 _ _ ?_)
                                    show GG _ _ _ _ _ _ _ _ [.int (Int32.ofInt 0)] _ _ _
                                    refine g_iconst 1 122 (gd rfl) rfl rfl ?_
                                    refine g_cmp_ne 125 134 (gd rfl) rfl rfl (fun c122 => ?_) (fun c122 => ?_)
                                    · skip
                                      refine g_aload_n 135 (gd rfl) rfl rfl ?_
                                      refine g_aload_n 136 (gd rfl) rfl rfl ?_
                                      refine g_getI 139 (gd rfl) rfl rfl rfl (fun z136 e136 => ?_)
                                      have q136 : u_109_30 = z136 := (fr_F (e_109_30) hF111 rfl).trans e136.symm
                                      subst q136
                                      have n139 : (z111b).toInt ≤ 199 := by have a0 := oa9 i76x35 ro_109_29 i12 ((inv_F hI 0 200 rfl e_109_111)) ((inv_F hI 0 400 rfl e_109_109)) h1 ((in_c 1 rfl)) i115x4 i111a; omega
                                      refine g_callv (X := _) (As := [.int u_109_30]) (r := []) (b := A 109) (q := 109) 142 (gd rfl) rfl rfl rfl rfl rfl (ww_o rfl) (Nat.le_of_ble_eq_true rfl) (Nat.zero_le _) (Nat.zero_le _) (k_396 (by first | exact dq1 hd rfl | exact dq0 hd rfl | exact dq2 hd rfl | exact dq3 hd rfl | omega) hI111 e111a n139) (fun e u h => h) (fun v u h => ?_)
                                      obtain ⟨s139, hI139, hF139, n139a, rfl, rfl, p139⟩ := h
                                      obtain ⟨z139a, e139⟩ : ∃ w, w = s139.2.2.1 109 111 := ⟨_, rfl⟩
                                      have i139a := inv_F hI139 0 200 rfl e139
                                      rw [← (show z111b = s111.2.2.1 109 111 from e111a)] at n139a
                                      rw [← (show z139a = s139.2.2.1 109 111 from e139)] at n139a
                                      show GG _ _ _ _ _ _ _ _ [] _ _ _
                                      refine g_iconst 0 143 (gd rfl) rfl rfl ?_
                                      have n143 : ((Int32.ofInt 0)).toInt = 0 → PR s s139 1 0 := by intro hR; first | (exfalso; revert hR; decide) | exact pr_tr p91 (pr_hold (hF99.1 187 rfl) (hF99.1 188 rfl) (hF99.2.2.1 109 109 rfl) (hF99.2.2.1 109 23 rfl) p99 (by rw [← e99, ← e91a]; exact n99a) (inv_F hI91 0 200 rfl rfl).1 (Or.inr ⟨by first | (have hi := i76x3; unfold In at hi; omega) | (have hi := i76x13; unfold In at hi; omega) | (have hi := i76x19; unfold In at hi; omega) | (have hi := i76x29; unfold In at hi; omega) | (have hi := i76x35; unfold In at hi; omega), rfl⟩)) | exact pr_tr p111 (pr_hold (hF139.1 187 rfl) (hF139.1 188 rfl) (hF139.2.2.1 109 109 rfl) (hF139.2.2.1 109 23 rfl) p139 (by rw [← e139, ← e111a]; exact n139a) (inv_F hI111 0 200 rfl rfl).1 (Or.inr ⟨by first | (have hi := i76x3; unfold In at hi; omega) | (have hi := i76x13; unfold In at hi; omega) | (have hi := i76x19; unfold In at hi; omega) | (have hi := i76x29; unfold In at hi; omega) | (have hi := i76x35; unfold In at hi; omega), rfl⟩)) | exact pr_tr p111 (pr_tr (b := 1) (pr_flt (hF131.1 187 rfl) (hF131.1 188 rfl) (hF131.2.2.1 109 109 rfl) (by rw [← e131]; omega)) (pr_hold (hF139.1 187 rfl) (hF139.1 188 rfl) (hF139.2.2.1 109 109 rfl) (hF139.2.2.1 109 23 rfl) p139 (by rw [← e139, ← (show z111b = s131.2.2.1 109 111 from fr_F e111a hF131 rfl)]; exact n139a) (inv_F hI131 0 200 rfl rfl).1 (Or.inr ⟨by first | (have hi := i76x3; unfold In at hi; omega) | (have hi := i76x13; unfold In at hi; omega) | (have hi := i76x19; unfold In at hi; omega) | (have hi := i76x29; unfold In at hi; omega) | (have hi := i76x35; unfold In at hi; omega), rfl⟩)))
                                      have n143a : ((Int32.ofInt 0)).toInt ≠ 0 → PR s s139 1 1 := by exact fun h => absurd rfl h
                                      have n143b : (s.2.2.1 109 28).toInt = 0 → ((Int32.ofInt 0)).toInt = 2 := by rw [← e_109_28]; intro h0; first | rfl | (exfalso; have a0 := oa9 i76x35 ro_109_29 i12 ((inv_F hI 0 200 rfl e_109_111)) ((inv_F hI 0 400 rfl e_109_109)) h1 ((in_c 1 rfl)) i139a i111a; omega)
                                      have n143c : (z111a).toInt + (z139a).toInt ≤ (u_109_109).toInt + (u_109_111).toInt + 1 := by have a0 := oa9 i76x35 ro_109_29 i12 ((inv_F hI 0 200 rfl e_109_111)) ((inv_F hI 0 400 rfl e_109_109)) h1 ((in_c 1 rfl)) i139a i111a; omega
                                      have n143d : (s139.2.2.1 109 109).toInt + (s139.2.2.1 109 111).toInt ≤ (s.2.2.1 109 109).toInt + (s.2.2.1 109 111).toInt + 1 := by have b0 : z111a = s139.2.2.1 109 109 := fr_F (e111) hF139 rfl; have b1 : z139a = s139.2.2.1 109 111 := e139; first | (rw [← b0, ← b1, ← e_109_109, ← e_109_111]; exact n143c) | (rw [← b0, ← b1]; exact n143c)
                                      have n143e : (u_109_28).toInt = 0 → (z111a).toInt + (z139a).toInt = (u_109_109).toInt + (u_109_111).toInt := by have a0 := oa9 i76x35 ro_109_29 i12 ((inv_F hI 0 200 rfl e_109_111)) ((inv_F hI 0 400 rfl e_109_109)) h1 ((in_c 1 rfl)) i139a i111a; omega
                                      have n143f : (s.2.2.1 109 28).toInt = 0 → (s139.2.2.1 109 109).toInt + (s139.2.2.1 109 111).toInt = (s.2.2.1 109 109).toInt + (s.2.2.1 109 111).toInt := by have b0 : z111a = s139.2.2.1 109 109 := fr_F (e111) hF139 rfl; have b1 : z139a = s139.2.2.1 109 111 := e139; first | (rw [← b0, ← b1, ← e_109_28, ← e_109_109, ← e_109_111]; exact n143e) | (rw [← b0, ← b1]; exact n143e)
                                      exact g_ireturn (gd rfl) rfl rfl (hP _ _ ⟨s139, hI139, (fr_tr rfl (fr_tr rfl fr_rf hF111) hF139), n143d, n143f, (Int32.ofInt 0), rfl, rfl, in_w 0 2 (in_c 0 rfl) rfl, n143, n143a, n143b⟩)
                                    · skip
                                      exact n_eq c122 (in_c 0 rfl) (in_c 1 rfl) rfl
                                  · skip
                                    exact n_eq c118x35 (in_c 0 rfl) (in_c 61 rfl) rfl
                              · skip
                                exact n_eq c118x19 (in_c 0 rfl) (in_c 45 rfl) rfl
                          · skip
                            exact n_eq c118x3 (in_c 0 rfl) (in_c 42 rfl) rfl
                    · skip
                      exact n_lt c86 (in_c 1 rfl) (in_c 1 rfl) rfl
              · skip
                have i76x19 := r_eq1 45 45 c76x19 (i_rng u_109_30) (in_c 45 rfl) rfl
                refine g_iconst 2 23 (gd rfl) rfl rfl ?_
                refine g_goto 43 (gd rfl) rfl ?_
                refine g_ireturn (gd rfl) rfl rfl (hp76 _ _ ?_)
                show GG _ _ _ _ _ _ _ _ [.int (Int32.ofInt 2)] _ _ _
                refine g_goto 83 (gd rfl) rfl ?_
                refine g_istore_n 84 (gd rfl) rfl (Nat.le_of_ble_eq_true rfl) ?_
                refine g_iload_n 85 (gd rfl) rfl rfl ?_
                refine g_iconst 1 86 (gd rfl) rfl rfl ?_
                refine g_cmp_le 89 104 (gd rfl) rfl rfl (fun c86 => ?_) (fun c86 => ?_)
                · skip
                  exact n_le c86 (in_c 2 rfl) (in_c 1 rfl) rfl
                · skip
                  refine g_aload_n 90 (gd rfl) rfl rfl ?_
                  refine g_iload_n 91 (gd rfl) rfl rfl ?_
                  have n91 : (u_109_109).toInt + (u_109_111).toInt ≤ 120 := by have a0 := oa7 i76x19 ro_109_29 i12 ((inv_F hI 0 200 rfl e_109_111)) ((inv_F hI 0 400 rfl e_109_109)) h1 ((in_c 2 rfl)); omega
                  refine g_callv (X := _) (As := [.int (Int32.ofInt 2)]) (r := []) (b := A 109) (q := 109) 94 (gd rfl) rfl rfl rfl rfl rfl (ww_o rfl) (Nat.le_of_ble_eq_true rfl) (Nat.zero_le _) (Nat.zero_le _) (k_399 (by first | exact dq1 hd rfl | exact dq0 hd rfl | exact dq2 hd rfl | exact dq3 hd rfl | omega) hI (in_w 1 3 (in_c 2 rfl) rfl) e_109_109 e_109_111 n91) (fun e u h => h) (fun v u h => ?_)
                  obtain ⟨s91, hI91, hF91, n91a, rfl, rfl, p91⟩ := h
                  obtain ⟨z91a, e91⟩ : ∃ w, w = s91.2.2.1 109 109 := ⟨_, rfl⟩
                  have i91a := inv_F hI91 0 400 rfl e91
                  obtain ⟨z91b, e91a⟩ : ∃ w, w = s91.2.2.1 109 111 := ⟨_, rfl⟩
                  have i91b := inv_F hI91 0 200 rfl e91a
                  rw [← (show u_109_109 = s.2.2.1 109 109 from e_109_109)] at n91a
                  rw [← (show u_109_111 = s.2.2.1 109 111 from e_109_111)] at n91a
                  rw [← (show z91a = s91.2.2.1 109 109 from e91)] at n91a
                  rw [← (show z91b = s91.2.2.1 109 111 from e91a)] at n91a
                  show GG _ _ _ _ _ _ _ _ [] _ _ _
                  refine g_aload_n 95 (gd rfl) rfl rfl ?_
                  refine g_aload_n 96 (gd rfl) rfl rfl ?_
                  refine g_getI 99 (gd rfl) rfl rfl rfl (fun z96 e96 => ?_)
                  have q96 : u_109_30 = z96 := (fr_F (e_109_30) hF91 rfl).trans e96.symm
                  subst q96
                  have n99 : (z91b).toInt ≤ 199 := by have a0 := oa9 i76x19 ro_109_29 i12 ((inv_F hI 0 200 rfl e_109_111)) ((inv_F hI 0 400 rfl e_109_109)) h1 ((in_c 2 rfl)) i91b i91a; omega
                  refine g_callv (X := _) (As := [.int u_109_30]) (r := []) (b := A 109) (q := 109) 102 (gd rfl) rfl rfl rfl rfl rfl (ww_o rfl) (Nat.le_of_ble_eq_true rfl) (Nat.zero_le _) (Nat.zero_le _) (k_396 (by first | exact dq1 hd rfl | exact dq0 hd rfl | exact dq2 hd rfl | exact dq3 hd rfl | omega) hI91 e91a n99) (fun e u h => h) (fun v u h => ?_)
                  obtain ⟨s99, hI99, hF99, n99a, rfl, rfl, p99⟩ := h
                  obtain ⟨z99a, e99⟩ : ∃ w, w = s99.2.2.1 109 111 := ⟨_, rfl⟩
                  have i99a := inv_F hI99 0 200 rfl e99
                  rw [← (show z91b = s91.2.2.1 109 111 from e91a)] at n99a
                  rw [← (show z99a = s99.2.2.1 109 111 from e99)] at n99a
                  show GG _ _ _ _ _ _ _ _ [] _ _ _
                  refine g_iconst 0 103 (gd rfl) rfl rfl ?_
                  have n103 : ((Int32.ofInt 0)).toInt = 0 → PR s s99 1 0 := by intro hR; first | (exfalso; revert hR; decide) | exact pr_tr p91 (pr_hold (hF99.1 187 rfl) (hF99.1 188 rfl) (hF99.2.2.1 109 109 rfl) (hF99.2.2.1 109 23 rfl) p99 (by rw [← e99, ← e91a]; exact n99a) (inv_F hI91 0 200 rfl rfl).1 (Or.inr ⟨by first | (have hi := i76x3; unfold In at hi; omega) | (have hi := i76x13; unfold In at hi; omega) | (have hi := i76x19; unfold In at hi; omega) | (have hi := i76x29; unfold In at hi; omega) | (have hi := i76x35; unfold In at hi; omega), rfl⟩)) | exact pr_tr p111 (pr_hold (hF139.1 187 rfl) (hF139.1 188 rfl) (hF139.2.2.1 109 109 rfl) (hF139.2.2.1 109 23 rfl) p139 (by rw [← e139, ← e111a]; exact n139a) (inv_F hI111 0 200 rfl rfl).1 (Or.inr ⟨by first | (have hi := i76x3; unfold In at hi; omega) | (have hi := i76x13; unfold In at hi; omega) | (have hi := i76x19; unfold In at hi; omega) | (have hi := i76x29; unfold In at hi; omega) | (have hi := i76x35; unfold In at hi; omega), rfl⟩)) | exact pr_tr p111 (pr_tr (b := 1) (pr_flt (hF131.1 187 rfl) (hF131.1 188 rfl) (hF131.2.2.1 109 109 rfl) (by rw [← e131]; omega)) (pr_hold (hF139.1 187 rfl) (hF139.1 188 rfl) (hF139.2.2.1 109 109 rfl) (hF139.2.2.1 109 23 rfl) p139 (by rw [← e139, ← (show z111b = s131.2.2.1 109 111 from fr_F e111a hF131 rfl)]; exact n139a) (inv_F hI131 0 200 rfl rfl).1 (Or.inr ⟨by first | (have hi := i76x3; unfold In at hi; omega) | (have hi := i76x13; unfold In at hi; omega) | (have hi := i76x19; unfold In at hi; omega) | (have hi := i76x29; unfold In at hi; omega) | (have hi := i76x35; unfold In at hi; omega), rfl⟩)))
                  have n103a : ((Int32.ofInt 0)).toInt ≠ 0 → PR s s99 1 1 := by exact fun h => absurd rfl h
                  have n103b : (s.2.2.1 109 28).toInt = 0 → ((Int32.ofInt 0)).toInt = 2 := by rw [← e_109_28]; intro h0; first | rfl | (exfalso; have a0 := oa9 i76x19 ro_109_29 i12 ((inv_F hI 0 200 rfl e_109_111)) ((inv_F hI 0 400 rfl e_109_109)) h1 ((in_c 2 rfl)) i99a i91a; omega)
                  have n103c : (z91a).toInt + (z99a).toInt ≤ (u_109_109).toInt + (u_109_111).toInt + 1 := by have a0 := oa9 i76x19 ro_109_29 i12 ((inv_F hI 0 200 rfl e_109_111)) ((inv_F hI 0 400 rfl e_109_109)) h1 ((in_c 2 rfl)) i99a i91a; omega
                  have n103d : (s99.2.2.1 109 109).toInt + (s99.2.2.1 109 111).toInt ≤ (s.2.2.1 109 109).toInt + (s.2.2.1 109 111).toInt + 1 := by have b0 : z91a = s99.2.2.1 109 109 := fr_F (e91) hF99 rfl; have b1 : z99a = s99.2.2.1 109 111 := e99; first | (rw [← b0, ← b1, ← e_109_109, ← e_109_111]; exact n103c) | (rw [← b0, ← b1]; exact n103c)
                  have n103e : (u_109_28).toInt = 0 → (z91a).toInt + (z99a).toInt = (u_109_109).toInt + (u_109_111).toInt := by have a0 := oa9 i76x19 ro_109_29 i12 ((inv_F hI 0 200 rfl e_109_111)) ((inv_F hI 0 400 rfl e_109_109)) h1 ((in_c 2 rfl)) i99a i91a; omega
                  have n103f : (s.2.2.1 109 28).toInt = 0 → (s99.2.2.1 109 109).toInt + (s99.2.2.1 109 111).toInt = (s.2.2.1 109 109).toInt + (s.2.2.1 109 111).toInt := by have b0 : z91a = s99.2.2.1 109 109 := fr_F (e91) hF99 rfl; have b1 : z99a = s99.2.2.1 109 111 := e99; first | (rw [← b0, ← b1, ← e_109_28, ← e_109_109, ← e_109_111]; exact n103e) | (rw [← b0, ← b1]; exact n103e)
                  exact g_ireturn (gd rfl) rfl rfl (hP _ _ ⟨s99, hI99, (fr_tr rfl (fr_tr rfl fr_rf hF91) hF99), n103d, n103f, (Int32.ofInt 0), rfl, rfl, in_w 0 2 (in_c 0 rfl) rfl, n103, n103a, n103b⟩)
          · skip
            have i76x3 := r_eq1 42 42 c76x3 (i_rng u_109_30) (in_c 42 rfl) rfl
            refine g_iconst 3 7 (gd rfl) rfl rfl ?_
            refine g_goto 43 (gd rfl) rfl ?_
            refine g_ireturn (gd rfl) rfl rfl (hp76 _ _ ?_)
            show GG _ _ _ _ _ _ _ _ [.int (Int32.ofInt 3)] _ _ _
            refine g_goto 83 (gd rfl) rfl ?_
            refine g_istore_n 84 (gd rfl) rfl (Nat.le_of_ble_eq_true rfl) ?_
            refine g_iload_n 85 (gd rfl) rfl rfl ?_
            refine g_iconst 1 86 (gd rfl) rfl rfl ?_
            refine g_cmp_le 89 104 (gd rfl) rfl rfl (fun c86 => ?_) (fun c86 => ?_)
            · skip
              exact n_le c86 (in_c 3 rfl) (in_c 1 rfl) rfl
            · skip
              refine g_aload_n 90 (gd rfl) rfl rfl ?_
              refine g_iload_n 91 (gd rfl) rfl rfl ?_
              have n91 : (u_109_109).toInt + (u_109_111).toInt ≤ 120 := by have a0 := oa7 i76x3 ro_109_29 i12 ((inv_F hI 0 200 rfl e_109_111)) ((inv_F hI 0 400 rfl e_109_109)) h1 ((in_c 3 rfl)); omega
              refine g_callv (X := _) (As := [.int (Int32.ofInt 3)]) (r := []) (b := A 109) (q := 109) 94 (gd rfl) rfl rfl rfl rfl rfl (ww_o rfl) (Nat.le_of_ble_eq_true rfl) (Nat.zero_le _) (Nat.zero_le _) (k_399 (by first | exact dq1 hd rfl | exact dq0 hd rfl | exact dq2 hd rfl | exact dq3 hd rfl | omega) hI (in_w 1 3 (in_c 3 rfl) rfl) e_109_109 e_109_111 n91) (fun e u h => h) (fun v u h => ?_)
              obtain ⟨s91, hI91, hF91, n91a, rfl, rfl, p91⟩ := h
              obtain ⟨z91a, e91⟩ : ∃ w, w = s91.2.2.1 109 109 := ⟨_, rfl⟩
              have i91a := inv_F hI91 0 400 rfl e91
              obtain ⟨z91b, e91a⟩ : ∃ w, w = s91.2.2.1 109 111 := ⟨_, rfl⟩
              have i91b := inv_F hI91 0 200 rfl e91a
              rw [← (show u_109_109 = s.2.2.1 109 109 from e_109_109)] at n91a
              rw [← (show u_109_111 = s.2.2.1 109 111 from e_109_111)] at n91a
              rw [← (show z91a = s91.2.2.1 109 109 from e91)] at n91a
              rw [← (show z91b = s91.2.2.1 109 111 from e91a)] at n91a
              show GG _ _ _ _ _ _ _ _ [] _ _ _
              refine g_aload_n 95 (gd rfl) rfl rfl ?_
              refine g_aload_n 96 (gd rfl) rfl rfl ?_
              refine g_getI 99 (gd rfl) rfl rfl rfl (fun z96 e96 => ?_)
              have q96 : u_109_30 = z96 := (fr_F (e_109_30) hF91 rfl).trans e96.symm
              subst q96
              have n99 : (z91b).toInt ≤ 199 := by have a0 := oa9 i76x3 ro_109_29 i12 ((inv_F hI 0 200 rfl e_109_111)) ((inv_F hI 0 400 rfl e_109_109)) h1 ((in_c 3 rfl)) i91b i91a; omega
              refine g_callv (X := _) (As := [.int u_109_30]) (r := []) (b := A 109) (q := 109) 102 (gd rfl) rfl rfl rfl rfl rfl (ww_o rfl) (Nat.le_of_ble_eq_true rfl) (Nat.zero_le _) (Nat.zero_le _) (k_396 (by first | exact dq1 hd rfl | exact dq0 hd rfl | exact dq2 hd rfl | exact dq3 hd rfl | omega) hI91 e91a n99) (fun e u h => h) (fun v u h => ?_)
              obtain ⟨s99, hI99, hF99, n99a, rfl, rfl, p99⟩ := h
              obtain ⟨z99a, e99⟩ : ∃ w, w = s99.2.2.1 109 111 := ⟨_, rfl⟩
              have i99a := inv_F hI99 0 200 rfl e99
              rw [← (show z91b = s91.2.2.1 109 111 from e91a)] at n99a
              rw [← (show z99a = s99.2.2.1 109 111 from e99)] at n99a
              show GG _ _ _ _ _ _ _ _ [] _ _ _
              refine g_iconst 0 103 (gd rfl) rfl rfl ?_
              have n103 : ((Int32.ofInt 0)).toInt = 0 → PR s s99 1 0 := by intro hR; first | (exfalso; revert hR; decide) | exact pr_tr p91 (pr_hold (hF99.1 187 rfl) (hF99.1 188 rfl) (hF99.2.2.1 109 109 rfl) (hF99.2.2.1 109 23 rfl) p99 (by rw [← e99, ← e91a]; exact n99a) (inv_F hI91 0 200 rfl rfl).1 (Or.inr ⟨by first | (have hi := i76x3; unfold In at hi; omega) | (have hi := i76x13; unfold In at hi; omega) | (have hi := i76x19; unfold In at hi; omega) | (have hi := i76x29; unfold In at hi; omega) | (have hi := i76x35; unfold In at hi; omega), rfl⟩)) | exact pr_tr p111 (pr_hold (hF139.1 187 rfl) (hF139.1 188 rfl) (hF139.2.2.1 109 109 rfl) (hF139.2.2.1 109 23 rfl) p139 (by rw [← e139, ← e111a]; exact n139a) (inv_F hI111 0 200 rfl rfl).1 (Or.inr ⟨by first | (have hi := i76x3; unfold In at hi; omega) | (have hi := i76x13; unfold In at hi; omega) | (have hi := i76x19; unfold In at hi; omega) | (have hi := i76x29; unfold In at hi; omega) | (have hi := i76x35; unfold In at hi; omega), rfl⟩)) | exact pr_tr p111 (pr_tr (b := 1) (pr_flt (hF131.1 187 rfl) (hF131.1 188 rfl) (hF131.2.2.1 109 109 rfl) (by rw [← e131]; omega)) (pr_hold (hF139.1 187 rfl) (hF139.1 188 rfl) (hF139.2.2.1 109 109 rfl) (hF139.2.2.1 109 23 rfl) p139 (by rw [← e139, ← (show z111b = s131.2.2.1 109 111 from fr_F e111a hF131 rfl)]; exact n139a) (inv_F hI131 0 200 rfl rfl).1 (Or.inr ⟨by first | (have hi := i76x3; unfold In at hi; omega) | (have hi := i76x13; unfold In at hi; omega) | (have hi := i76x19; unfold In at hi; omega) | (have hi := i76x29; unfold In at hi; omega) | (have hi := i76x35; unfold In at hi; omega), rfl⟩)))
              have n103a : ((Int32.ofInt 0)).toInt ≠ 0 → PR s s99 1 1 := by exact fun h => absurd rfl h
              have n103b : (s.2.2.1 109 28).toInt = 0 → ((Int32.ofInt 0)).toInt = 2 := by rw [← e_109_28]; intro h0; first | rfl | (exfalso; have a0 := oa9 i76x3 ro_109_29 i12 ((inv_F hI 0 200 rfl e_109_111)) ((inv_F hI 0 400 rfl e_109_109)) h1 ((in_c 3 rfl)) i99a i91a; omega)
              have n103c : (z91a).toInt + (z99a).toInt ≤ (u_109_109).toInt + (u_109_111).toInt + 1 := by have a0 := oa9 i76x3 ro_109_29 i12 ((inv_F hI 0 200 rfl e_109_111)) ((inv_F hI 0 400 rfl e_109_109)) h1 ((in_c 3 rfl)) i99a i91a; omega
              have n103d : (s99.2.2.1 109 109).toInt + (s99.2.2.1 109 111).toInt ≤ (s.2.2.1 109 109).toInt + (s.2.2.1 109 111).toInt + 1 := by have b0 : z91a = s99.2.2.1 109 109 := fr_F (e91) hF99 rfl; have b1 : z99a = s99.2.2.1 109 111 := e99; first | (rw [← b0, ← b1, ← e_109_109, ← e_109_111]; exact n103c) | (rw [← b0, ← b1]; exact n103c)
              have n103e : (u_109_28).toInt = 0 → (z91a).toInt + (z99a).toInt = (u_109_109).toInt + (u_109_111).toInt := by have a0 := oa9 i76x3 ro_109_29 i12 ((inv_F hI 0 200 rfl e_109_111)) ((inv_F hI 0 400 rfl e_109_109)) h1 ((in_c 3 rfl)) i99a i91a; omega
              have n103f : (s.2.2.1 109 28).toInt = 0 → (s99.2.2.1 109 109).toInt + (s99.2.2.1 109 111).toInt = (s.2.2.1 109 109).toInt + (s.2.2.1 109 111).toInt := by have b0 : z91a = s99.2.2.1 109 109 := fr_F (e91) hF99 rfl; have b1 : z99a = s99.2.2.1 109 111 := e99; first | (rw [← b0, ← b1, ← e_109_28, ← e_109_109, ← e_109_111]; exact n103e) | (rw [← b0, ← b1]; exact n103e)
              exact g_ireturn (gd rfl) rfl rfl (hP _ _ ⟨s99, hI99, (fr_tr rfl (fr_tr rfl fr_rf hF91) hF99), n103d, n103f, (Int32.ofInt 0), rfl, rfl, in_w 0 2 (in_c 0 rfl) rfl, n103, n103a, n103b⟩)
      · skip
        have i21 := r_eq1 59 59 c21 (i_rng u_109_30) (in_c 59 rfl) rfl
        refine g_aload_n 25 (gd rfl) rfl rfl ?_
        refine g_iconst 1 26 (gd rfl) rfl rfl ?_
        have n26 : (u_109_109).toInt + (u_109_111).toInt ≤ 120 := by have a0 := oa6 i21 ro_109_29 i12 ((inv_F hI 0 200 rfl e_109_111)) ((inv_F hI 0 400 rfl e_109_109)) h1; omega
        refine g_callv (X := _) (As := [.int (Int32.ofInt 1)]) (r := []) (b := A 109) (q := 109) 29 (gd rfl) rfl rfl rfl rfl rfl (ww_o rfl) (Nat.le_of_ble_eq_true rfl) (Nat.zero_le _) (Nat.zero_le _) (k_399 (by first | exact dq1 hd rfl | exact dq0 hd rfl | exact dq2 hd rfl | exact dq3 hd rfl | omega) hI (in_w 1 3 (in_c 1 rfl) rfl) e_109_109 e_109_111 n26) (fun e u h => h) (fun v u h => ?_)
        obtain ⟨s26, hI26, hF26, n26a, rfl, rfl, p26⟩ := h
        obtain ⟨z26a, e26⟩ : ∃ w, w = s26.2.2.1 109 109 := ⟨_, rfl⟩
        have i26a := inv_F hI26 0 400 rfl e26
        obtain ⟨z26b, e26a⟩ : ∃ w, w = s26.2.2.1 109 111 := ⟨_, rfl⟩
        have i26b := inv_F hI26 0 200 rfl e26a
        rw [← (show u_109_109 = s.2.2.1 109 109 from e_109_109)] at n26a
        rw [← (show u_109_111 = s.2.2.1 109 111 from e_109_111)] at n26a
        rw [← (show z26a = s26.2.2.1 109 109 from e26)] at n26a
        rw [← (show z26b = s26.2.2.1 109 111 from e26a)] at n26a
        show GG _ _ _ _ _ _ _ _ [] _ _ _
        refine g_aload_n 30 (gd rfl) rfl rfl ?_
        refine g_getI 33 (gd rfl) rfl rfl rfl (fun z30 e30 => ?_)
        have q30 : z26b = z30 := (e26a).trans e30.symm
        subst q30
        refine g_if_gt 36 53 (gd rfl) rfl rfl (fun c33 => ?_) (fun c33 => ?_)
        · skip
          have i33 := z_gt 1 200 c33 i26b rfl
          refine g_aload_n 54 (gd rfl) rfl rfl ?_
          refine g_iconst 2 55 (gd rfl) rfl rfl ?_
          refine g_aload_n 56 (gd rfl) rfl rfl ?_
          refine g_getI 59 (gd rfl) rfl rfl rfl (fun z56 e56 => ?_)
          have q56 : u_109_29 = z56 := (fr_F (e_109_29) hF26 rfl).trans e56.symm
          subst q56
          refine g_callv (X := _) (As := [.int (Int32.ofInt 2), .int u_109_29]) (r := []) (b := A 109) (q := 109) 62 (gd rfl) rfl rfl rfl rfl rfl (ww_o rfl) (Nat.le_of_ble_eq_true rfl) (Nat.zero_le _) (Nat.zero_le _) (k_298 (by first | exact dq1 hd rfl | exact dq0 hd rfl | exact dq2 hd rfl | exact dq3 hd rfl | omega) hI26 (in_w 1 5 (in_c 2 rfl) rfl)) (fun e u h => h) (fun v u h => ?_)
          obtain ⟨s59, hI59, hF59, n59, rfl, rfl⟩ := h
          obtain ⟨z59a, e59⟩ : ∃ w, w = s59.2.2.1 109 23 := ⟨_, rfl⟩
          have i59a := inv_F hI59 0 9 rfl e59
          rw [← (show z59a = s59.2.2.1 109 23 from e59)] at n59
          show GG _ _ _ _ _ _ _ _ [] _ _ _
          refine g_iconst 2 63 (gd rfl) rfl rfl ?_
          have n63 : ((Int32.ofInt 2)).toInt = 0 → PR s s59 1 0 := by exact fun h => absurd h (by decide)
          have n63a : ((Int32.ofInt 2)).toInt ≠ 0 → PR s s59 1 1 := by intro hR; first | (exact absurd rfl hR) | exact p26 | exact pr_tr p26 (pr_flt (hF59.1 187 rfl) (hF59.1 188 rfl) (hF59.2.2.1 109 109 rfl) (by rw [← e59]; omega)) | exact pr_tr p163 (pr_flt (hF181.1 187 rfl) (hF181.1 188 rfl) (hF181.2.2.1 109 109 rfl) (by rw [← e181]; omega)) | exact pr_flt (hF202.1 187 rfl) (hF202.1 188 rfl) (hF202.2.2.1 109 109 rfl) (by rw [← e202]; omega) | exact pr_tr p163 (pr_tr (pr_drop (x := z167x21) (b := z167x20) (hF187.1 187 rfl) (hF187.1 188 rfl) (hF187.2.2.1 109 109 rfl) (hF187.2.2.1 109 23 rfl) (hF187.1 190 rfl) (by rw [← e187]; have a0 := oa9 i21 ro_109_29 i12 ((inv_F hI 0 200 rfl e_109_111)) ((inv_F hI 0 400 rfl e_109_109)) h1 i59a i33 i26a; omega) (by rw [← e163a]; have a0 := oa9 i21 ro_109_29 i12 ((inv_F hI 0 200 rfl e_109_111)) ((inv_F hI 0 400 rfl e_109_109)) h1 i59a i33 i26a; omega) i167x20.1 e167x21 (Or.inr (c172.trans rfl))) p191)
          have n63b : (s.2.2.1 109 28).toInt = 0 → ((Int32.ofInt 2)).toInt = 2 := by rw [← e_109_28]; intro h0; first | rfl | (exfalso; have a0 := oa9 i21 ro_109_29 i12 ((inv_F hI 0 200 rfl e_109_111)) ((inv_F hI 0 400 rfl e_109_109)) h1 i59a i33 i26a; omega)
          have n63c : (z26a).toInt + (z26b).toInt ≤ (u_109_109).toInt + (u_109_111).toInt + 1 := by have a0 := oa9 i21 ro_109_29 i12 ((inv_F hI 0 200 rfl e_109_111)) ((inv_F hI 0 400 rfl e_109_109)) h1 i59a i33 i26a; omega
          have n63d : (s59.2.2.1 109 109).toInt + (s59.2.2.1 109 111).toInt ≤ (s.2.2.1 109 109).toInt + (s.2.2.1 109 111).toInt + 1 := by have b0 : z26a = s59.2.2.1 109 109 := fr_F (e26) hF59 rfl; have b1 : z26b = s59.2.2.1 109 111 := fr_F (e26a) hF59 rfl; first | (rw [← b0, ← b1, ← e_109_109, ← e_109_111]; exact n63c) | (rw [← b0, ← b1]; exact n63c)
          have n63e : (u_109_28).toInt = 0 → (z26a).toInt + (z26b).toInt = (u_109_109).toInt + (u_109_111).toInt := by have a0 := oa9 i21 ro_109_29 i12 ((inv_F hI 0 200 rfl e_109_111)) ((inv_F hI 0 400 rfl e_109_109)) h1 i59a i33 i26a; omega
          have n63f : (s.2.2.1 109 28).toInt = 0 → (s59.2.2.1 109 109).toInt + (s59.2.2.1 109 111).toInt = (s.2.2.1 109 109).toInt + (s.2.2.1 109 111).toInt := by have b0 : z26a = s59.2.2.1 109 109 := fr_F (e26) hF59 rfl; have b1 : z26b = s59.2.2.1 109 111 := fr_F (e26a) hF59 rfl; first | (rw [← b0, ← b1, ← e_109_28, ← e_109_109, ← e_109_111]; exact n63e) | (rw [← b0, ← b1]; exact n63e)
          exact g_ireturn (gd rfl) rfl rfl (hP _ _ ⟨s59, hI59, (fr_tr rfl (fr_tr rfl fr_rf hF26) hF59), n63d, n63f, (Int32.ofInt 2), rfl, rfl, in_w 0 2 (in_c 2 rfl) rfl, n63, n63a, n63b⟩)
        · skip
          have i33 := z_le 0 0 c33 i26b rfl
          refine g_iload_n 37 (gd rfl) rfl rfl ?_
          refine g_aload_n 38 (gd rfl) rfl rfl ?_
          refine g_getI 41 (gd rfl) rfl rfl rfl (fun z38 e38 => ?_)
          have q38 : u_109_28 = z38 := (fr_F (e_109_28) hF26 rfl).trans e38.symm
          subst q38
          refine g_iconst 3 42 (gd rfl) rfl rfl ?_
          refine g_cmp_ne 45 49 (gd rfl) rfl rfl (fun c42 => ?_) (fun c42 => ?_)
          · skip
            exact n_ne c42 i12 (in_c 3 rfl) rfl
          · skip
            refine g_iconst 1 46 (gd rfl) rfl rfl ?_
            refine g_goto 50 (gd rfl) rfl ?_
            refine g_cmp_eq 53 62 (gd rfl) rfl rfl (fun c50 => ?_) (fun c50 => ?_)
            · skip
              have i50 := r_eq1 1 1 c50 h1 (in_c 1 rfl) rfl
              refine g_iconst 2 63 (gd rfl) rfl rfl ?_
              have n63 : ((Int32.ofInt 2)).toInt = 0 → PR s s26 1 0 := by exact fun h => absurd h (by decide)
              have n63a : ((Int32.ofInt 2)).toInt ≠ 0 → PR s s26 1 1 := by intro hR; first | (exact absurd rfl hR) | exact p26 | exact pr_tr p26 (pr_flt (hF59.1 187 rfl) (hF59.1 188 rfl) (hF59.2.2.1 109 109 rfl) (by rw [← e59]; omega)) | exact pr_tr p163 (pr_flt (hF181.1 187 rfl) (hF181.1 188 rfl) (hF181.2.2.1 109 109 rfl) (by rw [← e181]; omega)) | exact pr_flt (hF202.1 187 rfl) (hF202.1 188 rfl) (hF202.2.2.1 109 109 rfl) (by rw [← e202]; omega) | exact pr_tr p163 (pr_tr (pr_drop (x := z167x21) (b := z167x20) (hF187.1 187 rfl) (hF187.1 188 rfl) (hF187.2.2.1 109 109 rfl) (hF187.2.2.1 109 23 rfl) (hF187.1 190 rfl) (by rw [← e187]; have a0 := oa8 i21 ro_109_29 i12 ((inv_F hI 0 200 rfl e_109_111)) ((inv_F hI 0 400 rfl e_109_109)) i50 i33 i26a; omega) (by rw [← e163a]; have a0 := oa8 i21 ro_109_29 i12 ((inv_F hI 0 200 rfl e_109_111)) ((inv_F hI 0 400 rfl e_109_109)) i50 i33 i26a; omega) i167x20.1 e167x21 (Or.inr (c172.trans rfl))) p191)
              have n63b : (s.2.2.1 109 28).toInt = 0 → ((Int32.ofInt 2)).toInt = 2 := by rw [← e_109_28]; intro h0; first | rfl | (exfalso; have a0 := oa8 i21 ro_109_29 i12 ((inv_F hI 0 200 rfl e_109_111)) ((inv_F hI 0 400 rfl e_109_109)) i50 i33 i26a; omega)
              have n63c : (z26a).toInt + (z26b).toInt ≤ (u_109_109).toInt + (u_109_111).toInt + 1 := by have a0 := oa8 i21 ro_109_29 i12 ((inv_F hI 0 200 rfl e_109_111)) ((inv_F hI 0 400 rfl e_109_109)) i50 i33 i26a; omega
              have n63d : (s26.2.2.1 109 109).toInt + (s26.2.2.1 109 111).toInt ≤ (s.2.2.1 109 109).toInt + (s.2.2.1 109 111).toInt + 1 := by have b0 : z26a = s26.2.2.1 109 109 := e26; have b1 : z26b = s26.2.2.1 109 111 := e26a; first | (rw [← b0, ← b1, ← e_109_109, ← e_109_111]; exact n63c) | (rw [← b0, ← b1]; exact n63c)
              have n63e : (u_109_28).toInt = 0 → (z26a).toInt + (z26b).toInt = (u_109_109).toInt + (u_109_111).toInt := by have a0 := oa8 i21 ro_109_29 i12 ((inv_F hI 0 200 rfl e_109_111)) ((inv_F hI 0 400 rfl e_109_109)) i50 i33 i26a; omega
              have n63f : (s.2.2.1 109 28).toInt = 0 → (s26.2.2.1 109 109).toInt + (s26.2.2.1 109 111).toInt = (s.2.2.1 109 109).toInt + (s.2.2.1 109 111).toInt := by have b0 : z26a = s26.2.2.1 109 109 := e26; have b1 : z26b = s26.2.2.1 109 111 := e26a; first | (rw [← b0, ← b1, ← e_109_28, ← e_109_109, ← e_109_111]; exact n63e) | (rw [← b0, ← b1]; exact n63e)
              exact g_ireturn (gd rfl) rfl rfl (hP _ _ ⟨s26, hI26, (fr_tr rfl fr_rf hF26), n63d, n63f, (Int32.ofInt 2), rfl, rfl, in_w 0 2 (in_c 2 rfl) rfl, n63, n63a, n63b⟩)
            · skip
              have i50 := r_ne1 0 0 c50 h1 (in_c 1 rfl) rfl
              refine g_aload_n 54 (gd rfl) rfl rfl ?_
              refine g_iconst 2 55 (gd rfl) rfl rfl ?_
              refine g_aload_n 56 (gd rfl) rfl rfl ?_
              refine g_getI 59 (gd rfl) rfl rfl rfl (fun z56 e56 => ?_)
              have q56 : u_109_29 = z56 := (fr_F (e_109_29) hF26 rfl).trans e56.symm
              subst q56
              refine g_callv (X := _) (As := [.int (Int32.ofInt 2), .int u_109_29]) (r := []) (b := A 109) (q := 109) 62 (gd rfl) rfl rfl rfl rfl rfl (ww_o rfl) (Nat.le_of_ble_eq_true rfl) (Nat.zero_le _) (Nat.zero_le _) (k_298 (by first | exact dq1 hd rfl | exact dq0 hd rfl | exact dq2 hd rfl | exact dq3 hd rfl | omega) hI26 (in_w 1 5 (in_c 2 rfl) rfl)) (fun e u h => h) (fun v u h => ?_)
              obtain ⟨s59, hI59, hF59, n59, rfl, rfl⟩ := h
              obtain ⟨z59a, e59⟩ : ∃ w, w = s59.2.2.1 109 23 := ⟨_, rfl⟩
              have i59a := inv_F hI59 0 9 rfl e59
              rw [← (show z59a = s59.2.2.1 109 23 from e59)] at n59
              show GG _ _ _ _ _ _ _ _ [] _ _ _
              refine g_iconst 2 63 (gd rfl) rfl rfl ?_
              have n63 : ((Int32.ofInt 2)).toInt = 0 → PR s s59 1 0 := by exact fun h => absurd h (by decide)
              have n63a : ((Int32.ofInt 2)).toInt ≠ 0 → PR s s59 1 1 := by intro hR; first | (exact absurd rfl hR) | exact p26 | exact pr_tr p26 (pr_flt (hF59.1 187 rfl) (hF59.1 188 rfl) (hF59.2.2.1 109 109 rfl) (by rw [← e59]; omega)) | exact pr_tr p163 (pr_flt (hF181.1 187 rfl) (hF181.1 188 rfl) (hF181.2.2.1 109 109 rfl) (by rw [← e181]; omega)) | exact pr_flt (hF202.1 187 rfl) (hF202.1 188 rfl) (hF202.2.2.1 109 109 rfl) (by rw [← e202]; omega) | exact pr_tr p163 (pr_tr (pr_drop (x := z167x21) (b := z167x20) (hF187.1 187 rfl) (hF187.1 188 rfl) (hF187.2.2.1 109 109 rfl) (hF187.2.2.1 109 23 rfl) (hF187.1 190 rfl) (by rw [← e187]; have a0 := oa9 i21 ro_109_29 i12 ((inv_F hI 0 200 rfl e_109_111)) ((inv_F hI 0 400 rfl e_109_109)) i50 i59a i33 i26a; omega) (by rw [← e163a]; have a0 := oa9 i21 ro_109_29 i12 ((inv_F hI 0 200 rfl e_109_111)) ((inv_F hI 0 400 rfl e_109_109)) i50 i59a i33 i26a; omega) i167x20.1 e167x21 (Or.inr (c172.trans rfl))) p191)
              have n63b : (s.2.2.1 109 28).toInt = 0 → ((Int32.ofInt 2)).toInt = 2 := by rw [← e_109_28]; intro h0; first | rfl | (exfalso; have a0 := oa9 i21 ro_109_29 i12 ((inv_F hI 0 200 rfl e_109_111)) ((inv_F hI 0 400 rfl e_109_109)) i50 i59a i33 i26a; omega)
              have n63c : (z26a).toInt + (z26b).toInt ≤ (u_109_109).toInt + (u_109_111).toInt + 1 := by have a0 := oa9 i21 ro_109_29 i12 ((inv_F hI 0 200 rfl e_109_111)) ((inv_F hI 0 400 rfl e_109_109)) i50 i59a i33 i26a; omega
              have n63d : (s59.2.2.1 109 109).toInt + (s59.2.2.1 109 111).toInt ≤ (s.2.2.1 109 109).toInt + (s.2.2.1 109 111).toInt + 1 := by have b0 : z26a = s59.2.2.1 109 109 := fr_F (e26) hF59 rfl; have b1 : z26b = s59.2.2.1 109 111 := fr_F (e26a) hF59 rfl; first | (rw [← b0, ← b1, ← e_109_109, ← e_109_111]; exact n63c) | (rw [← b0, ← b1]; exact n63c)
              have n63e : (u_109_28).toInt = 0 → (z26a).toInt + (z26b).toInt = (u_109_109).toInt + (u_109_111).toInt := by have a0 := oa9 i21 ro_109_29 i12 ((inv_F hI 0 200 rfl e_109_111)) ((inv_F hI 0 400 rfl e_109_109)) i50 i59a i33 i26a; omega
              have n63f : (s.2.2.1 109 28).toInt = 0 → (s59.2.2.1 109 109).toInt + (s59.2.2.1 109 111).toInt = (s.2.2.1 109 109).toInt + (s.2.2.1 109 111).toInt := by have b0 : z26a = s59.2.2.1 109 109 := fr_F (e26) hF59 rfl; have b1 : z26b = s59.2.2.1 109 111 := fr_F (e26a) hF59 rfl; first | (rw [← b0, ← b1, ← e_109_28, ← e_109_109, ← e_109_111]; exact n63e) | (rw [← b0, ← b1]; exact n63e)
              exact g_ireturn (gd rfl) rfl rfl (hP _ _ ⟨s59, hI59, (fr_tr rfl (fr_tr rfl fr_rf hF26) hF59), n63d, n63f, (Int32.ofInt 2), rfl, rfl, in_w 0 2 (in_c 2 rfl) rfl, n63, n63a, n63b⟩)
end
