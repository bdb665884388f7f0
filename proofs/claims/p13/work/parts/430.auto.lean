/-! methods, by vc.py -/
def fm_363 : FM := ([153, 154, 157, 158, 159], [155, 156], [(109, 0)], [])
/-- GraphHouseModel.tree -/
theorem k_363 {Z : AmZ} {A : Nat → Nat} {s : GS} {ex : va_W} {d : Nat} {X : AmX} {x1 : Int32} (hd : 4 ≤ d) (hI : Inv s)  : GC Z d 363 [.ref (A 109), .int x1] (WW Z A s ++ ex) 0 0 (fun v u => ∃ t : GS, Inv t ∧ Fr fm_363 s t ∧ ∃ z : Int64, v = some (.long z) ∧ u = WW Z A t ++ ex) X := by
  intro post xp hP hX
  obtain ⟨u_109_19, e_109_19⟩ : ∃ w, w = s.2.2.1 109 19 := ⟨_, rfl⟩
  have ro_109_19 := inv_F hI 0 160 rfl e_109_19
  obtain ⟨u_109_20, e_109_20⟩ : ∃ w, w = s.2.2.1 109 20 := ⟨_, rfl⟩
  have ro_109_20 := inv_F hI 0 32 rfl e_109_20
  have ct105 : ∀ (k105 : Nat) (sc105 : GS) (y105_2 : Int32) (y105_3 : Int32) (y105_4 : Int32) (y105_5 : Int64), Inv sc105 → Fr fm_363 s sc105 → (In x1 0 31) → (In y105_2 0 160) → (In y105_3 0 32) → (In y105_4 0 31) → ((y105_4).toInt < (y105_3).toInt) → (0 ≤ (y105_4).toInt) → (0 ≤ (y105_2).toInt) → (EE sc105 (y105_2).toInt (y105_3).toInt) → (y105_3).toInt < (k105 : Int) → GG Z (d - 1) 363 post (gx xp) (1 + k105 * 357304) 105 (fun j => xlook j [(0, .ref (A 109)), (1, .int x1), (2, .int y105_2), (3, .int y105_3), (4, .int y105_4), (5, .long y105_5)]) [] (WW Z A sc105 ++ ex) 0 0 := by
    intro k105
    induction k105 with
    | zero => intro sc105 y105_2 y105_3 y105_4 y105_5 hIc105 hFc105 j105_1 j105_2 j105_3 j105_4 n105_0 n105_1 n105_2 g105_0 mm105; exfalso; have a0 := j105_1; unfold In at a0; have a1 := ro_109_20; unfold In at a1; have a2 := ro_109_19; unfold In at a2; have a3 := j105_4; unfold In at a3; have a4 := j105_3; unfold In at a4; have a5 := j105_2; unfold In at a5; omega
    | succ k105 ih105 =>
      intro sc105 y105_2 y105_3 y105_4 y105_5 hIc105 hFc105 j105_1 j105_2 j105_3 j105_4 n105_0 n105_1 n105_2 g105_0 mm105
      refine gg_w (M := 1 + k105 * 357304 + 357304) (by omega) ?_
      have ct348 : ∀ (k348 : Nat) (sc348 : GS) (y348_5 : Int64) (y348_7 : Int32) (y348_8 : Int32), Inv sc348 → Fr fm_363 s sc348 → (In y105_3 2 32) → (In y348_7 0 32) → (In y348_8 0 160) → ((y105_4).toInt < (y105_3).toInt) → (0 ≤ (y105_4).toInt) → (0 ≤ (y105_2).toInt) → ((y348_7).toInt < (y105_3).toInt) → (∀ k : Nat, (k : Int) < (y105_3).toInt → 0 ≤ (sc348.1 158 k).toInt ∧ (sc348.1 158 k).toInt < (y348_7).toInt) → (EE sc348 (y348_8).toInt (y348_7).toInt) → (∀ e : Nat, (y348_8).toInt ≤ (e : Int) → (e : Int) < (y105_2).toInt → (sc348.1 153 e).toInt < (y105_3).toInt ∧ (sc348.1 154 e).toInt < (y105_3).toInt) → 160 - (y348_8).toInt < (k348 : Int) → GG Z (d - 1) 363 post (gx xp) (1 + k105 * 357304 + 1 + k348 * 900) 348 (fun j => xlook j [(0, .ref (A 109)), (1, .int x1), (2, .int y105_2), (3, .int y105_3), (4, .int y105_4), (5, .long y348_5), (7, .int y348_7), (8, .int y348_8)]) [] (WW Z A sc348 ++ ex) 0 0 := by
        intro k348
        induction k348 with
        | zero => intro sc348 y348_5 y348_7 y348_8 hIc348 hFc348 j348_3 j348_7 j348_8 n348_0 n348_1 n348_2 n348_3 g348_0 g348_1 g348_2 mm348; exact m_no mm348 j348_8 rfl
        | succ k348 ih348 =>
          intro sc348 y348_5 y348_7 y348_8 hIc348 hFc348 j348_3 j348_7 j348_8 n348_0 n348_1 n348_2 n348_3 g348_0 g348_1 g348_2 mm348
          refine gg_w (M := 1 + k105 * 357304 + 1 + k348 * 900 + 900) (by omega) ?_
          refine g_iload 350 (gd rfl) rfl rfl ?_
          refine g_iload_n 351 (gd rfl) rfl rfl ?_
          refine g_cmp_ge 354 442 (gd rfl) rfl rfl (fun c351 => ?_) (fun c351 => ?_)
          · skip
            refine g_aload_n 443 (gd rfl) rfl rfl ?_
            refine g_getA (q2 := 158) 446 (gd rfl) rfl rfl rfl rfl ?_
            refine g_iload 448 (gd rfl) rfl rfl ?_
            refine g_iaload 449 (gd rfl) rfl (n := 32) rfl (in_ix j105_4 rfl) (fun z448 e448 => ?_)
            have i449 : In z448 0 31 := by have hR := g348_0 y105_4.toNatClampNeg (by show ((y105_4.toInt.toNat : Nat) : Int) < _; have a0 := j105_4; unfold In at a0; have a1 := j348_3; unfold In at a1; have a2 := j105_2; unfold In at a2; have a3 := j105_1; unfold In at a3; have a4 := ro_109_20; unfold In at a4; have a5 := ro_109_19; unfold In at a5; have a6 := j348_8; unfold In at a6; have a7 := j348_7; unfold In at a7; omega); rw [← e448] at hR; exact ⟨hR.1, by have a0 := j105_4; unfold In at a0; have a1 := j348_3; unfold In at a1; have a2 := j105_2; unfold In at a2; have a3 := j105_1; unfold In at a3; have a4 := ro_109_20; unfold In at a4; have a5 := ro_109_19; unfold In at a5; have a6 := j348_8; unfold In at a6; have a7 := j348_7; unfold In at a7; omega⟩
            have hz448 : (z448).toInt < y348_7.toInt := (by have hR := g348_0 y105_4.toNatClampNeg (by show ((y105_4.toInt.toNat : Nat) : Int) < _; have a0 := j105_4; unfold In at a0; have a1 := j348_3; unfold In at a1; have a2 := j105_2; unfold In at a2; have a3 := j105_1; unfold In at a3; have a4 := ro_109_20; unfold In at a4; have a5 := ro_109_19; unfold In at a5; have a6 := j348_8; unfold In at a6; have a7 := j348_7; unfold In at a7; omega); rw [← e448] at hR; exact hR.2)
            refine g_istore 451 (gd rfl) rfl (Nat.le_of_ble_eq_true rfl) ?_
            refine g_iload 453 (gd rfl) rfl rfl ?_
            refine g_istore_n 454 (gd rfl) rfl (Nat.le_of_ble_eq_true rfl) ?_
            refine g_goto 105 (gd rfl) rfl ?_
            have n105 : (z448).toInt < (y348_7).toInt := by have a0 := j105_4; unfold In at a0; have a1 := j348_3; unfold In at a1; have a2 := j105_2; unfold In at a2; have a3 := j105_1; unfold In at a3; have a4 := ro_109_20; unfold In at a4; have a5 := ro_109_19; unfold In at a5; have a6 := j348_8; unfold In at a6; have a7 := j348_7; unfold In at a7; have a8 := i449; unfold In at a8; omega
            have n105a : 0 ≤ (z448).toInt := by have a0 := j105_4; unfold In at a0; have a1 := j348_3; unfold In at a1; have a2 := j105_2; unfold In at a2; have a3 := j105_1; unfold In at a3; have a4 := ro_109_20; unfold In at a4; have a5 := ro_109_19; unfold In at a5; have a6 := j348_8; unfold In at a6; have a7 := j348_7; unfold In at a7; have a8 := i449; unfold In at a8; omega
            have n105b : 0 ≤ (y105_2).toInt := by have a0 := j105_4; unfold In at a0; have a1 := j348_3; unfold In at a1; have a2 := j105_2; unfold In at a2; have a3 := j105_1; unfold In at a3; have a4 := ro_109_20; unfold In at a4; have a5 := ro_109_19; unfold In at a5; have a6 := j348_8; unfold In at a6; have a7 := j348_7; unfold In at a7; have a8 := i449; unfold In at a8; omega
            have n105c : EE sc348 (y105_2).toInt (y348_7).toInt := by first | exact fun e he => g348_1 e (by have a0 := j105_4; unfold In at a0; have a1 := j348_3; unfold In at a1; have a2 := j105_2; unfold In at a2; have a3 := j105_1; unfold In at a3; have a4 := ro_109_20; unfold In at a4; have a5 := ro_109_19; unfold In at a5; have a6 := j348_8; unfold In at a6; have a7 := j348_7; unfold In at a7; have a8 := i449; unfold In at a8; omega) | exact g18_0
            have m105 : (y348_7).toInt < ((k105 : Nat) : Int) := by have a0 := j105_4; unfold In at a0; have a1 := j348_3; unfold In at a1; have a2 := j105_2; unfold In at a2; have a3 := j105_1; unfold In at a3; have a4 := ro_109_20; unfold In at a4; have a5 := ro_109_19; unfold In at a5; have a6 := j348_8; unfold In at a6; have a7 := j348_7; unfold In at a7; have a8 := i449; unfold In at a8; omega
            exact gg_w (by omega) (gg_f (gf_cons rfl (gf_cons rfl (gf_cons rfl (gf_cons rfl (gf_cons rfl (gf_cons rfl gf_nil)))))) (ih105  sc348 y105_2 y348_7 z448 y348_5 hIc348 hFc348 (in_w 0 31 j105_1 rfl) (in_w 0 160 j105_2 rfl) (in_w 0 32 j348_7 rfl) (in_w 0 31 i449 rfl) n105 n105a n105b n105c m105))
          · skip
            have i351 := r_lt1 0 159 c351 j348_8 j105_2 rfl
            have i351a := r_lt2 1 160 c351 j348_8 j105_2 rfl
            refine g_aload_n 355 (gd rfl) rfl rfl ?_
            refine g_getA (q2 := 154) 358 (gd rfl) rfl rfl rfl rfl ?_
            refine g_iload 360 (gd rfl) rfl rfl ?_
            refine g_iaload 361 (gd rfl) rfl (n := 160) rfl (in_ix i351 rfl) (fun z360 e360 => ?_)
            have i360 := inv_I hIc348 (n := 160) (t := 0) 0 31 rfl (in_ix i351 rfl) rfl e360
            refine g_istore 363 (gd rfl) rfl (Nat.le_of_ble_eq_true rfl) ?_
            refine g_aload_n 364 (gd rfl) rfl rfl ?_
            refine g_getA (q2 := 155) 367 (gd rfl) rfl rfl rfl rfl ?_
            refine g_iload 369 (gd rfl) rfl rfl ?_
            refine g_dup2 370 (gd rfl) rfl rfl rfl ?_
            refine g_laload 371 (gd rfl) rfl (n := 160) rfl (in_ix i351 rfl) (fun z370 e370 => ?_)
            refine g_aload_n 372 (gd rfl) rfl rfl ?_
            refine g_getA (q2 := 153) 375 (gd rfl) rfl rfl rfl rfl ?_
            refine g_iload 377 (gd rfl) rfl rfl ?_
            refine g_iaload 378 (gd rfl) rfl (n := 160) rfl (in_ix i351 rfl) (fun z377 e377 => ?_)
            have i377 := inv_I hIc348 (n := 160) (t := 0) 0 31 rfl (in_ix i351 rfl) rfl e377
            refine g_iload 380 (gd rfl) rfl rfl ?_
            refine g_cmp_eq 383 400 (gd rfl) rfl rfl (fun c380 => ?_) (fun c380 => ?_)
            · skip
              refine g_lconst 0 401 (gd rfl) rfl rfl ?_
              refine g_lsub 402 (gd rfl) rfl (fun z401 e401 => ?_)
              refine g_lastore 403 (gd rfl) rfl (n := 160) rfl (in_ix i351 rfl) ?_
              have hI402 := inv_sL (q := 155) (j := y348_8.toNatClampNeg) (x := z401) hIc348 rfl (l_rng z401)
              refine g_aload_n 404 (gd rfl) rfl rfl ?_
              refine g_getA (q2 := 153) 407 (gd rfl) rfl rfl rfl rfl ?_
              refine g_iload 409 (gd rfl) rfl rfl ?_
              refine g_aload_n 410 (gd rfl) rfl rfl ?_
              refine g_getA (q2 := 158) 413 (gd rfl) rfl rfl rfl rfl ?_
              refine g_aload_n 414 (gd rfl) rfl rfl ?_
              refine g_getA (q2 := 153) 417 (gd rfl) rfl rfl rfl rfl ?_
              refine g_iload 419 (gd rfl) rfl rfl ?_
              refine g_iaload 420 (gd rfl) rfl (n := 160) rfl (in_ix i351 rfl) (fun z419 e419 => ?_)
              have q419 : z377 = z419 := (sL_I (e377)).trans e419.symm
              subst q419
              refine g_iaload 421 (gd rfl) rfl (n := 32) rfl (in_ix i377 rfl) (fun z420 e420 => ?_)
              have i421 : In z420 0 31 := by have hE := (g348_2 y348_8.toNatClampNeg (by show _ ≤ ((y348_8.toInt.toNat : Nat) : Int); have a0 := j105_4; unfold In at a0; have a1 := j348_3; unfold In at a1; have a2 := i351a; unfold In at a2; have a3 := j105_1; unfold In at a3; have a4 := ro_109_20; unfold In at a4; have a5 := ro_109_19; unfold In at a5; have a6 := i351; unfold In at a6; have a7 := j348_7; unfold In at a7; have a8 := i360; unfold In at a8; omega) (by show ((y348_8.toInt.toNat : Nat) : Int) < _; have a0 := j105_4; unfold In at a0; have a1 := j348_3; unfold In at a1; have a2 := i351a; unfold In at a2; have a3 := j105_1; unfold In at a3; have a4 := ro_109_20; unfold In at a4; have a5 := ro_109_19; unfold In at a5; have a6 := i351; unfold In at a6; have a7 := j348_7; unfold In at a7; have a8 := i360; unfold In at a8; omega)).1; rw [← e377] at hE; have hR := g348_0 z377.toNatClampNeg (by show ((z377.toInt.toNat : Nat) : Int) < _; have hz := i377; unfold In at hz; omega); rw [show sc348.1 158 z377.toNatClampNeg = z420 from e420.symm] at hR; exact ⟨hR.1, by have a0 := j105_4; unfold In at a0; have a1 := j348_3; unfold In at a1; have a2 := i351a; unfold In at a2; have a3 := j105_1; unfold In at a3; have a4 := ro_109_20; unfold In at a4; have a5 := ro_109_19; unfold In at a5; have a6 := i351; unfold In at a6; have a7 := j348_7; unfold In at a7; have a8 := i360; unfold In at a8; omega⟩
              have hz420 : (z420).toInt < y348_7.toInt := (by have hE := (g348_2 y348_8.toNatClampNeg (by show _ ≤ ((y348_8.toInt.toNat : Nat) : Int); have a0 := j105_4; unfold In at a0; have a1 := j348_3; unfold In at a1; have a2 := i351a; unfold In at a2; have a3 := j105_1; unfold In at a3; have a4 := ro_109_20; unfold In at a4; have a5 := ro_109_19; unfold In at a5; have a6 := i351; unfold In at a6; have a7 := j348_7; unfold In at a7; have a8 := i360; unfold In at a8; omega) (by show ((y348_8.toInt.toNat : Nat) : Int) < _; have a0 := j105_4; unfold In at a0; have a1 := j348_3; unfold In at a1; have a2 := i351a; unfold In at a2; have a3 := j105_1; unfold In at a3; have a4 := ro_109_20; unfold In at a4; have a5 := ro_109_19; unfold In at a5; have a6 := i351; unfold In at a6; have a7 := j348_7; unfold In at a7; have a8 := i360; unfold In at a8; omega)).1; rw [← e377] at hE; have hR := g348_0 z377.toNatClampNeg (by show ((z377.toInt.toNat : Nat) : Int) < _; have hz := i377; unfold In at hz; omega); rw [show sc348.1 158 z377.toNatClampNeg = z420 from e420.symm] at hR; exact hR.2)
              refine g_iastore 422 (gd rfl) rfl (n := 160) rfl (in_ix i351 rfl) ?_
              have hI421 := inv_sI (q := 153) (j := y348_8.toNatClampNeg) hI402 rfl (in_w 0 31 i421 rfl)
              refine g_aload_n 423 (gd rfl) rfl rfl ?_
              refine g_getA (q2 := 154) 426 (gd rfl) rfl rfl rfl rfl ?_
              refine g_iload 428 (gd rfl) rfl rfl ?_
              refine g_aload_n 429 (gd rfl) rfl rfl ?_
              refine g_getA (q2 := 158) 432 (gd rfl) rfl rfl rfl rfl ?_
              refine g_iload 434 (gd rfl) rfl rfl ?_
              refine g_iaload 435 (gd rfl) rfl (n := 32) rfl (in_ix i360 rfl) (fun z434 e434 => ?_)
              have i435 : In z434 0 31 := by have hE := (g348_2 y348_8.toNatClampNeg (by show _ ≤ ((y348_8.toInt.toNat : Nat) : Int); have a0 := j105_4; unfold In at a0; have a1 := j348_3; unfold In at a1; have a2 := i351a; unfold In at a2; have a3 := j105_1; unfold In at a3; have a4 := ro_109_20; unfold In at a4; have a5 := ro_109_19; unfold In at a5; have a6 := i351; unfold In at a6; have a7 := j348_7; unfold In at a7; have a8 := i360; unfold In at a8; omega) (by show ((y348_8.toInt.toNat : Nat) : Int) < _; have a0 := j105_4; unfold In at a0; have a1 := j348_3; unfold In at a1; have a2 := i351a; unfold In at a2; have a3 := j105_1; unfold In at a3; have a4 := ro_109_20; unfold In at a4; have a5 := ro_109_19; unfold In at a5; have a6 := i351; unfold In at a6; have a7 := j348_7; unfold In at a7; have a8 := i360; unfold In at a8; omega)).2; rw [← e360] at hE; have hR := g348_0 z360.toNatClampNeg (by show ((z360.toInt.toNat : Nat) : Int) < _; have hz := i360; unfold In at hz; omega); rw [show sc348.1 158 z360.toNatClampNeg = z434 from (by have h := e434; rw [sI_p rfl] at h; exact h.symm)] at hR; exact ⟨hR.1, by have a0 := j105_4; unfold In at a0; have a1 := j348_3; unfold In at a1; have a2 := i351a; unfold In at a2; have a3 := j105_1; unfold In at a3; have a4 := ro_109_20; unfold In at a4; have a5 := ro_109_19; unfold In at a5; have a6 := i351; unfold In at a6; have a7 := j348_7; unfold In at a7; have a8 := i360; unfold In at a8; omega⟩
              have hz434 : (z434).toInt < y348_7.toInt := (by have hE := (g348_2 y348_8.toNatClampNeg (by show _ ≤ ((y348_8.toInt.toNat : Nat) : Int); have a0 := j105_4; unfold In at a0; have a1 := j348_3; unfold In at a1; have a2 := i351a; unfold In at a2; have a3 := j105_1; unfold In at a3; have a4 := ro_109_20; unfold In at a4; have a5 := ro_109_19; unfold In at a5; have a6 := i351; unfold In at a6; have a7 := j348_7; unfold In at a7; have a8 := i360; unfold In at a8; omega) (by show ((y348_8.toInt.toNat : Nat) : Int) < _; have a0 := j105_4; unfold In at a0; have a1 := j348_3; unfold In at a1; have a2 := i351a; unfold In at a2; have a3 := j105_1; unfold In at a3; have a4 := ro_109_20; unfold In at a4; have a5 := ro_109_19; unfold In at a5; have a6 := i351; unfold In at a6; have a7 := j348_7; unfold In at a7; have a8 := i360; unfold In at a8; omega)).2; rw [← e360] at hE; have hR := g348_0 z360.toNatClampNeg (by show ((z360.toInt.toNat : Nat) : Int) < _; have hz := i360; unfold In at hz; omega); rw [show sc348.1 158 z360.toNatClampNeg = z434 from (by have h := e434; rw [sI_p rfl] at h; exact h.symm)] at hR; exact hR.2)
              refine g_iastore 436 (gd rfl) rfl (n := 160) rfl (in_ix i351 rfl) ?_
              have hI435 := inv_sI (q := 154) (j := y348_8.toNatClampNeg) hI421 rfl (in_w 0 31 i435 rfl)
              refine g_iinc 439 (gd rfl) rfl rfl (Nat.le_of_ble_eq_true rfl) (fun z436 e436 => ?_)
              have i436 := in_add 1 160 e436 i351 (in_c 1 rfl) rfl rfl
              refine g_goto 348 (gd rfl) rfl ?_
              have n348 : (y105_4).toInt < (y105_3).toInt := by have a0 := j105_4; unfold In at a0; have a1 := j348_3; unfold In at a1; have a2 := i351a; unfold In at a2; have a3 := j105_1; unfold In at a3; have a4 := ro_109_20; unfold In at a4; have a5 := ro_109_19; unfold In at a5; have a6 := i351; unfold In at a6; have a7 := j348_7; unfold In at a7; have a8 := i360; unfold In at a8; have a9 := i436; unfold In at a9; have a10 := t_add e436 i351 (in_c 1 rfl) rfl; have a11 := (in_c 1 rfl); unfold In at a11; omega
              have n348a : 0 ≤ (y105_4).toInt := by have a0 := j105_4; unfold In at a0; have a1 := j348_3; unfold In at a1; have a2 := i351a; unfold In at a2; have a3 := j105_1; unfold In at a3; have a4 := ro_109_20; unfold In at a4; have a5 := ro_109_19; unfold In at a5; have a6 := i351; unfold In at a6; have a7 := j348_7; unfold In at a7; have a8 := i360; unfold In at a8; have a9 := i436; unfold In at a9; have a10 := t_add e436 i351 (in_c 1 rfl) rfl; have a11 := (in_c 1 rfl); unfold In at a11; omega
              have n348b : 0 ≤ (y105_2).toInt := by have a0 := j105_4; unfold In at a0; have a1 := j348_3; unfold In at a1; have a2 := i351a; unfold In at a2; have a3 := j105_1; unfold In at a3; have a4 := ro_109_20; unfold In at a4; have a5 := ro_109_19; unfold In at a5; have a6 := i351; unfold In at a6; have a7 := j348_7; unfold In at a7; have a8 := i360; unfold In at a8; have a9 := i436; unfold In at a9; have a10 := t_add e436 i351 (in_c 1 rfl) rfl; have a11 := (in_c 1 rfl); unfold In at a11; omega
              have n348c : (y348_7).toInt < (y105_3).toInt := by have a0 := j105_4; unfold In at a0; have a1 := j348_3; unfold In at a1; have a2 := i351a; unfold In at a2; have a3 := j105_1; unfold In at a3; have a4 := ro_109_20; unfold In at a4; have a5 := ro_109_19; unfold In at a5; have a6 := i351; unfold In at a6; have a7 := j348_7; unfold In at a7; have a8 := i360; unfold In at a8; have a9 := i436; unfold In at a9; have a10 := t_add e436 i351 (in_c 1 rfl) rfl; have a11 := (in_c 1 rfl); unfold In at a11; omega
              have n348d : ∀ k : Nat, (k : Int) < (y105_3).toInt → 0 ≤ ((sI (sI (sL sc348 155 y348_8.toNatClampNeg z401) 153 y348_8.toNatClampNeg z420) 154 y348_8.toNatClampNeg z434).1 158 k).toInt ∧ ((sI (sI (sL sc348 155 y348_8.toNatClampNeg z401) 153 y348_8.toNatClampNeg z420) 154 y348_8.toNatClampNeg z434).1 158 k).toInt < (y348_7).toInt := by first | exact p331b | (intro k hk; rw [sI_p rfl, sI_p rfl]; exact g348_0 k hk)
              have n348e : EE (sI (sI (sL sc348 155 y348_8.toNatClampNeg z401) 153 y348_8.toNatClampNeg z420) 154 y348_8.toNatClampNeg z434) (z436).toInt (y348_7).toInt := by first | exact ee_s g348_1 (y := y348_8) (z := z420) (w := z434) (by simp [sL, sI]) (by simp [sL, sI]) (by have a0 := j105_4; unfold In at a0; have a1 := j348_3; unfold In at a1; have a2 := i351a; unfold In at a2; have a3 := j105_1; unfold In at a3; have a4 := ro_109_20; unfold In at a4; have a5 := ro_109_19; unfold In at a5; have a6 := i351; unfold In at a6; have a7 := j348_7; unfold In at a7; have a8 := i360; unfold In at a8; have a9 := i436; unfold In at a9; have a10 := t_add e436 i351 (in_c 1 rfl) rfl; have a11 := (in_c 1 rfl); unfold In at a11; omega) rfl hz420 hz434 (by have a0 := j105_4; unfold In at a0; have a1 := j348_3; unfold In at a1; have a2 := i351a; unfold In at a2; have a3 := j105_1; unfold In at a3; have a4 := ro_109_20; unfold In at a4; have a5 := ro_109_19; unfold In at a5; have a6 := i351; unfold In at a6; have a7 := j348_7; unfold In at a7; have a8 := i360; unfold In at a8; have a9 := i436; unfold In at a9; have a10 := t_add e436 i351 (in_c 1 rfl) rfl; have a11 := (in_c 1 rfl); unfold In at a11; omega) | exact ee_0 (by decide)
              have n348f : ∀ e : Nat, (z436).toInt ≤ (e : Int) → (e : Int) < (y105_2).toInt → ((sI (sI (sL sc348 155 y348_8.toNatClampNeg z401) 153 y348_8.toNatClampNeg z420) 154 y348_8.toNatClampNeg z434).1 153 e).toInt < (y105_3).toInt ∧ ((sI (sI (sL sc348 155 y348_8.toNatClampNeg z401) 153 y348_8.toNatClampNeg z420) 154 y348_8.toNatClampNeg z434).1 154 e).toInt < (y105_3).toInt := by first | (intro e h1 h2; rw [hF331.1 153 rfl, hF331.1 154 rfl]; exact g252_0 e h2) | (intro e h1 h2; have q1 : ((sI (sI (sL sc348 155 y348_8.toNatClampNeg z401) 153 y348_8.toNatClampNeg z420) 154 y348_8.toNatClampNeg z434)).1 153 = upd (sc348.1 153) y348_8.toNatClampNeg z420 := (by simp [sL, sI]); have q2 : ((sI (sI (sL sc348 155 y348_8.toNatClampNeg z401) 153 y348_8.toNatClampNeg z420) 154 y348_8.toNatClampNeg z434)).1 154 = upd (sc348.1 154) y348_8.toNatClampNeg z434 := (by simp [sL, sI]); have e8 : y348_8.toNatClampNeg = y348_8.toInt.toNat := rfl; have hne : e ≠ y348_8.toNatClampNeg := (by have a0 := j105_4; unfold In at a0; have a1 := j348_3; unfold In at a1; have a2 := i351a; unfold In at a2; have a3 := j105_1; unfold In at a3; have a4 := ro_109_20; unfold In at a4; have a5 := ro_109_19; unfold In at a5; have a6 := i351; unfold In at a6; have a7 := j348_7; unfold In at a7; have a8 := i360; unfold In at a8; have a9 := i436; unfold In at a9; have a10 := t_add e436 i351 (in_c 1 rfl) rfl; have a11 := (in_c 1 rfl); unfold In at a11; omega); rw [q1, q2]; unfold upd; rw [if_neg hne, if_neg hne]; exact g348_2 e (by have a0 := j105_4; unfold In at a0; have a1 := j348_3; unfold In at a1; have a2 := i351a; unfold In at a2; have a3 := j105_1; unfold In at a3; have a4 := ro_109_20; unfold In at a4; have a5 := ro_109_19; unfold In at a5; have a6 := i351; unfold In at a6; have a7 := j348_7; unfold In at a7; have a8 := i360; unfold In at a8; have a9 := i436; unfold In at a9; have a10 := t_add e436 i351 (in_c 1 rfl) rfl; have a11 := (in_c 1 rfl); unfold In at a11; omega) h2)
              exact gg_w (by omega) (gg_f (gf_cons rfl (gf_cons rfl (gf_cons rfl (gf_cons rfl (gf_cons rfl (gf_cons rfl (gf_cons rfl (gf_cons rfl gf_nil)))))))) (ih348 (sI (sI (sL sc348 155 y348_8.toNatClampNeg z401) 153 y348_8.toNatClampNeg z420) 154 y348_8.toNatClampNeg z434) y348_5 y348_7 z436 hI435 (fr_sI rfl (fr_sI rfl (fr_sL rfl hFc348))) (in_w 2 32 j348_3 rfl) (in_w 0 32 j348_7 rfl) (in_w 0 160 i436 rfl) n348 n348a n348b n348c n348d n348e n348f (m_up mm348 (t_add e436 i351 (in_c 1 rfl) rfl) (in_w 1 1 (in_c 1 rfl) rfl))))
            · skip
              refine g_iload 385 (gd rfl) rfl rfl ?_
              refine g_iload 387 (gd rfl) rfl rfl ?_
              refine g_cmp_eq 390 400 (gd rfl) rfl rfl (fun c387 => ?_) (fun c387 => ?_)
              · skip
                refine g_lconst 0 401 (gd rfl) rfl rfl ?_
                refine g_lsub 402 (gd rfl) rfl (fun z401 e401 => ?_)
                refine g_lastore 403 (gd rfl) rfl (n := 160) rfl (in_ix i351 rfl) ?_
                have hI402 := inv_sL (q := 155) (j := y348_8.toNatClampNeg) (x := z401) hIc348 rfl (l_rng z401)
                refine g_aload_n 404 (gd rfl) rfl rfl ?_
                refine g_getA (q2 := 153) 407 (gd rfl) rfl rfl rfl rfl ?_
                refine g_iload 409 (gd rfl) rfl rfl ?_
                refine g_aload_n 410 (gd rfl) rfl rfl ?_
                refine g_getA (q2 := 158) 413 (gd rfl) rfl rfl rfl rfl ?_
                refine g_aload_n 414 (gd rfl) rfl rfl ?_
                refine g_getA (q2 := 153) 417 (gd rfl) rfl rfl rfl rfl ?_
                refine g_iload 419 (gd rfl) rfl rfl ?_
                refine g_iaload 420 (gd rfl) rfl (n := 160) rfl (in_ix i351 rfl) (fun z419 e419 => ?_)
                have q419 : z377 = z419 := (sL_I (e377)).trans e419.symm
                subst q419
                refine g_iaload 421 (gd rfl) rfl (n := 32) rfl (in_ix i377 rfl) (fun z420 e420 => ?_)
                have i421 : In z420 0 31 := by have hE := (g348_2 y348_8.toNatClampNeg (by show _ ≤ ((y348_8.toInt.toNat : Nat) : Int); have a0 := j105_4; unfold In at a0; have a1 := j348_3; unfold In at a1; have a2 := i351a; unfold In at a2; have a3 := j105_1; unfold In at a3; have a4 := ro_109_20; unfold In at a4; have a5 := ro_109_19; unfold In at a5; have a6 := i351; unfold In at a6; have a7 := j348_7; unfold In at a7; have a8 := i360; unfold In at a8; omega) (by show ((y348_8.toInt.toNat : Nat) : Int) < _; have a0 := j105_4; unfold In at a0; have a1 := j348_3; unfold In at a1; have a2 := i351a; unfold In at a2; have a3 := j105_1; unfold In at a3; have a4 := ro_109_20; unfold In at a4; have a5 := ro_109_19; unfold In at a5; have a6 := i351; unfold In at a6; have a7 := j348_7; unfold In at a7; have a8 := i360; unfold In at a8; omega)).1; rw [← e377] at hE; have hR := g348_0 z377.toNatClampNeg (by show ((z377.toInt.toNat : Nat) : Int) < _; have hz := i377; unfold In at hz; omega); rw [show sc348.1 158 z377.toNatClampNeg = z420 from e420.symm] at hR; exact ⟨hR.1, by have a0 := j105_4; unfold In at a0; have a1 := j348_3; unfold In at a1; have a2 := i351a; unfold In at a2; have a3 := j105_1; unfold In at a3; have a4 := ro_109_20; unfold In at a4; have a5 := ro_109_19; unfold In at a5; have a6 := i351; unfold In at a6; have a7 := j348_7; unfold In at a7; have a8 := i360; unfold In at a8; omega⟩
                have hz420 : (z420).toInt < y348_7.toInt := (by have hE := (g348_2 y348_8.toNatClampNeg (by show _ ≤ ((y348_8.toInt.toNat : Nat) : Int); have a0 := j105_4; unfold In at a0; have a1 := j348_3; unfold In at a1; have a2 := i351a; unfold In at a2; have a3 := j105_1; unfold In at a3; have a4 := ro_109_20; unfold In at a4; have a5 := ro_109_19; unfold In at a5; have a6 := i351; unfold In at a6; have a7 := j348_7; unfold In at a7; have a8 := i360; unfold In at a8; omega) (by show ((y348_8.toInt.toNat : Nat) : Int) < _; have a0 := j105_4; unfold In at a0; have a1 := j348_3; unfold In at a1; have a2 := i351a; unfold In at a2; have a3 := j105_1; unfold In at a3; have a4 := ro_109_20; unfold In at a4; have a5 := ro_109_19; unfold In at a5; have a6 := i351; unfold In at a6; have a7 := j348_7; unfold In at a7; have a8 := i360; unfold In at a8; omega)).1; rw [← e377] at hE; have hR := g348_0 z377.toNatClampNeg (by show ((z377.toInt.toNat : Nat) : Int) < _; have hz := i377; unfold In at hz; omega); rw [show sc348.1 158 z377.toNatClampNeg = z420 from e420.symm] at hR; exact hR.2)
                refine g_iastore 422 (gd rfl) rfl (n := 160) rfl (in_ix i351 rfl) ?_
                have hI421 := inv_sI (q := 153) (j := y348_8.toNatClampNeg) hI402 rfl (in_w 0 31 i421 rfl)
                refine g_aload_n 423 (gd rfl) rfl rfl ?_
                refine g_getA (q2 := 154) 426 (gd rfl) rfl rfl rfl rfl ?_
                refine g_iload 428 (gd rfl) rfl rfl ?_
                refine g_aload_n 429 (gd rfl) rfl rfl ?_
                refine g_getA (q2 := 158) 432 (gd rfl) rfl rfl rfl rfl ?_
                refine g_iload 434 (gd rfl) rfl rfl ?_
                refine g_iaload 435 (gd rfl) rfl (n := 32) rfl (in_ix i360 rfl) (fun z434 e434 => ?_)
                have i435 : In z434 0 31 := by have hE := (g348_2 y348_8.toNatClampNeg (by show _ ≤ ((y348_8.toInt.toNat : Nat) : Int); have a0 := j105_4; unfold In at a0; have a1 := j348_3; unfold In at a1; have a2 := i351a; unfold In at a2; have a3 := j105_1; unfold In at a3; have a4 := ro_109_20; unfold In at a4; have a5 := ro_109_19; unfold In at a5; have a6 := i351; unfold In at a6; have a7 := j348_7; unfold In at a7; have a8 := i360; unfold In at a8; omega) (by show ((y348_8.toInt.toNat : Nat) : Int) < _; have a0 := j105_4; unfold In at a0; have a1 := j348_3; unfold In at a1; have a2 := i351a; unfold In at a2; have a3 := j105_1; unfold In at a3; have a4 := ro_109_20; unfold In at a4; have a5 := ro_109_19; unfold In at a5; have a6 := i351; unfold In at a6; have a7 := j348_7; unfold In at a7; have a8 := i360; unfold In at a8; omega)).2; rw [← e360] at hE; have hR := g348_0 z360.toNatClampNeg (by show ((z360.toInt.toNat : Nat) : Int) < _; have hz := i360; unfold In at hz; omega); rw [show sc348.1 158 z360.toNatClampNeg = z434 from (by have h := e434; rw [sI_p rfl] at h; exact h.symm)] at hR; exact ⟨hR.1, by have a0 := j105_4; unfold In at a0; have a1 := j348_3; unfold In at a1; have a2 := i351a; unfold In at a2; have a3 := j105_1; unfold In at a3; have a4 := ro_109_20; unfold In at a4; have a5 := ro_109_19; unfold In at a5; have a6 := i351; unfold In at a6; have a7 := j348_7; unfold In at a7; have a8 := i360; unfold In at a8; omega⟩
                have hz434 : (z434).toInt < y348_7.toInt := (by have hE := (g348_2 y348_8.toNatClampNeg (by show _ ≤ ((y348_8.toInt.toNat : Nat) : Int); have a0 := j105_4; unfold In at a0; have a1 := j348_3; unfold In at a1; have a2 := i351a; unfold In at a2; have a3 := j105_1; unfold In at a3; have a4 := ro_109_20; unfold In at a4; have a5 := ro_109_19; unfold In at a5; have a6 := i351; unfold In at a6; have a7 := j348_7; unfold In at a7; have a8 := i360; unfold In at a8; omega) (by show ((y348_8.toInt.toNat : Nat) : Int) < _; have a0 := j105_4; unfold In at a0; have a1 := j348_3; unfold In at a1; have a2 := i351a; unfold In at a2; have a3 := j105_1; unfold In at a3; have a4 := ro_109_20; unfold In at a4; have a5 := ro_109_19; unfold In at a5; have a6 := i351; unfold In at a6; have a7 := j348_7; unfold In at a7; have a8 := i360; unfold In at a8; omega)).2; rw [← e360] at hE; have hR := g348_0 z360.toNatClampNeg (by show ((z360.toInt.toNat : Nat) : Int) < _; have hz := i360; unfold In at hz; omega); rw [show sc348.1 158 z360.toNatClampNeg = z434 from (by have h := e434; rw [sI_p rfl] at h; exact h.symm)] at hR; exact hR.2)
                refine g_iastore 436 (gd rfl) rfl (n := 160) rfl (in_ix i351 rfl) ?_
                have hI435 := inv_sI (q := 154) (j := y348_8.toNatClampNeg) hI421 rfl (in_w 0 31 i435 rfl)
                refine g_iinc 439 (gd rfl) rfl rfl (Nat.le_of_ble_eq_true rfl) (fun z436 e436 => ?_)
                have i436 := in_add 1 160 e436 i351 (in_c 1 rfl) rfl rfl
                refine g_goto 348 (gd rfl) rfl ?_
                have n348 : (y105_4).toInt < (y105_3).toInt := by have a0 := j105_4; unfold In at a0; have a1 := j348_3; unfold In at a1; have a2 := i351a; unfold In at a2; have a3 := j105_1; unfold In at a3; have a4 := ro_109_20; unfold In at a4; have a5 := ro_109_19; unfold In at a5; have a6 := i351; unfold In at a6; have a7 := j348_7; unfold In at a7; have a8 := i360; unfold In at a8; have a9 := i436; unfold In at a9; have a10 := t_add e436 i351 (in_c 1 rfl) rfl; have a11 := (in_c 1 rfl); unfold In at a11; omega
                have n348a : 0 ≤ (y105_4).toInt := by have a0 := j105_4; unfold In at a0; have a1 := j348_3; unfold In at a1; have a2 := i351a; unfold In at a2; have a3 := j105_1; unfold In at a3; have a4 := ro_109_20; unfold In at a4; have a5 := ro_109_19; unfold In at a5; have a6 := i351; unfold In at a6; have a7 := j348_7; unfold In at a7; have a8 := i360; unfold In at a8; have a9 := i436; unfold In at a9; have a10 := t_add e436 i351 (in_c 1 rfl) rfl; have a11 := (in_c 1 rfl); unfold In at a11; omega
                have n348b : 0 ≤ (y105_2).toInt := by have a0 := j105_4; unfold In at a0; have a1 := j348_3; unfold In at a1; have a2 := i351a; unfold In at a2; have a3 := j105_1; unfold In at a3; have a4 := ro_109_20; unfold In at a4; have a5 := ro_109_19; unfold In at a5; have a6 := i351; unfold In at a6; have a7 := j348_7; unfold In at a7; have a8 := i360; unfold In at a8; have a9 := i436; unfold In at a9; have a10 := t_add e436 i351 (in_c 1 rfl) rfl; have a11 := (in_c 1 rfl); unfold In at a11; omega
                have n348c : (y348_7).toInt < (y105_3).toInt := by have a0 := j105_4; unfold In at a0; have a1 := j348_3; unfold In at a1; have a2 := i351a; unfold In at a2; have a3 := j105_1; unfold In at a3; have a4 := ro_109_20; unfold In at a4; have a5 := ro_109_19; unfold In at a5; have a6 := i351; unfold In at a6; have a7 := j348_7; unfold In at a7; have a8 := i360; unfold In at a8; have a9 := i436; unfold In at a9; have a10 := t_add e436 i351 (in_c 1 rfl) rfl; have a11 := (in_c 1 rfl); unfold In at a11; omega
                have n348d : ∀ k : Nat, (k : Int) < (y105_3).toInt → 0 ≤ ((sI (sI (sL sc348 155 y348_8.toNatClampNeg z401) 153 y348_8.toNatClampNeg z420) 154 y348_8.toNatClampNeg z434).1 158 k).toInt ∧ ((sI (sI (sL sc348 155 y348_8.toNatClampNeg z401) 153 y348_8.toNatClampNeg z420) 154 y348_8.toNatClampNeg z434).1 158 k).toInt < (y348_7).toInt := by first | exact p331b | (intro k hk; rw [sI_p rfl, sI_p rfl]; exact g348_0 k hk)
                have n348e : EE (sI (sI (sL sc348 155 y348_8.toNatClampNeg z401) 153 y348_8.toNatClampNeg z420) 154 y348_8.toNatClampNeg z434) (z436).toInt (y348_7).toInt := by first | exact ee_s g348_1 (y := y348_8) (z := z420) (w := z434) (by simp [sL, sI]) (by simp [sL, sI]) (by have a0 := j105_4; unfold In at a0; have a1 := j348_3; unfold In at a1; have a2 := i351a; unfold In at a2; have a3 := j105_1; unfold In at a3; have a4 := ro_109_20; unfold In at a4; have a5 := ro_109_19; unfold In at a5; have a6 := i351; unfold In at a6; have a7 := j348_7; unfold In at a7; have a8 := i360; unfold In at a8; have a9 := i436; unfold In at a9; have a10 := t_add e436 i351 (in_c 1 rfl) rfl; have a11 := (in_c 1 rfl); unfold In at a11; omega) rfl hz420 hz434 (by have a0 := j105_4; unfold In at a0; have a1 := j348_3; unfold In at a1; have a2 := i351a; unfold In at a2; have a3 := j105_1; unfold In at a3; have a4 := ro_109_20; unfold In at a4; have a5 := ro_109_19; unfold In at a5; have a6 := i351; unfold In at a6; have a7 := j348_7; unfold In at a7; have a8 := i360; unfold In at a8; have a9 := i436; unfold In at a9; have a10 := t_add e436 i351 (in_c 1 rfl) rfl; have a11 := (in_c 1 rfl); unfold In at a11; omega) | exact ee_0 (by decide)
                have n348f : ∀ e : Nat, (z436).toInt ≤ (e : Int) → (e : Int) < (y105_2).toInt → ((sI (sI (sL sc348 155 y348_8.toNatClampNeg z401) 153 y348_8.toNatClampNeg z420) 154 y348_8.toNatClampNeg z434).1 153 e).toInt < (y105_3).toInt ∧ ((sI (sI (sL sc348 155 y348_8.toNatClampNeg z401) 153 y348_8.toNatClampNeg z420) 154 y348_8.toNatClampNeg z434).1 154 e).toInt < (y105_3).toInt := by first | (intro e h1 h2; rw [hF331.1 153 rfl, hF331.1 154 rfl]; exact g252_0 e h2) | (intro e h1 h2; have q1 : ((sI (sI (sL sc348 155 y348_8.toNatClampNeg z401) 153 y348_8.toNatClampNeg z420) 154 y348_8.toNatClampNeg z434)).1 153 = upd (sc348.1 153) y348_8.toNatClampNeg z420 := (by simp [sL, sI]); have q2 : ((sI (sI (sL sc348 155 y348_8.toNatClampNeg z401) 153 y348_8.toNatClampNeg z420) 154 y348_8.toNatClampNeg z434)).1 154 = upd (sc348.1 154) y348_8.toNatClampNeg z434 := (by simp [sL, sI]); have e8 : y348_8.toNatClampNeg = y348_8.toInt.toNat := rfl; have hne : e ≠ y348_8.toNatClampNeg := (by have a0 := j105_4; unfold In at a0; have a1 := j348_3; unfold In at a1; have a2 := i351a; unfold In at a2; have a3 := j105_1; unfold In at a3; have a4 := ro_109_20; unfold In at a4; have a5 := ro_109_19; unfold In at a5; have a6 := i351; unfold In at a6; have a7 := j348_7; unfold In at a7; have a8 := i360; unfold In at a8; have a9 := i436; unfold In at a9; have a10 := t_add e436 i351 (in_c 1 rfl) rfl; have a11 := (in_c 1 rfl); unfold In at a11; omega); rw [q1, q2]; unfold upd; rw [if_neg hne, if_neg hne]; exact g348_2 e (by have a0 := j105_4; unfold In at a0; have a1 := j348_3; unfold In at a1; have a2 := i351a; unfold In at a2; have a3 := j105_1; unfold In at a3; have a4 := ro_109_20; unfold In at a4; have a5 := ro_109_19; unfold In at a5; have a6 := i351; unfold In at a6; have a7 := j348_7; unfold In at a7; have a8 := i360; unfold In at a8; have a9 := i436; unfold In at a9; have a10 := t_add e436 i351 (in_c 1 rfl) rfl; have a11 := (in_c 1 rfl); unfold In at a11; omega) h2)
                exact gg_w (by omega) (gg_f (gf_cons rfl (gf_cons rfl (gf_cons rfl (gf_cons rfl (gf_cons rfl (gf_cons rfl (gf_cons rfl (gf_cons rfl gf_nil)))))))) (ih348 (sI (sI (sL sc348 155 y348_8.toNatClampNeg z401) 153 y348_8.toNatClampNeg z420) 154 y348_8.toNatClampNeg z434) y348_5 y348_7 z436 hI435 (fr_sI rfl (fr_sI rfl (fr_sL rfl hFc348))) (in_w 2 32 j348_3 rfl) (in_w 0 32 j348_7 rfl) (in_w 0 160 i436 rfl) n348 n348a n348b n348c n348d n348e n348f (m_up mm348 (t_add e436 i351 (in_c 1 rfl) rfl) (in_w 1 1 (in_c 1 rfl) rfl))))
              · skip
                refine g_aload_n 391 (gd rfl) rfl rfl ?_
                refine g_getA (q2 := 156) 394 (gd rfl) rfl rfl rfl rfl ?_
                refine g_iload 396 (gd rfl) rfl rfl ?_
                refine g_laload 397 (gd rfl) rfl (n := 32) rfl (in_ix i360 rfl) (fun z396 e396 => ?_)
                refine g_goto 401 (gd rfl) rfl ?_
                refine g_lsub 402 (gd rfl) rfl (fun z401 e401 => ?_)
                refine g_lastore 403 (gd rfl) rfl (n := 160) rfl (in_ix i351 rfl) ?_
                have hI402 := inv_sL (q := 155) (j := y348_8.toNatClampNeg) (x := z401) hIc348 rfl (l_rng z401)
                refine g_aload_n 404 (gd rfl) rfl rfl ?_
                refine g_getA (q2 := 153) 407 (gd rfl) rfl rfl rfl rfl ?_
                refine g_iload 409 (gd rfl) rfl rfl ?_
                refine g_aload_n 410 (gd rfl) rfl rfl ?_
                refine g_getA (q2 := 158) 413 (gd rfl) rfl rfl rfl rfl ?_
                refine g_aload_n 414 (gd rfl) rfl rfl ?_
                refine g_getA (q2 := 153) 417 (gd rfl) rfl rfl rfl rfl ?_
                refine g_iload 419 (gd rfl) rfl rfl ?_
                refine g_iaload 420 (gd rfl) rfl (n := 160) rfl (in_ix i351 rfl) (fun z419 e419 => ?_)
                have q419 : z377 = z419 := (sL_I (e377)).trans e419.symm
                subst q419
                refine g_iaload 421 (gd rfl) rfl (n := 32) rfl (in_ix i377 rfl) (fun z420 e420 => ?_)
                have i421 : In z420 0 31 := by have hE := (g348_2 y348_8.toNatClampNeg (by show _ ≤ ((y348_8.toInt.toNat : Nat) : Int); have a0 := j105_4; unfold In at a0; have a1 := j348_3; unfold In at a1; have a2 := i351a; unfold In at a2; have a3 := j105_1; unfold In at a3; have a4 := ro_109_20; unfold In at a4; have a5 := ro_109_19; unfold In at a5; have a6 := i351; unfold In at a6; have a7 := j348_7; unfold In at a7; have a8 := i360; unfold In at a8; omega) (by show ((y348_8.toInt.toNat : Nat) : Int) < _; have a0 := j105_4; unfold In at a0; have a1 := j348_3; unfold In at a1; have a2 := i351a; unfold In at a2; have a3 := j105_1; unfold In at a3; have a4 := ro_109_20; unfold In at a4; have a5 := ro_109_19; unfold In at a5; have a6 := i351; unfold In at a6; have a7 := j348_7; unfold In at a7; have a8 := i360; unfold In at a8; omega)).1; rw [← e377] at hE; have hR := g348_0 z377.toNatClampNeg (by show ((z377.toInt.toNat : Nat) : Int) < _; have hz := i377; unfold In at hz; omega); rw [show sc348.1 158 z377.toNatClampNeg = z420 from e420.symm] at hR; exact ⟨hR.1, by have a0 := j105_4; unfold In at a0; have a1 := j348_3; unfold In at a1; have a2 := i351a; unfold In at a2; have a3 := j105_1; unfold In at a3; have a4 := ro_109_20; unfold In at a4; have a5 := ro_109_19; unfold In at a5; have a6 := i351; unfold In at a6; have a7 := j348_7; unfold In at a7; have a8 := i360; unfold In at a8; omega⟩
                have hz420 : (z420).toInt < y348_7.toInt := (by have hE := (g348_2 y348_8.toNatClampNeg (by show _ ≤ ((y348_8.toInt.toNat : Nat) : Int); have a0 := j105_4; unfold In at a0; have a1 := j348_3; unfold In at a1; have a2 := i351a; unfold In at a2; have a3 := j105_1; unfold In at a3; have a4 := ro_109_20; unfold In at a4; have a5 := ro_109_19; unfold In at a5; have a6 := i351; unfold In at a6; have a7 := j348_7; unfold In at a7; have a8 := i360; unfold In at a8; omega) (by show ((y348_8.toInt.toNat : Nat) : Int) < _; have a0 := j105_4; unfold In at a0; have a1 := j348_3; unfold In at a1; have a2 := i351a; unfold In at a2; have a3 := j105_1; unfold In at a3; have a4 := ro_109_20; unfold In at a4; have a5 := ro_109_19; unfold In at a5; have a6 := i351; unfold In at a6; have a7 := j348_7; unfold In at a7; have a8 := i360; unfold In at a8; omega)).1; rw [← e377] at hE; have hR := g348_0 z377.toNatClampNeg (by show ((z377.toInt.toNat : Nat) : Int) < _; have hz := i377; unfold In at hz; omega); rw [show sc348.1 158 z377.toNatClampNeg = z420 from e420.symm] at hR; exact hR.2)
                refine g_iastore 422 (gd rfl) rfl (n := 160) rfl (in_ix i351 rfl) ?_
                have hI421 := inv_sI (q := 153) (j := y348_8.toNatClampNeg) hI402 rfl (in_w 0 31 i421 rfl)
                refine g_aload_n 423 (gd rfl) rfl rfl ?_
                refine g_getA (q2 := 154) 426 (gd rfl) rfl rfl rfl rfl ?_
                refine g_iload 428 (gd rfl) rfl rfl ?_
                refine g_aload_n 429 (gd rfl) rfl rfl ?_
                refine g_getA (q2 := 158) 432 (gd rfl) rfl rfl rfl rfl ?_
                refine g_iload 434 (gd rfl) rfl rfl ?_
                refine g_iaload 435 (gd rfl) rfl (n := 32) rfl (in_ix i360 rfl) (fun z434 e434 => ?_)
                have i435 : In z434 0 31 := by have hE := (g348_2 y348_8.toNatClampNeg (by show _ ≤ ((y348_8.toInt.toNat : Nat) : Int); have a0 := j105_4; unfold In at a0; have a1 := j348_3; unfold In at a1; have a2 := i351a; unfold In at a2; have a3 := j105_1; unfold In at a3; have a4 := ro_109_20; unfold In at a4; have a5 := ro_109_19; unfold In at a5; have a6 := i351; unfold In at a6; have a7 := j348_7; unfold In at a7; have a8 := i360; unfold In at a8; omega) (by show ((y348_8.toInt.toNat : Nat) : Int) < _; have a0 := j105_4; unfold In at a0; have a1 := j348_3; unfold In at a1; have a2 := i351a; unfold In at a2; have a3 := j105_1; unfold In at a3; have a4 := ro_109_20; unfold In at a4; have a5 := ro_109_19; unfold In at a5; have a6 := i351; unfold In at a6; have a7 := j348_7; unfold In at a7; have a8 := i360; unfold In at a8; omega)).2; rw [← e360] at hE; have hR := g348_0 z360.toNatClampNeg (by show ((z360.toInt.toNat : Nat) : Int) < _; have hz := i360; unfold In at hz; omega); rw [show sc348.1 158 z360.toNatClampNeg = z434 from (by have h := e434; rw [sI_p rfl] at h; exact h.symm)] at hR; exact ⟨hR.1, by have a0 := j105_4; unfold In at a0; have a1 := j348_3; unfold In at a1; have a2 := i351a; unfold In at a2; have a3 := j105_1; unfold In at a3; have a4 := ro_109_20; unfold In at a4; have a5 := ro_109_19; unfold In at a5; have a6 := i351; unfold In at a6; have a7 := j348_7; unfold In at a7; have a8 := i360; unfold In at a8; omega⟩
                have hz434 : (z434).toInt < y348_7.toInt := (by have hE := (g348_2 y348_8.toNatClampNeg (by show _ ≤ ((y348_8.toInt.toNat : Nat) : Int); have a0 := j105_4; unfold In at a0; have a1 := j348_3; unfold In at a1; have a2 := i351a; unfold In at a2; have a3 := j105_1; unfold In at a3; have a4 := ro_109_20; unfold In at a4; have a5 := ro_109_19; unfold In at a5; have a6 := i351; unfold In at a6; have a7 := j348_7; unfold In at a7; have a8 := i360; unfold In at a8; omega) (by show ((y348_8.toInt.toNat : Nat) : Int) < _; have a0 := j105_4; unfold In at a0; have a1 := j348_3; unfold In at a1; have a2 := i351a; unfold In at a2; have a3 := j105_1; unfold In at a3; have a4 := ro_109_20; unfold In at a4; have a5 := ro_109_19; unfold In at a5; have a6 := i351; unfold In at a6; have a7 := j348_7; unfold In at a7; have a8 := i360; unfold In at a8; omega)).2; rw [← e360] at hE; have hR := g348_0 z360.toNatClampNeg (by show ((z360.toInt.toNat : Nat) : Int) < _; have hz := i360; unfold In at hz; omega); rw [show sc348.1 158 z360.toNatClampNeg = z434 from (by have h := e434; rw [sI_p rfl] at h; exact h.symm)] at hR; exact hR.2)
                refine g_iastore 436 (gd rfl) rfl (n := 160) rfl (in_ix i351 rfl) ?_
                have hI435 := inv_sI (q := 154) (j := y348_8.toNatClampNeg) hI421 rfl (in_w 0 31 i435 rfl)
                refine g_iinc 439 (gd rfl) rfl rfl (Nat.le_of_ble_eq_true rfl) (fun z436 e436 => ?_)
                have i436 := in_add 1 160 e436 i351 (in_c 1 rfl) rfl rfl
                refine g_goto 348 (gd rfl) rfl ?_
                have n348 : (y105_4).toInt < (y105_3).toInt := by have a0 := j105_4; unfold In at a0; have a1 := j348_3; unfold In at a1; have a2 := i351a; unfold In at a2; have a3 := j105_1; unfold In at a3; have a4 := ro_109_20; unfold In at a4; have a5 := ro_109_19; unfold In at a5; have a6 := i351; unfold In at a6; have a7 := j348_7; unfold In at a7; have a8 := i360; unfold In at a8; have a9 := i436; unfold In at a9; have a10 := t_add e436 i351 (in_c 1 rfl) rfl; have a11 := (in_c 1 rfl); unfold In at a11; omega
                have n348a : 0 ≤ (y105_4).toInt := by have a0 := j105_4; unfold In at a0; have a1 := j348_3; unfold In at a1; have a2 := i351a; unfold In at a2; have a3 := j105_1; unfold In at a3; have a4 := ro_109_20; unfold In at a4; have a5 := ro_109_19; unfold In at a5; have a6 := i351; unfold In at a6; have a7 := j348_7; unfold In at a7; have a8 := i360; unfold In at a8; have a9 := i436; unfold In at a9; have a10 := t_add e436 i351 (in_c 1 rfl) rfl; have a11 := (in_c 1 rfl); unfold In at a11; omega
                have n348b : 0 ≤ (y105_2).toInt := by have a0 := j105_4; unfold In at a0; have a1 := j348_3; unfold In at a1; have a2 := i351a; unfold In at a2; have a3 := j105_1; unfold In at a3; have a4 := ro_109_20; unfold In at a4; have a5 := ro_109_19; unfold In at a5; have a6 := i351; unfold In at a6; have a7 := j348_7; unfold In at a7; have a8 := i360; unfold In at a8; have a9 := i436; unfold In at a9; have a10 := t_add e436 i351 (in_c 1 rfl) rfl; have a11 := (in_c 1 rfl); unfold In at a11; omega
                have n348c : (y348_7).toInt < (y105_3).toInt := by have a0 := j105_4; unfold In at a0; have a1 := j348_3; unfold In at a1; have a2 := i351a; unfold In at a2; have a3 := j105_1; unfold In at a3; have a4 := ro_109_20; unfold In at a4; have a5 := ro_109_19; unfold In at a5; have a6 := i351; unfold In at a6; have a7 := j348_7; unfold In at a7; have a8 := i360; unfold In at a8; have a9 := i436; unfold In at a9; have a10 := t_add e436 i351 (in_c 1 rfl) rfl; have a11 := (in_c 1 rfl); unfold In at a11; omega
                have n348d : ∀ k : Nat, (k : Int) < (y105_3).toInt → 0 ≤ ((sI (sI (sL sc348 155 y348_8.toNatClampNeg z401) 153 y348_8.toNatClampNeg z420) 154 y348_8.toNatClampNeg z434).1 158 k).toInt ∧ ((sI (sI (sL sc348 155 y348_8.toNatClampNeg z401) 153 y348_8.toNatClampNeg z420) 154 y348_8.toNatClampNeg z434).1 158 k).toInt < (y348_7).toInt := by first | exact p331b | (intro k hk; rw [sI_p rfl, sI_p rfl]; exact g348_0 k hk)
                have n348e : EE (sI (sI (sL sc348 155 y348_8.toNatClampNeg z401) 153 y348_8.toNatClampNeg z420) 154 y348_8.toNatClampNeg z434) (z436).toInt (y348_7).toInt := by first | exact ee_s g348_1 (y := y348_8) (z := z420) (w := z434) (by simp [sL, sI]) (by simp [sL, sI]) (by have a0 := j105_4; unfold In at a0; have a1 := j348_3; unfold In at a1; have a2 := i351a; unfold In at a2; have a3 := j105_1; unfold In at a3; have a4 := ro_109_20; unfold In at a4; have a5 := ro_109_19; unfold In at a5; have a6 := i351; unfold In at a6; have a7 := j348_7; unfold In at a7; have a8 := i360; unfold In at a8; have a9 := i436; unfold In at a9; have a10 := t_add e436 i351 (in_c 1 rfl) rfl; have a11 := (in_c 1 rfl); unfold In at a11; omega) rfl hz420 hz434 (by have a0 := j105_4; unfold In at a0; have a1 := j348_3; unfold In at a1; have a2 := i351a; unfold In at a2; have a3 := j105_1; unfold In at a3; have a4 := ro_109_20; unfold In at a4; have a5 := ro_109_19; unfold In at a5; have a6 := i351; unfold In at a6; have a7 := j348_7; unfold In at a7; have a8 := i360; unfold In at a8; have a9 := i436; unfold In at a9; have a10 := t_add e436 i351 (in_c 1 rfl) rfl; have a11 := (in_c 1 rfl); unfold In at a11; omega) | exact ee_0 (by decide)
                have n348f : ∀ e : Nat, (z436).toInt ≤ (e : Int) → (e : Int) < (y105_2).toInt → ((sI (sI (sL sc348 155 y348_8.toNatClampNeg z401) 153 y348_8.toNatClampNeg z420) 154 y348_8.toNatClampNeg z434).1 153 e).toInt < (y105_3).toInt ∧ ((sI (sI (sL sc348 155 y348_8.toNatClampNeg z401) 153 y348_8.toNatClampNeg z420) 154 y348_8.toNatClampNeg z434).1 154 e).toInt < (y105_3).toInt := by first | (intro e h1 h2; rw [hF331.1 153 rfl, hF331.1 154 rfl]; exact g252_0 e h2) | (intro e h1 h2; have q1 : ((sI (sI (sL sc348 155 y348_8.toNatClampNeg z401) 153 y348_8.toNatClampNeg z420) 154 y348_8.toNatClampNeg z434)).1 153 = upd (sc348.1 153) y348_8.toNatClampNeg z420 := (by simp [sL, sI]); have q2 : ((sI (sI (sL sc348 155 y348_8.toNatClampNeg z401) 153 y348_8.toNatClampNeg z420) 154 y348_8.toNatClampNeg z434)).1 154 = upd (sc348.1 154) y348_8.toNatClampNeg z434 := (by simp [sL, sI]); have e8 : y348_8.toNatClampNeg = y348_8.toInt.toNat := rfl; have hne : e ≠ y348_8.toNatClampNeg := (by have a0 := j105_4; unfold In at a0; have a1 := j348_3; unfold In at a1; have a2 := i351a; unfold In at a2; have a3 := j105_1; unfold In at a3; have a4 := ro_109_20; unfold In at a4; have a5 := ro_109_19; unfold In at a5; have a6 := i351; unfold In at a6; have a7 := j348_7; unfold In at a7; have a8 := i360; unfold In at a8; have a9 := i436; unfold In at a9; have a10 := t_add e436 i351 (in_c 1 rfl) rfl; have a11 := (in_c 1 rfl); unfold In at a11; omega); rw [q1, q2]; unfold upd; rw [if_neg hne, if_neg hne]; exact g348_2 e (by have a0 := j105_4; unfold In at a0; have a1 := j348_3; unfold In at a1; have a2 := i351a; unfold In at a2; have a3 := j105_1; unfold In at a3; have a4 := ro_109_20; unfold In at a4; have a5 := ro_109_19; unfold In at a5; have a6 := i351; unfold In at a6; have a7 := j348_7; unfold In at a7; have a8 := i360; unfold In at a8; have a9 := i436; unfold In at a9; have a10 := t_add e436 i351 (in_c 1 rfl) rfl; have a11 := (in_c 1 rfl); unfold In at a11; omega) h2)
                exact gg_w (by omega) (gg_f (gf_cons rfl (gf_cons rfl (gf_cons rfl (gf_cons rfl (gf_cons rfl (gf_cons rfl (gf_cons rfl (gf_cons rfl gf_nil)))))))) (ih348 (sI (sI (sL sc348 155 y348_8.toNatClampNeg z401) 153 y348_8.toNatClampNeg z420) 154 y348_8.toNatClampNeg z434) y348_5 y348_7 z436 hI435 (fr_sI rfl (fr_sI rfl (fr_sL rfl hFc348))) (in_w 2 32 j348_3 rfl) (in_w 0 32 j348_7 rfl) (in_w 0 160 i436 rfl) n348 n348a n348b n348c n348d n348e n348f (m_up mm348 (t_add e436 i351 (in_c 1 rfl) rfl) (in_w 1 1 (in_c 1 rfl) rfl))))
      have ct252 : ∀ (k252 : Nat) (sc252 : GS) (y252_5 : Int64) (y252_7 : Int32), Inv sc252 → Fr fm_363 s sc252 → (In y105_3 2 32) → (In y252_7 0 32) → ((y105_4).toInt < (y105_3).toInt) → (0 ≤ (y105_4).toInt) → (0 ≤ (y105_2).toInt) → (EE sc252 (y105_2).toInt (y105_3).toInt) → (∀ v : Nat, (v : Int) < (y105_3).toInt → (sc252.1 157 v).toInt < (y105_2).toInt) → (∀ v : Nat, (v : Int) < (y252_7).toInt → (v : Int) ≠ (y105_4).toInt → 0 ≤ (sc252.1 157 v).toInt) → 32 - (y252_7).toInt < (k252 : Int) → GG Z (d - 1) 363 post (gx xp) (1 + k105 * 357304 + 144902 + k252 * 900) 252 (fun j => xlook j [(0, .ref (A 109)), (1, .int x1), (2, .int y105_2), (3, .int y105_3), (4, .int y105_4), (5, .long y252_5), (7, .int y252_7)]) [] (WW Z A sc252 ++ ex) 0 0 := by
        intro k252
        induction k252 with
        | zero => intro sc252 y252_5 y252_7 hIc252 hFc252 j252_3 j252_7 n252_0 n252_1 n252_2 g252_0 g252_1 g252_2 mm252; exact m_no mm252 j252_7 rfl
        | succ k252 ih252 =>
          intro sc252 y252_5 y252_7 hIc252 hFc252 j252_3 j252_7 n252_0 n252_1 n252_2 g252_0 g252_1 g252_2 mm252
          refine gg_w (M := 1 + k105 * 357304 + 144902 + k252 * 900 + 900) (by omega) ?_
          refine g_iload 254 (gd rfl) rfl rfl ?_
          refine g_iload_n 255 (gd rfl) rfl rfl ?_
          refine g_cmp_ge 258 327 (gd rfl) rfl rfl (fun c255 => ?_) (fun c255 => ?_)
          · skip
            have i255 := r_le2 2 32 c255 j252_3 j252_7 rfl
            refine g_aload_n 328 (gd rfl) rfl rfl ?_
            refine g_iload_n 329 (gd rfl) rfl rfl ?_
            refine g_iload 331 (gd rfl) rfl rfl ?_
            have p331 : TP sc252 (y105_3).toInt (y105_4).toInt := by intro v hv hne; have h1 := g252_2 v (by have a0 := j105_4; unfold In at a0; have a1 := j252_3; unfold In at a1; have a2 := j105_2; unfold In at a2; have a3 := j105_1; unfold In at a3; have a4 := ro_109_20; unfold In at a4; have a5 := ro_109_19; unfold In at a5; have a6 := i255; unfold In at a6; omega) hne; have h2 := g252_1 v hv; exact ⟨h1, (g252_0 (sc252.1 157 v).toNatClampNeg (by show (((sc252.1 157 v).toInt.toNat : Nat) : Int) < _; omega)).1⟩
            refine g_callv (X := _) (As := [.int y105_3, .int y105_4]) (r := []) (b := A 109) (q := 109) 334 (gd rfl) rfl rfl rfl rfl rfl (ww_o rfl) (Nat.le_of_ble_eq_true rfl) (Nat.zero_le _) (Nat.zero_le _) (k_364 (by omega) hIc252 (in_w 1 32 j252_3 rfl) (in_w 0 31 j105_4 rfl) p331) (fun e u h => h) (fun v u h => ?_)
            obtain ⟨s331, hI331, hF331, z331, rfl, rfl, i331, p331a, p331b⟩ := h
            show GG _ _ _ _ _ _ _ _ [.int z331] _ _ _
            refine g_istore 336 (gd rfl) rfl (Nat.le_of_ble_eq_true rfl) ?_
            refine g_iload 338 (gd rfl) rfl rfl ?_
            refine g_iload_n 339 (gd rfl) rfl rfl ?_
            refine g_cmp_ne 342 345 (gd rfl) rfl rfl (fun c339 => ?_) (fun c339 => ?_)
            · skip
              refine g_iconst 0 346 (gd rfl) rfl rfl ?_
              refine g_istore 348 (gd rfl) rfl (Nat.le_of_ble_eq_true rfl) ?_
              have n348 : (y105_4).toInt < (y105_3).toInt := by have a0 := j105_4; unfold In at a0; have a1 := j252_3; unfold In at a1; have a2 := j105_2; unfold In at a2; have a3 := j105_1; unfold In at a3; have a4 := ro_109_20; unfold In at a4; have a5 := ro_109_19; unfold In at a5; have a6 := i255; unfold In at a6; have a7 := (in_c 0 rfl); unfold In at a7; have a8 := i331; unfold In at a8; omega
              have n348a : 0 ≤ (y105_4).toInt := by have a0 := j105_4; unfold In at a0; have a1 := j252_3; unfold In at a1; have a2 := j105_2; unfold In at a2; have a3 := j105_1; unfold In at a3; have a4 := ro_109_20; unfold In at a4; have a5 := ro_109_19; unfold In at a5; have a6 := i255; unfold In at a6; have a7 := (in_c 0 rfl); unfold In at a7; have a8 := i331; unfold In at a8; omega
              have n348b : 0 ≤ (y105_2).toInt := by have a0 := j105_4; unfold In at a0; have a1 := j252_3; unfold In at a1; have a2 := j105_2; unfold In at a2; have a3 := j105_1; unfold In at a3; have a4 := ro_109_20; unfold In at a4; have a5 := ro_109_19; unfold In at a5; have a6 := i255; unfold In at a6; have a7 := (in_c 0 rfl); unfold In at a7; have a8 := i331; unfold In at a8; omega
              have n348c : (z331).toInt < (y105_3).toInt := by have a0 := j105_4; unfold In at a0; have a1 := j252_3; unfold In at a1; have a2 := j105_2; unfold In at a2; have a3 := j105_1; unfold In at a3; have a4 := ro_109_20; unfold In at a4; have a5 := ro_109_19; unfold In at a5; have a6 := i255; unfold In at a6; have a7 := (in_c 0 rfl); unfold In at a7; have a8 := i331; unfold In at a8; omega
              have n348d : ∀ k : Nat, (k : Int) < (y105_3).toInt → 0 ≤ (s331.1 158 k).toInt ∧ (s331.1 158 k).toInt < (z331).toInt := by first | exact p331b | (intro k hk; rw [sI_p rfl, sI_p rfl]; exact g348_0 k hk)
              have n348e : EE s331 ((Int32.ofInt 0)).toInt (z331).toInt := by first | exact ee_s g348_1 (y := y348_8) (z := z420) (w := z434) (by simp [sL, sI]) (by simp [sL, sI]) (by have a0 := j105_4; unfold In at a0; have a1 := j252_3; unfold In at a1; have a2 := j105_2; unfold In at a2; have a3 := j105_1; unfold In at a3; have a4 := ro_109_20; unfold In at a4; have a5 := ro_109_19; unfold In at a5; have a6 := i255; unfold In at a6; have a7 := (in_c 0 rfl); unfold In at a7; have a8 := i331; unfold In at a8; omega) rfl hz420 hz434 (by have a0 := j105_4; unfold In at a0; have a1 := j252_3; unfold In at a1; have a2 := j105_2; unfold In at a2; have a3 := j105_1; unfold In at a3; have a4 := ro_109_20; unfold In at a4; have a5 := ro_109_19; unfold In at a5; have a6 := i255; unfold In at a6; have a7 := (in_c 0 rfl); unfold In at a7; have a8 := i331; unfold In at a8; omega) | exact ee_0 (by decide)
              have n348f : ∀ e : Nat, ((Int32.ofInt 0)).toInt ≤ (e : Int) → (e : Int) < (y105_2).toInt → (s331.1 153 e).toInt < (y105_3).toInt ∧ (s331.1 154 e).toInt < (y105_3).toInt := by first | (intro e h1 h2; rw [hF331.1 153 rfl, hF331.1 154 rfl]; exact g252_0 e h2) | (intro e h1 h2; have q1 : (s331).1 153 = upd (sc348.1 153) y348_8.toNatClampNeg z420 := (by simp [sL, sI]); have q2 : (s331).1 154 = upd (sc348.1 154) y348_8.toNatClampNeg z434 := (by simp [sL, sI]); have e8 : y348_8.toNatClampNeg = y348_8.toInt.toNat := rfl; have hne : e ≠ y348_8.toNatClampNeg := (by have a0 := j105_4; unfold In at a0; have a1 := j252_3; unfold In at a1; have a2 := j105_2; unfold In at a2; have a3 := j105_1; unfold In at a3; have a4 := ro_109_20; unfold In at a4; have a5 := ro_109_19; unfold In at a5; have a6 := i255; unfold In at a6; have a7 := (in_c 0 rfl); unfold In at a7; have a8 := i331; unfold In at a8; omega); rw [q1, q2]; unfold upd; rw [if_neg hne, if_neg hne]; exact g348_2 e (by have a0 := j105_4; unfold In at a0; have a1 := j252_3; unfold In at a1; have a2 := j105_2; unfold In at a2; have a3 := j105_1; unfold In at a3; have a4 := ro_109_20; unfold In at a4; have a5 := ro_109_19; unfold In at a5; have a6 := i255; unfold In at a6; have a7 := (in_c 0 rfl); unfold In at a7; have a8 := i331; unfold In at a8; omega) h2)
              exact gg_w (by omega) (gg_f (gf_cons rfl (gf_cons rfl (gf_cons rfl (gf_cons rfl (gf_cons rfl (gf_cons rfl (gf_cons rfl (gf_cons rfl gf_nil)))))))) (ct348 161 s331 y252_5 z331 (Int32.ofInt 0) hI331 (fr_tr rfl hFc252 hF331) (in_w 2 32 j252_3 rfl) (in_w 0 32 i331 rfl) (in_w 0 160 (in_c 0 rfl) rfl) n348 n348a n348b n348c n348d n348e n348f (m_in 161 (in_w 0 160 (in_c 0 rfl) rfl) rfl)))
            · skip
              have i339 := r_eq1 2 32 c339 i331 j252_3 rfl
              refine g_lload 344 (gd rfl) rfl rfl ?_
              exact g_lreturn (gd rfl) rfl (hP _ _ ⟨s331, hI331, (fr_tr rfl hFc252 hF331), y252_5, rfl, rfl⟩)
          · skip
            have i255 := r_lt1 0 31 c255 j252_7 j252_3 rfl
            refine g_iload 260 (gd rfl) rfl rfl ?_
            refine g_iload 262 (gd rfl) rfl rfl ?_
            refine g_cmp_eq 265 279 (gd rfl) rfl rfl (fun c262 => ?_) (fun c262 => ?_)
            · skip
              refine g_aload_n 280 (gd rfl) rfl rfl ?_
              refine g_getA (q2 := 156) 283 (gd rfl) rfl rfl rfl rfl ?_
              refine g_iload 285 (gd rfl) rfl rfl ?_
              refine g_iload 287 (gd rfl) rfl rfl ?_
              refine g_iload 289 (gd rfl) rfl rfl ?_
              refine g_cmp_ne 292 296 (gd rfl) rfl rfl (fun c289 => ?_) (fun c289 => ?_)
              · skip
                refine g_aload_n 297 (gd rfl) rfl rfl ?_
                refine g_getA (q2 := 155) 300 (gd rfl) rfl rfl rfl rfl ?_
                refine g_aload_n 301 (gd rfl) rfl rfl ?_
                refine g_getA (q2 := 157) 304 (gd rfl) rfl rfl rfl rfl ?_
                refine g_iload 306 (gd rfl) rfl rfl ?_
                refine g_iaload 307 (gd rfl) rfl (n := 32) rfl (in_ix i255 rfl) (fun z306 e306 => ?_)
                have i306 := inv_I hIc252 (n := 32) (t := 0) (-1) 159 rfl (in_ix i255 rfl) rfl e306
                have i307 : In z306 0 159 := by first | (exfalso; have a0 := j105_4; unfold In at a0; have a1 := j252_3; unfold In at a1; have a2 := j105_2; unfold In at a2; have a3 := j105_1; unfold In at a3; have a4 := ro_109_20; unfold In at a4; have a5 := ro_109_19; unfold In at a5; have a6 := i255; unfold In at a6; omega) | exact ⟨by have a0 := j105_4; unfold In at a0; have a1 := j252_3; unfold In at a1; have a2 := j105_2; unfold In at a2; have a3 := j105_1; unfold In at a3; have a4 := ro_109_20; unfold In at a4; have a5 := ro_109_19; unfold In at a5; have a6 := i255; unfold In at a6; omega, by have a0 := j105_4; unfold In at a0; have a1 := j252_3; unfold In at a1; have a2 := j105_2; unfold In at a2; have a3 := j105_1; unfold In at a3; have a4 := ro_109_20; unfold In at a4; have a5 := ro_109_19; unfold In at a5; have a6 := i255; unfold In at a6; omega⟩
                refine g_laload 308 (gd rfl) rfl (n := 160) rfl (in_ix i307 rfl) (fun z307 e307 => ?_)
                refine g_lastore 309 (gd rfl) rfl (n := 32) rfl (in_ix i255 rfl) ?_
                have hI308 := inv_sL (q := 156) (j := y252_7.toNatClampNeg) (x := z307) hIc252 rfl (l_rng z307)
                refine g_lload 311 (gd rfl) rfl rfl ?_
                refine g_aload_n 312 (gd rfl) rfl rfl ?_
                refine g_getA (q2 := 156) 315 (gd rfl) rfl rfl rfl rfl ?_
                refine g_iload 317 (gd rfl) rfl rfl ?_
                refine g_laload 318 (gd rfl) rfl (n := 32) rfl (in_ix i255 rfl) (fun z317 e317 => ?_)
                refine g_ladd 319 (gd rfl) rfl (fun z318 e318 => ?_)
                refine g_lstore 321 (gd rfl) rfl (Nat.le_of_ble_eq_true rfl) ?_
                refine g_iinc 324 (gd rfl) rfl rfl (Nat.le_of_ble_eq_true rfl) (fun z321 e321 => ?_)
                have i321 := in_add 1 32 e321 i255 (in_c 1 rfl) rfl rfl
                refine g_goto 252 (gd rfl) rfl ?_
                have n252 : (y105_4).toInt < (y105_3).toInt := by have a0 := j105_4; unfold In at a0; have a1 := j252_3; unfold In at a1; have a2 := j105_2; unfold In at a2; have a3 := j105_1; unfold In at a3; have a4 := ro_109_20; unfold In at a4; have a5 := ro_109_19; unfold In at a5; have a6 := i255; unfold In at a6; have a7 := i321; unfold In at a7; have a8 := t_add e321 i255 (in_c 1 rfl) rfl; have a9 := (in_c 1 rfl); unfold In at a9; omega
                have n252a : 0 ≤ (y105_4).toInt := by have a0 := j105_4; unfold In at a0; have a1 := j252_3; unfold In at a1; have a2 := j105_2; unfold In at a2; have a3 := j105_1; unfold In at a3; have a4 := ro_109_20; unfold In at a4; have a5 := ro_109_19; unfold In at a5; have a6 := i255; unfold In at a6; have a7 := i321; unfold In at a7; have a8 := t_add e321 i255 (in_c 1 rfl) rfl; have a9 := (in_c 1 rfl); unfold In at a9; omega
                have n252b : 0 ≤ (y105_2).toInt := by have a0 := j105_4; unfold In at a0; have a1 := j252_3; unfold In at a1; have a2 := j105_2; unfold In at a2; have a3 := j105_1; unfold In at a3; have a4 := ro_109_20; unfold In at a4; have a5 := ro_109_19; unfold In at a5; have a6 := i255; unfold In at a6; have a7 := i321; unfold In at a7; have a8 := t_add e321 i255 (in_c 1 rfl) rfl; have a9 := (in_c 1 rfl); unfold In at a9; omega
                have n252c : EE (sL sc252 156 y252_7.toNatClampNeg z307) (y105_2).toInt (y105_3).toInt := by first | exact g136_0 | exact ee_cg g252_0 rfl rfl
                have n252d : ∀ v : Nat, (v : Int) < (y105_3).toInt → ((sL sc252 156 y252_7.toNatClampNeg z307).1 157 v).toInt < (y105_2).toInt := by first | exact g136_1 | exact g252_1
                have n252e : ∀ v : Nat, (v : Int) < (z321).toInt → (v : Int) ≠ (y105_4).toInt → 0 ≤ ((sL sc252 156 y252_7.toNatClampNeg z307).1 157 v).toInt := by first | (intro v hv; exfalso; have h0 : (Int32.ofInt 0).toInt = 0 := rfl; omega) | (intro v hv hne; by_cases c : (v : Int) < y252_7.toInt; exact g252_2 v c hne; (have ev : v = y252_7.toNatClampNeg := (by show v = y252_7.toInt.toNat; have a0 := j105_4; unfold In at a0; have a1 := j252_3; unfold In at a1; have a2 := j105_2; unfold In at a2; have a3 := j105_1; unfold In at a3; have a4 := ro_109_20; unfold In at a4; have a5 := ro_109_19; unfold In at a5; have a6 := i255; unfold In at a6; have a7 := i321; unfold In at a7; have a8 := t_add e321 i255 (in_c 1 rfl) rfl; have a9 := (in_c 1 rfl); unfold In at a9; omega); first | (exfalso; have a0 := j105_4; unfold In at a0; have a1 := j252_3; unfold In at a1; have a2 := j105_2; unfold In at a2; have a3 := j105_1; unfold In at a3; have a4 := ro_109_20; unfold In at a4; have a5 := ro_109_19; unfold In at a5; have a6 := i255; unfold In at a6; have a7 := i321; unfold In at a7; have a8 := t_add e321 i255 (in_c 1 rfl) rfl; have a9 := (in_c 1 rfl); unfold In at a9; omega) | (show 0 ≤ (sc252.1 157 v).toInt; rw [ev, ← e271]; exact i272.1)))
                exact gg_w (by omega) (gg_f (gf_cons rfl (gf_cons rfl (gf_cons rfl (gf_cons rfl (gf_cons rfl (gf_cons rfl (gf_cons rfl gf_nil))))))) (ih252 (sL sc252 156 y252_7.toNatClampNeg z307) z318 z321 hI308 (fr_sL rfl hFc252) (in_w 2 32 j252_3 rfl) (in_w 0 32 i321 rfl) n252 n252a n252b n252c n252d n252e (m_up mm252 (t_add e321 i255 (in_c 1 rfl) rfl) (in_w 1 1 (in_c 1 rfl) rfl))))
              · skip
                refine g_lconst 0 293 (gd rfl) rfl rfl ?_
                refine g_goto 308 (gd rfl) rfl ?_
                refine g_lastore 309 (gd rfl) rfl (n := 32) rfl (in_ix i255 rfl) ?_
                have hI308 := inv_sL (q := 156) (j := y252_7.toNatClampNeg) (x := (Int64.ofInt 0)) hIc252 rfl (l_rng (Int64.ofInt 0))
                refine g_lload 311 (gd rfl) rfl rfl ?_
                refine g_aload_n 312 (gd rfl) rfl rfl ?_
                refine g_getA (q2 := 156) 315 (gd rfl) rfl rfl rfl rfl ?_
                refine g_iload 317 (gd rfl) rfl rfl ?_
                refine g_laload 318 (gd rfl) rfl (n := 32) rfl (in_ix i255 rfl) (fun z317 e317 => ?_)
                refine g_ladd 319 (gd rfl) rfl (fun z318 e318 => ?_)
                refine g_lstore 321 (gd rfl) rfl (Nat.le_of_ble_eq_true rfl) ?_
                refine g_iinc 324 (gd rfl) rfl rfl (Nat.le_of_ble_eq_true rfl) (fun z321 e321 => ?_)
                have i321 := in_add 1 32 e321 i255 (in_c 1 rfl) rfl rfl
                refine g_goto 252 (gd rfl) rfl ?_
                have n252 : (y105_4).toInt < (y105_3).toInt := by have a0 := j105_4; unfold In at a0; have a1 := j252_3; unfold In at a1; have a2 := j105_2; unfold In at a2; have a3 := j105_1; unfold In at a3; have a4 := ro_109_20; unfold In at a4; have a5 := ro_109_19; unfold In at a5; have a6 := i255; unfold In at a6; have a7 := i321; unfold In at a7; have a8 := t_add e321 i255 (in_c 1 rfl) rfl; have a9 := (in_c 1 rfl); unfold In at a9; omega
                have n252a : 0 ≤ (y105_4).toInt := by have a0 := j105_4; unfold In at a0; have a1 := j252_3; unfold In at a1; have a2 := j105_2; unfold In at a2; have a3 := j105_1; unfold In at a3; have a4 := ro_109_20; unfold In at a4; have a5 := ro_109_19; unfold In at a5; have a6 := i255; unfold In at a6; have a7 := i321; unfold In at a7; have a8 := t_add e321 i255 (in_c 1 rfl) rfl; have a9 := (in_c 1 rfl); unfold In at a9; omega
                have n252b : 0 ≤ (y105_2).toInt := by have a0 := j105_4; unfold In at a0; have a1 := j252_3; unfold In at a1; have a2 := j105_2; unfold In at a2; have a3 := j105_1; unfold In at a3; have a4 := ro_109_20; unfold In at a4; have a5 := ro_109_19; unfold In at a5; have a6 := i255; unfold In at a6; have a7 := i321; unfold In at a7; have a8 := t_add e321 i255 (in_c 1 rfl) rfl; have a9 := (in_c 1 rfl); unfold In at a9; omega
                have n252c : EE (sL sc252 156 y252_7.toNatClampNeg (Int64.ofInt 0)) (y105_2).toInt (y105_3).toInt := by first | exact g136_0 | exact ee_cg g252_0 rfl rfl
                have n252d : ∀ v : Nat, (v : Int) < (y105_3).toInt → ((sL sc252 156 y252_7.toNatClampNeg (Int64.ofInt 0)).1 157 v).toInt < (y105_2).toInt := by first | exact g136_1 | exact g252_1
                have n252e : ∀ v : Nat, (v : Int) < (z321).toInt → (v : Int) ≠ (y105_4).toInt → 0 ≤ ((sL sc252 156 y252_7.toNatClampNeg (Int64.ofInt 0)).1 157 v).toInt := by first | (intro v hv; exfalso; have h0 : (Int32.ofInt 0).toInt = 0 := rfl; omega) | (intro v hv hne; by_cases c : (v : Int) < y252_7.toInt; exact g252_2 v c hne; (have ev : v = y252_7.toNatClampNeg := (by show v = y252_7.toInt.toNat; have a0 := j105_4; unfold In at a0; have a1 := j252_3; unfold In at a1; have a2 := j105_2; unfold In at a2; have a3 := j105_1; unfold In at a3; have a4 := ro_109_20; unfold In at a4; have a5 := ro_109_19; unfold In at a5; have a6 := i255; unfold In at a6; have a7 := i321; unfold In at a7; have a8 := t_add e321 i255 (in_c 1 rfl) rfl; have a9 := (in_c 1 rfl); unfold In at a9; omega); first | (exfalso; have a0 := j105_4; unfold In at a0; have a1 := j252_3; unfold In at a1; have a2 := j105_2; unfold In at a2; have a3 := j105_1; unfold In at a3; have a4 := ro_109_20; unfold In at a4; have a5 := ro_109_19; unfold In at a5; have a6 := i255; unfold In at a6; have a7 := i321; unfold In at a7; have a8 := t_add e321 i255 (in_c 1 rfl) rfl; have a9 := (in_c 1 rfl); unfold In at a9; omega) | (show 0 ≤ (sc252.1 157 v).toInt; rw [ev, ← e271]; exact i272.1)))
                exact gg_w (by omega) (gg_f (gf_cons rfl (gf_cons rfl (gf_cons rfl (gf_cons rfl (gf_cons rfl (gf_cons rfl (gf_cons rfl gf_nil))))))) (ih252 (sL sc252 156 y252_7.toNatClampNeg (Int64.ofInt 0)) z318 z321 hI308 (fr_sL rfl hFc252) (in_w 2 32 j252_3 rfl) (in_w 0 32 i321 rfl) n252 n252a n252b n252c n252d n252e (m_up mm252 (t_add e321 i255 (in_c 1 rfl) rfl) (in_w 1 1 (in_c 1 rfl) rfl))))
            · skip
              refine g_aload_n 266 (gd rfl) rfl rfl ?_
              refine g_getA (q2 := 157) 269 (gd rfl) rfl rfl rfl rfl ?_
              refine g_iload 271 (gd rfl) rfl rfl ?_
              refine g_iaload 272 (gd rfl) rfl (n := 32) rfl (in_ix i255 rfl) (fun z271 e271 => ?_)
              have i271 := inv_I hIc252 (n := 32) (t := 0) (-1) 159 rfl (in_ix i255 rfl) rfl e271
              refine g_if_ge 275 279 (gd rfl) rfl rfl (fun c272 => ?_) (fun c272 => ?_)
              · skip
                have i272 := z_ge 0 159 c272 i271 rfl
                refine g_aload_n 280 (gd rfl) rfl rfl ?_
                refine g_getA (q2 := 156) 283 (gd rfl) rfl rfl rfl rfl ?_
                refine g_iload 285 (gd rfl) rfl rfl ?_
                refine g_iload 287 (gd rfl) rfl rfl ?_
                refine g_iload 289 (gd rfl) rfl rfl ?_
                refine g_cmp_ne 292 296 (gd rfl) rfl rfl (fun c289 => ?_) (fun c289 => ?_)
                · skip
                  refine g_aload_n 297 (gd rfl) rfl rfl ?_
                  refine g_getA (q2 := 155) 300 (gd rfl) rfl rfl rfl rfl ?_
                  refine g_aload_n 301 (gd rfl) rfl rfl ?_
                  refine g_getA (q2 := 157) 304 (gd rfl) rfl rfl rfl rfl ?_
                  refine g_iload 306 (gd rfl) rfl rfl ?_
                  refine g_iaload 307 (gd rfl) rfl (n := 32) rfl (in_ix i255 rfl) (fun z306 e306 => ?_)
                  have q306 : z271 = z306 := (e271).trans e306.symm
                  subst q306
                  refine g_laload 308 (gd rfl) rfl (n := 160) rfl (in_ix i272 rfl) (fun z307 e307 => ?_)
                  refine g_lastore 309 (gd rfl) rfl (n := 32) rfl (in_ix i255 rfl) ?_
                  have hI308 := inv_sL (q := 156) (j := y252_7.toNatClampNeg) (x := z307) hIc252 rfl (l_rng z307)
                  refine g_lload 311 (gd rfl) rfl rfl ?_
                  refine g_aload_n 312 (gd rfl) rfl rfl ?_
                  refine g_getA (q2 := 156) 315 (gd rfl) rfl rfl rfl rfl ?_
                  refine g_iload 317 (gd rfl) rfl rfl ?_
                  refine g_laload 318 (gd rfl) rfl (n := 32) rfl (in_ix i255 rfl) (fun z317 e317 => ?_)
                  refine g_ladd 319 (gd rfl) rfl (fun z318 e318 => ?_)
                  refine g_lstore 321 (gd rfl) rfl (Nat.le_of_ble_eq_true rfl) ?_
                  refine g_iinc 324 (gd rfl) rfl rfl (Nat.le_of_ble_eq_true rfl) (fun z321 e321 => ?_)
                  have i321 := in_add 1 32 e321 i255 (in_c 1 rfl) rfl rfl
                  refine g_goto 252 (gd rfl) rfl ?_
                  have n252 : (y105_4).toInt < (y105_3).toInt := by have a0 := j105_4; unfold In at a0; have a1 := j252_3; unfold In at a1; have a2 := j105_2; unfold In at a2; have a3 := j105_1; unfold In at a3; have a4 := ro_109_20; unfold In at a4; have a5 := ro_109_19; unfold In at a5; have a6 := i255; unfold In at a6; have a7 := i321; unfold In at a7; have a8 := t_add e321 i255 (in_c 1 rfl) rfl; have a9 := (in_c 1 rfl); unfold In at a9; omega
                  have n252a : 0 ≤ (y105_4).toInt := by have a0 := j105_4; unfold In at a0; have a1 := j252_3; unfold In at a1; have a2 := j105_2; unfold In at a2; have a3 := j105_1; unfold In at a3; have a4 := ro_109_20; unfold In at a4; have a5 := ro_109_19; unfold In at a5; have a6 := i255; unfold In at a6; have a7 := i321; unfold In at a7; have a8 := t_add e321 i255 (in_c 1 rfl) rfl; have a9 := (in_c 1 rfl); unfold In at a9; omega
                  have n252b : 0 ≤ (y105_2).toInt := by have a0 := j105_4; unfold In at a0; have a1 := j252_3; unfold In at a1; have a2 := j105_2; unfold In at a2; have a3 := j105_1; unfold In at a3; have a4 := ro_109_20; unfold In at a4; have a5 := ro_109_19; unfold In at a5; have a6 := i255; unfold In at a6; have a7 := i321; unfold In at a7; have a8 := t_add e321 i255 (in_c 1 rfl) rfl; have a9 := (in_c 1 rfl); unfold In at a9; omega
                  have n252c : EE (sL sc252 156 y252_7.toNatClampNeg z307) (y105_2).toInt (y105_3).toInt := by first | exact g136_0 | exact ee_cg g252_0 rfl rfl
                  have n252d : ∀ v : Nat, (v : Int) < (y105_3).toInt → ((sL sc252 156 y252_7.toNatClampNeg z307).1 157 v).toInt < (y105_2).toInt := by first | exact g136_1 | exact g252_1
                  have n252e : ∀ v : Nat, (v : Int) < (z321).toInt → (v : Int) ≠ (y105_4).toInt → 0 ≤ ((sL sc252 156 y252_7.toNatClampNeg z307).1 157 v).toInt := by first | (intro v hv; exfalso; have h0 : (Int32.ofInt 0).toInt = 0 := rfl; omega) | (intro v hv hne; by_cases c : (v : Int) < y252_7.toInt; exact g252_2 v c hne; (have ev : v = y252_7.toNatClampNeg := (by show v = y252_7.toInt.toNat; have a0 := j105_4; unfold In at a0; have a1 := j252_3; unfold In at a1; have a2 := j105_2; unfold In at a2; have a3 := j105_1; unfold In at a3; have a4 := ro_109_20; unfold In at a4; have a5 := ro_109_19; unfold In at a5; have a6 := i255; unfold In at a6; have a7 := i321; unfold In at a7; have a8 := t_add e321 i255 (in_c 1 rfl) rfl; have a9 := (in_c 1 rfl); unfold In at a9; omega); first | (exfalso; have a0 := j105_4; unfold In at a0; have a1 := j252_3; unfold In at a1; have a2 := j105_2; unfold In at a2; have a3 := j105_1; unfold In at a3; have a4 := ro_109_20; unfold In at a4; have a5 := ro_109_19; unfold In at a5; have a6 := i255; unfold In at a6; have a7 := i321; unfold In at a7; have a8 := t_add e321 i255 (in_c 1 rfl) rfl; have a9 := (in_c 1 rfl); unfold In at a9; omega) | (show 0 ≤ (sc252.1 157 v).toInt; rw [ev, ← e271]; exact i272.1)))
                  exact gg_w (by omega) (gg_f (gf_cons rfl (gf_cons rfl (gf_cons rfl (gf_cons rfl (gf_cons rfl (gf_cons rfl (gf_cons rfl gf_nil))))))) (ih252 (sL sc252 156 y252_7.toNatClampNeg z307) z318 z321 hI308 (fr_sL rfl hFc252) (in_w 2 32 j252_3 rfl) (in_w 0 32 i321 rfl) n252 n252a n252b n252c n252d n252e (m_up mm252 (t_add e321 i255 (in_c 1 rfl) rfl) (in_w 1 1 (in_c 1 rfl) rfl))))
                · skip
                  refine g_lconst 0 293 (gd rfl) rfl rfl ?_
                  refine g_goto 308 (gd rfl) rfl ?_
                  refine g_lastore 309 (gd rfl) rfl (n := 32) rfl (in_ix i255 rfl) ?_
                  have hI308 := inv_sL (q := 156) (j := y252_7.toNatClampNeg) (x := (Int64.ofInt 0)) hIc252 rfl (l_rng (Int64.ofInt 0))
                  refine g_lload 311 (gd rfl) rfl rfl ?_
                  refine g_aload_n 312 (gd rfl) rfl rfl ?_
                  refine g_getA (q2 := 156) 315 (gd rfl) rfl rfl rfl rfl ?_
                  refine g_iload 317 (gd rfl) rfl rfl ?_
                  refine g_laload 318 (gd rfl) rfl (n := 32) rfl (in_ix i255 rfl) (fun z317 e317 => ?_)
                  refine g_ladd 319 (gd rfl) rfl (fun z318 e318 => ?_)
                  refine g_lstore 321 (gd rfl) rfl (Nat.le_of_ble_eq_true rfl) ?_
                  refine g_iinc 324 (gd rfl) rfl rfl (Nat.le_of_ble_eq_true rfl) (fun z321 e321 => ?_)
                  have i321 := in_add 1 32 e321 i255 (in_c 1 rfl) rfl rfl
                  refine g_goto 252 (gd rfl) rfl ?_
                  have n252 : (y105_4).toInt < (y105_3).toInt := by have a0 := j105_4; unfold In at a0; have a1 := j252_3; unfold In at a1; have a2 := j105_2; unfold In at a2; have a3 := j105_1; unfold In at a3; have a4 := ro_109_20; unfold In at a4; have a5 := ro_109_19; unfold In at a5; have a6 := i255; unfold In at a6; have a7 := i321; unfold In at a7; have a8 := t_add e321 i255 (in_c 1 rfl) rfl; have a9 := (in_c 1 rfl); unfold In at a9; omega
                  have n252a : 0 ≤ (y105_4).toInt := by have a0 := j105_4; unfold In at a0; have a1 := j252_3; unfold In at a1; have a2 := j105_2; unfold In at a2; have a3 := j105_1; unfold In at a3; have a4 := ro_109_20; unfold In at a4; have a5 := ro_109_19; unfold In at a5; have a6 := i255; unfold In at a6; have a7 := i321; unfold In at a7; have a8 := t_add e321 i255 (in_c 1 rfl) rfl; have a9 := (in_c 1 rfl); unfold In at a9; omega
                  have n252b : 0 ≤ (y105_2).toInt := by have a0 := j105_4; unfold In at a0; have a1 := j252_3; unfold In at a1; have a2 := j105_2; unfold In at a2; have a3 := j105_1; unfold In at a3; have a4 := ro_109_20; unfold In at a4; have a5 := ro_109_19; unfold In at a5; have a6 := i255; unfold In at a6; have a7 := i321; unfold In at a7; have a8 := t_add e321 i255 (in_c 1 rfl) rfl; have a9 := (in_c 1 rfl); unfold In at a9; omega
                  have n252c : EE (sL sc252 156 y252_7.toNatClampNeg (Int64.ofInt 0)) (y105_2).toInt (y105_3).toInt := by first | exact g136_0 | exact ee_cg g252_0 rfl rfl
                  have n252d : ∀ v : Nat, (v : Int) < (y105_3).toInt → ((sL sc252 156 y252_7.toNatClampNeg (Int64.ofInt 0)).1 157 v).toInt < (y105_2).toInt := by first | exact g136_1 | exact g252_1
                  have n252e : ∀ v : Nat, (v : Int) < (z321).toInt → (v : Int) ≠ (y105_4).toInt → 0 ≤ ((sL sc252 156 y252_7.toNatClampNeg (Int64.ofInt 0)).1 157 v).toInt := by first | (intro v hv; exfalso; have h0 : (Int32.ofInt 0).toInt = 0 := rfl; omega) | (intro v hv hne; by_cases c : (v : Int) < y252_7.toInt; exact g252_2 v c hne; (have ev : v = y252_7.toNatClampNeg := (by show v = y252_7.toInt.toNat; have a0 := j105_4; unfold In at a0; have a1 := j252_3; unfold In at a1; have a2 := j105_2; unfold In at a2; have a3 := j105_1; unfold In at a3; have a4 := ro_109_20; unfold In at a4; have a5 := ro_109_19; unfold In at a5; have a6 := i255; unfold In at a6; have a7 := i321; unfold In at a7; have a8 := t_add e321 i255 (in_c 1 rfl) rfl; have a9 := (in_c 1 rfl); unfold In at a9; omega); first | (exfalso; have a0 := j105_4; unfold In at a0; have a1 := j252_3; unfold In at a1; have a2 := j105_2; unfold In at a2; have a3 := j105_1; unfold In at a3; have a4 := ro_109_20; unfold In at a4; have a5 := ro_109_19; unfold In at a5; have a6 := i255; unfold In at a6; have a7 := i321; unfold In at a7; have a8 := t_add e321 i255 (in_c 1 rfl) rfl; have a9 := (in_c 1 rfl); unfold In at a9; omega) | (show 0 ≤ (sc252.1 157 v).toInt; rw [ev, ← e271]; exact i272.1)))
                  exact gg_w (by omega) (gg_f (gf_cons rfl (gf_cons rfl (gf_cons rfl (gf_cons rfl (gf_cons rfl (gf_cons rfl (gf_cons rfl gf_nil))))))) (ih252 (sL sc252 156 y252_7.toNatClampNeg (Int64.ofInt 0)) z318 z321 hI308 (fr_sL rfl hFc252) (in_w 2 32 j252_3 rfl) (in_w 0 32 i321 rfl) n252 n252a n252b n252c n252d n252e (m_up mm252 (t_add e321 i255 (in_c 1 rfl) rfl) (in_w 1 1 (in_c 1 rfl) rfl))))
              · skip
                have i272 := z_lt (-1) (-1) c272 i271 rfl
                refine g_ldc2_w 9000000000000000 278 (gd rfl) rfl rfl ?_
                exact g_lreturn (gd rfl) rfl (hP _ _ ⟨sc252, hIc252, hFc252, (Int64.ofInt 9000000000000000), rfl, rfl⟩)
      have ct136 : ∀ (k136 : Nat) (sc136 : GS) (y136_7 : Int32), Inv sc136 → Fr fm_363 s sc136 → (In y105_3 2 32) → (In y136_7 0 160) → ((y105_4).toInt < (y105_3).toInt) → (0 ≤ (y105_4).toInt) → (0 ≤ (y105_2).toInt) → (EE sc136 (y105_2).toInt (y105_3).toInt) → (∀ v : Nat, (v : Int) < (y105_3).toInt → (sc136.1 157 v).toInt < (y105_2).toInt) → 160 - (y136_7).toInt < (k136 : Int) → GG Z (d - 1) 363 post (gx xp) (1 + k105 * 357304 + 174603 + k136 * 900) 136 (fun j => xlook j [(0, .ref (A 109)), (1, .int x1), (2, .int y105_2), (3, .int y105_3), (4, .int y105_4), (5, .long y105_5), (7, .int y136_7)]) [] (WW Z A sc136 ++ ex) 0 0 := by
        intro k136
        induction k136 with
        | zero => intro sc136 y136_7 hIc136 hFc136 j136_3 j136_7 n136_0 n136_1 n136_2 g136_0 g136_1 mm136; exact m_no mm136 j136_7 rfl
        | succ k136 ih136 =>
          intro sc136 y136_7 hIc136 hFc136 j136_3 j136_7 n136_0 n136_1 n136_2 g136_0 g136_1 mm136
          refine gg_w (M := 1 + k105 * 357304 + 174603 + k136 * 900 + 900) (by omega) ?_
          refine g_iload 138 (gd rfl) rfl rfl ?_
          refine g_iload_n 139 (gd rfl) rfl rfl ?_
          refine g_cmp_ge 142 249 (gd rfl) rfl rfl (fun c139 => ?_) (fun c139 => ?_)
          · skip
            refine g_iconst 0 250 (gd rfl) rfl rfl ?_
            refine g_istore 252 (gd rfl) rfl (Nat.le_of_ble_eq_true rfl) ?_
            have n252 : (y105_4).toInt < (y105_3).toInt := by have a0 := j105_4; unfold In at a0; have a1 := j136_3; unfold In at a1; have a2 := j105_2; unfold In at a2; have a3 := j105_1; unfold In at a3; have a4 := ro_109_20; unfold In at a4; have a5 := ro_109_19; unfold In at a5; have a6 := j136_7; unfold In at a6; have a7 := (in_c 0 rfl); unfold In at a7; omega
            have n252a : 0 ≤ (y105_4).toInt := by have a0 := j105_4; unfold In at a0; have a1 := j136_3; unfold In at a1; have a2 := j105_2; unfold In at a2; have a3 := j105_1; unfold In at a3; have a4 := ro_109_20; unfold In at a4; have a5 := ro_109_19; unfold In at a5; have a6 := j136_7; unfold In at a6; have a7 := (in_c 0 rfl); unfold In at a7; omega
            have n252b : 0 ≤ (y105_2).toInt := by have a0 := j105_4; unfold In at a0; have a1 := j136_3; unfold In at a1; have a2 := j105_2; unfold In at a2; have a3 := j105_1; unfold In at a3; have a4 := ro_109_20; unfold In at a4; have a5 := ro_109_19; unfold In at a5; have a6 := j136_7; unfold In at a6; have a7 := (in_c 0 rfl); unfold In at a7; omega
            have n252c : EE sc136 (y105_2).toInt (y105_3).toInt := by first | exact g136_0 | exact ee_cg g252_0 rfl rfl
            have n252d : ∀ v : Nat, (v : Int) < (y105_3).toInt → (sc136.1 157 v).toInt < (y105_2).toInt := by first | exact g136_1 | exact g252_1
            have n252e : ∀ v : Nat, (v : Int) < ((Int32.ofInt 0)).toInt → (v : Int) ≠ (y105_4).toInt → 0 ≤ (sc136.1 157 v).toInt := by first | (intro v hv; exfalso; have h0 : (Int32.ofInt 0).toInt = 0 := rfl; omega) | (intro v hv hne; by_cases c : (v : Int) < y252_7.toInt; exact g252_2 v c hne; (have ev : v = y252_7.toNatClampNeg := (by show v = y252_7.toInt.toNat; have a0 := j105_4; unfold In at a0; have a1 := j136_3; unfold In at a1; have a2 := j105_2; unfold In at a2; have a3 := j105_1; unfold In at a3; have a4 := ro_109_20; unfold In at a4; have a5 := ro_109_19; unfold In at a5; have a6 := j136_7; unfold In at a6; have a7 := (in_c 0 rfl); unfold In at a7; omega); first | (exfalso; have a0 := j105_4; unfold In at a0; have a1 := j136_3; unfold In at a1; have a2 := j105_2; unfold In at a2; have a3 := j105_1; unfold In at a3; have a4 := ro_109_20; unfold In at a4; have a5 := ro_109_19; unfold In at a5; have a6 := j136_7; unfold In at a6; have a7 := (in_c 0 rfl); unfold In at a7; omega) | (show 0 ≤ (sc252.1 157 v).toInt; rw [ev, ← e271]; exact i272.1)))
            exact gg_w (by omega) (gg_f (gf_cons rfl (gf_cons rfl (gf_cons rfl (gf_cons rfl (gf_cons rfl (gf_cons rfl (gf_cons rfl gf_nil))))))) (ct252 33 sc136 y105_5 (Int32.ofInt 0) hIc136 hFc136 (in_w 2 32 j136_3 rfl) (in_w 0 32 (in_c 0 rfl) rfl) n252 n252a n252b n252c n252d n252e (m_in 33 (in_w 0 32 (in_c 0 rfl) rfl) rfl)))
          · skip
            have i139 := r_lt1 0 159 c139 j136_7 j105_2 rfl
            have i139a := r_lt2 1 160 c139 j136_7 j105_2 rfl
            refine g_aload_n 143 (gd rfl) rfl rfl ?_
            refine g_getA (q2 := 153) 146 (gd rfl) rfl rfl rfl rfl ?_
            refine g_iload 148 (gd rfl) rfl rfl ?_
            refine g_iaload 149 (gd rfl) rfl (n := 160) rfl (in_ix i139 rfl) (fun z148 e148 => ?_)
            have i148 := inv_I hIc136 (n := 160) (t := 0) 0 31 rfl (in_ix i139 rfl) rfl e148
            refine g_aload_n 150 (gd rfl) rfl rfl ?_
            refine g_getA (q2 := 154) 153 (gd rfl) rfl rfl rfl rfl ?_
            refine g_iload 155 (gd rfl) rfl rfl ?_
            refine g_iaload 156 (gd rfl) rfl (n := 160) rfl (in_ix i139 rfl) (fun z155 e155 => ?_)
            have i155 := inv_I hIc136 (n := 160) (t := 0) 0 31 rfl (in_ix i139 rfl) rfl e155
            refine g_cmp_eq 159 206 (gd rfl) rfl rfl (fun c156 => ?_) (fun c156 => ?_)
            · skip
              refine g_iconst 0 207 (gd rfl) rfl rfl ?_
              refine g_istore 209 (gd rfl) rfl (Nat.le_of_ble_eq_true rfl) ?_
              refine g_aload_n 210 (gd rfl) rfl rfl ?_
              refine g_getA (q2 := 157) 213 (gd rfl) rfl rfl rfl rfl ?_
              refine g_aload_n 214 (gd rfl) rfl rfl ?_
              refine g_getA (q2 := 154) 217 (gd rfl) rfl rfl rfl rfl ?_
              refine g_iload 219 (gd rfl) rfl rfl ?_
              refine g_iaload 220 (gd rfl) rfl (n := 160) rfl (in_ix i139 rfl) (fun z219 e219 => ?_)
              have q219 : z155 = z219 := (e155).trans e219.symm
              subst q219
              refine g_iload 222 (gd rfl) rfl rfl ?_
              refine g_if_eq 225 230 (gd rfl) rfl rfl (fun c222 => ?_) (fun c222 => ?_)
              · skip
                refine g_aload_n 231 (gd rfl) rfl rfl ?_
                refine g_getA (q2 := 157) 234 (gd rfl) rfl rfl rfl rfl ?_
                refine g_aload_n 235 (gd rfl) rfl rfl ?_
                refine g_getA (q2 := 154) 238 (gd rfl) rfl rfl rfl rfl ?_
                refine g_iload 240 (gd rfl) rfl rfl ?_
                refine g_iaload 241 (gd rfl) rfl (n := 160) rfl (in_ix i139 rfl) (fun z240 e240 => ?_)
                have q240 : z155 = z240 := (e155).trans e240.symm
                subst q240
                refine g_iaload 242 (gd rfl) rfl (n := 32) rfl (in_ix i155 rfl) (fun z241 e241 => ?_)
                have i241 := inv_I hIc136 (n := 32) (t := 0) (-1) 159 rfl (in_ix i155 rfl) rfl e241
                refine g_iastore 243 (gd rfl) rfl (n := 32) rfl (in_ix i155 rfl) ?_
                have hI242 := inv_sI (q := 157) (j := z155.toNatClampNeg) hIc136 rfl (in_w (-1) 159 i241 rfl)
                refine g_iinc 246 (gd rfl) rfl rfl (Nat.le_of_ble_eq_true rfl) (fun z243 e243 => ?_)
                have i243 := in_add 1 160 e243 i139 (in_c 1 rfl) rfl rfl
                refine g_goto 136 (gd rfl) rfl ?_
                have n136 : (y105_4).toInt < (y105_3).toInt := by have a0 := j105_4; unfold In at a0; have a1 := j136_3; unfold In at a1; have a2 := i139a; unfold In at a2; have a3 := j105_1; unfold In at a3; have a4 := ro_109_20; unfold In at a4; have a5 := ro_109_19; unfold In at a5; have a6 := i139; unfold In at a6; have a7 := (in_c 0 rfl); unfold In at a7; have a8 := i243; unfold In at a8; have a9 := t_add e243 i139 (in_c 1 rfl) rfl; have a10 := (in_c 1 rfl); unfold In at a10; omega
                have n136a : 0 ≤ (y105_4).toInt := by have a0 := j105_4; unfold In at a0; have a1 := j136_3; unfold In at a1; have a2 := i139a; unfold In at a2; have a3 := j105_1; unfold In at a3; have a4 := ro_109_20; unfold In at a4; have a5 := ro_109_19; unfold In at a5; have a6 := i139; unfold In at a6; have a7 := (in_c 0 rfl); unfold In at a7; have a8 := i243; unfold In at a8; have a9 := t_add e243 i139 (in_c 1 rfl) rfl; have a10 := (in_c 1 rfl); unfold In at a10; omega
                have n136b : 0 ≤ (y105_2).toInt := by have a0 := j105_4; unfold In at a0; have a1 := j136_3; unfold In at a1; have a2 := i139a; unfold In at a2; have a3 := j105_1; unfold In at a3; have a4 := ro_109_20; unfold In at a4; have a5 := ro_109_19; unfold In at a5; have a6 := i139; unfold In at a6; have a7 := (in_c 0 rfl); unfold In at a7; have a8 := i243; unfold In at a8; have a9 := t_add e243 i139 (in_c 1 rfl) rfl; have a10 := (in_c 1 rfl); unfold In at a10; omega
                have n136c : EE (sI sc136 157 z155.toNatClampNeg z241) (y105_2).toInt (y105_3).toInt := by first | exact g113_0 | exact ee_cg g136_0 (sI_p rfl) (sI_p rfl)
                have n136d : ∀ v : Nat, (v : Int) < (y105_3).toInt → ((sI sc136 157 z155.toNatClampNeg z241).1 157 v).toInt < (y105_2).toInt := by first | (intro v hv; have h := g113_1 v (by have a0 := j105_4; unfold In at a0; have a1 := j136_3; unfold In at a1; have a2 := i139a; unfold In at a2; have a3 := j105_1; unfold In at a3; have a4 := ro_109_20; unfold In at a4; have a5 := ro_109_19; unfold In at a5; have a6 := i139; unfold In at a6; have a7 := (in_c 0 rfl); unfold In at a7; have a8 := i243; unfold In at a8; have a9 := t_add e243 i139 (in_c 1 rfl) rfl; have a10 := (in_c 1 rfl); unfold In at a10; omega); have a0 := j105_4; unfold In at a0; have a1 := j136_3; unfold In at a1; have a2 := i139a; unfold In at a2; have a3 := j105_1; unfold In at a3; have a4 := ro_109_20; unfold In at a4; have a5 := ro_109_19; unfold In at a5; have a6 := i139; unfold In at a6; have a7 := (in_c 0 rfl); unfold In at a7; have a8 := i243; unfold In at a8; have a9 := t_add e243 i139 (in_c 1 rfl) rfl; have a10 := (in_c 1 rfl); unfold In at a10; omega) | (intro v hv; rw [sI_q]; have hE := (g136_0 y136_7.toNatClampNeg (by show ((y136_7.toInt.toNat : Nat) : Int) < _; have a0 := j105_4; unfold In at a0; have a1 := j136_3; unfold In at a1; have a2 := i139a; unfold In at a2; have a3 := j105_1; unfold In at a3; have a4 := ro_109_20; unfold In at a4; have a5 := ro_109_19; unfold In at a5; have a6 := i139; unfold In at a6; have a7 := (in_c 0 rfl); unfold In at a7; have a8 := i243; unfold In at a8; have a9 := t_add e243 i139 (in_c 1 rfl) rfl; have a10 := (in_c 1 rfl); unfold In at a10; omega)).2; rw [← e155] at hE; exact up_lt (fun c => g136_1 v hv) (by first | (have a0 := j105_4; unfold In at a0; have a1 := j136_3; unfold In at a1; have a2 := i139a; unfold In at a2; have a3 := j105_1; unfold In at a3; have a4 := ro_109_20; unfold In at a4; have a5 := ro_109_19; unfold In at a5; have a6 := i139; unfold In at a6; have a7 := (in_c 0 rfl); unfold In at a7; have a8 := i243; unfold In at a8; have a9 := t_add e243 i139 (in_c 1 rfl) rfl; have a10 := (in_c 1 rfl); unfold In at a10; omega) | (rw [e241]; exact g136_1 z155.toNatClampNeg (by show ((z155.toInt.toNat : Nat) : Int) < _; have hz := i155; unfold In at hz; omega)) | (rw [e170]; exact g136_1 z155.toNatClampNeg (by show ((z155.toInt.toNat : Nat) : Int) < _; have hz := i155; unfold In at hz; omega))))
                exact gg_w (by omega) (gg_f (gf_cons rfl (gf_cons rfl (gf_cons rfl (gf_cons rfl (gf_cons rfl (gf_cons rfl (gf_cons rfl gf_nil))))))) (ih136 (sI sc136 157 z155.toNatClampNeg z241) z243 hI242 (fr_sI rfl hFc136) (in_w 2 32 j136_3 rfl) (in_w 0 160 i243 rfl) n136 n136a n136b n136c n136d (m_up mm136 (t_add e243 i139 (in_c 1 rfl) rfl) (in_w 1 1 (in_c 1 rfl) rfl))))
              · skip
                exact zn_ne c222 (in_c 0 rfl) rfl
            · skip
              refine g_aload_n 160 (gd rfl) rfl rfl ?_
              refine g_getA (q2 := 157) 163 (gd rfl) rfl rfl rfl rfl ?_
              refine g_aload_n 164 (gd rfl) rfl rfl ?_
              refine g_getA (q2 := 154) 167 (gd rfl) rfl rfl rfl rfl ?_
              refine g_iload 169 (gd rfl) rfl rfl ?_
              refine g_iaload 170 (gd rfl) rfl (n := 160) rfl (in_ix i139 rfl) (fun z169 e169 => ?_)
              have q169 : z155 = z169 := (e155).trans e169.symm
              subst q169
              refine g_iaload 171 (gd rfl) rfl (n := 32) rfl (in_ix i155 rfl) (fun z170 e170 => ?_)
              have i170 := inv_I hIc136 (n := 32) (t := 0) (-1) 159 rfl (in_ix i155 rfl) rfl e170
              refine g_if_lt 174 202 (gd rfl) rfl rfl (fun c171 => ?_) (fun c171 => ?_)
              · skip
                have i171 := z_lt (-1) (-1) c171 i170 rfl
                refine g_iconst 1 203 (gd rfl) rfl rfl ?_
                refine g_goto 207 (gd rfl) rfl ?_
                refine g_istore 209 (gd rfl) rfl (Nat.le_of_ble_eq_true rfl) ?_
                refine g_aload_n 210 (gd rfl) rfl rfl ?_
                refine g_getA (q2 := 157) 213 (gd rfl) rfl rfl rfl rfl ?_
                refine g_aload_n 214 (gd rfl) rfl rfl ?_
                refine g_getA (q2 := 154) 217 (gd rfl) rfl rfl rfl rfl ?_
                refine g_iload 219 (gd rfl) rfl rfl ?_
                refine g_iaload 220 (gd rfl) rfl (n := 160) rfl (in_ix i139 rfl) (fun z219 e219 => ?_)
                have q219 : z155 = z219 := (e155).trans e219.symm
                subst q219
                refine g_iload 222 (gd rfl) rfl rfl ?_
                refine g_if_eq 225 230 (gd rfl) rfl rfl (fun c222 => ?_) (fun c222 => ?_)
                · skip
                  exact zn_eq c222 (in_c 1 rfl) rfl
                · skip
                  refine g_iload 227 (gd rfl) rfl rfl ?_
                  refine g_goto 242 (gd rfl) rfl ?_
                  refine g_iastore 243 (gd rfl) rfl (n := 32) rfl (in_ix i155 rfl) ?_
                  have hI242 := inv_sI (q := 157) (j := z155.toNatClampNeg) hIc136 rfl (in_w (-1) 159 i139 rfl)
                  refine g_iinc 246 (gd rfl) rfl rfl (Nat.le_of_ble_eq_true rfl) (fun z243 e243 => ?_)
                  have i243 := in_add 1 160 e243 i139 (in_c 1 rfl) rfl rfl
                  refine g_goto 136 (gd rfl) rfl ?_
                  have n136 : (y105_4).toInt < (y105_3).toInt := by have a0 := j105_4; unfold In at a0; have a1 := j136_3; unfold In at a1; have a2 := i139a; unfold In at a2; have a3 := j105_1; unfold In at a3; have a4 := ro_109_20; unfold In at a4; have a5 := ro_109_19; unfold In at a5; have a6 := i139; unfold In at a6; have a7 := (in_c 1 rfl); unfold In at a7; have a8 := i243; unfold In at a8; have a9 := t_add e243 i139 (in_c 1 rfl) rfl; omega
                  have n136a : 0 ≤ (y105_4).toInt := by have a0 := j105_4; unfold In at a0; have a1 := j136_3; unfold In at a1; have a2 := i139a; unfold In at a2; have a3 := j105_1; unfold In at a3; have a4 := ro_109_20; unfold In at a4; have a5 := ro_109_19; unfold In at a5; have a6 := i139; unfold In at a6; have a7 := (in_c 1 rfl); unfold In at a7; have a8 := i243; unfold In at a8; have a9 := t_add e243 i139 (in_c 1 rfl) rfl; omega
                  have n136b : 0 ≤ (y105_2).toInt := by have a0 := j105_4; unfold In at a0; have a1 := j136_3; unfold In at a1; have a2 := i139a; unfold In at a2; have a3 := j105_1; unfold In at a3; have a4 := ro_109_20; unfold In at a4; have a5 := ro_109_19; unfold In at a5; have a6 := i139; unfold In at a6; have a7 := (in_c 1 rfl); unfold In at a7; have a8 := i243; unfold In at a8; have a9 := t_add e243 i139 (in_c 1 rfl) rfl; omega
                  have n136c : EE (sI sc136 157 z155.toNatClampNeg y136_7) (y105_2).toInt (y105_3).toInt := by first | exact g113_0 | exact ee_cg g136_0 (sI_p rfl) (sI_p rfl)
                  have n136d : ∀ v : Nat, (v : Int) < (y105_3).toInt → ((sI sc136 157 z155.toNatClampNeg y136_7).1 157 v).toInt < (y105_2).toInt := by first | (intro v hv; have h := g113_1 v (by have a0 := j105_4; unfold In at a0; have a1 := j136_3; unfold In at a1; have a2 := i139a; unfold In at a2; have a3 := j105_1; unfold In at a3; have a4 := ro_109_20; unfold In at a4; have a5 := ro_109_19; unfold In at a5; have a6 := i139; unfold In at a6; have a7 := (in_c 1 rfl); unfold In at a7; have a8 := i243; unfold In at a8; have a9 := t_add e243 i139 (in_c 1 rfl) rfl; omega); have a0 := j105_4; unfold In at a0; have a1 := j136_3; unfold In at a1; have a2 := i139a; unfold In at a2; have a3 := j105_1; unfold In at a3; have a4 := ro_109_20; unfold In at a4; have a5 := ro_109_19; unfold In at a5; have a6 := i139; unfold In at a6; have a7 := (in_c 1 rfl); unfold In at a7; have a8 := i243; unfold In at a8; have a9 := t_add e243 i139 (in_c 1 rfl) rfl; omega) | (intro v hv; rw [sI_q]; have hE := (g136_0 y136_7.toNatClampNeg (by show ((y136_7.toInt.toNat : Nat) : Int) < _; have a0 := j105_4; unfold In at a0; have a1 := j136_3; unfold In at a1; have a2 := i139a; unfold In at a2; have a3 := j105_1; unfold In at a3; have a4 := ro_109_20; unfold In at a4; have a5 := ro_109_19; unfold In at a5; have a6 := i139; unfold In at a6; have a7 := (in_c 1 rfl); unfold In at a7; have a8 := i243; unfold In at a8; have a9 := t_add e243 i139 (in_c 1 rfl) rfl; omega)).2; rw [← e155] at hE; exact up_lt (fun c => g136_1 v hv) (by first | (have a0 := j105_4; unfold In at a0; have a1 := j136_3; unfold In at a1; have a2 := i139a; unfold In at a2; have a3 := j105_1; unfold In at a3; have a4 := ro_109_20; unfold In at a4; have a5 := ro_109_19; unfold In at a5; have a6 := i139; unfold In at a6; have a7 := (in_c 1 rfl); unfold In at a7; have a8 := i243; unfold In at a8; have a9 := t_add e243 i139 (in_c 1 rfl) rfl; omega) | (rw [e241]; exact g136_1 z155.toNatClampNeg (by show ((z155.toInt.toNat : Nat) : Int) < _; have hz := i155; unfold In at hz; omega)) | (rw [e170]; exact g136_1 z155.toNatClampNeg (by show ((z155.toInt.toNat : Nat) : Int) < _; have hz := i155; unfold In at hz; omega))))
                  exact gg_w (by omega) (gg_f (gf_cons rfl (gf_cons rfl (gf_cons rfl (gf_cons rfl (gf_cons rfl (gf_cons rfl (gf_cons rfl gf_nil))))))) (ih136 (sI sc136 157 z155.toNatClampNeg y136_7) z243 hI242 (fr_sI rfl hFc136) (in_w 2 32 j136_3 rfl) (in_w 0 160 i243 rfl) n136 n136a n136b n136c n136d (m_up mm136 (t_add e243 i139 (in_c 1 rfl) rfl) (in_w 1 1 (in_c 1 rfl) rfl))))
              · skip
                have i171 := z_ge 0 159 c171 i170 rfl
                refine g_aload_n 175 (gd rfl) rfl rfl ?_
                refine g_getA (q2 := 155) 178 (gd rfl) rfl rfl rfl rfl ?_
                refine g_iload 180 (gd rfl) rfl rfl ?_
                refine g_laload 181 (gd rfl) rfl (n := 160) rfl (in_ix i139 rfl) (fun z180 e180 => ?_)
                refine g_aload_n 182 (gd rfl) rfl rfl ?_
                refine g_getA (q2 := 155) 185 (gd rfl) rfl rfl rfl rfl ?_
                refine g_aload_n 186 (gd rfl) rfl rfl ?_
                refine g_getA (q2 := 157) 189 (gd rfl) rfl rfl rfl rfl ?_
                refine g_aload_n 190 (gd rfl) rfl rfl ?_
                refine g_getA (q2 := 154) 193 (gd rfl) rfl rfl rfl rfl ?_
                refine g_iload 195 (gd rfl) rfl rfl ?_
                refine g_iaload 196 (gd rfl) rfl (n := 160) rfl (in_ix i139 rfl) (fun z195 e195 => ?_)
                have q195 : z155 = z195 := (e155).trans e195.symm
                subst q195
                refine g_iaload 197 (gd rfl) rfl (n := 32) rfl (in_ix i155 rfl) (fun z196 e196 => ?_)
                have q196 : z170 = z196 := (e170).trans e196.symm
                subst q196
                refine g_laload 198 (gd rfl) rfl (n := 160) rfl (in_ix i171 rfl) (fun z197 e197 => ?_)
                refine g_lcmp 199 (gd rfl) rfl (fun z198 e198 => ?_)
                have i198 := lc_in e198
                refine g_if_ge 202 206 (gd rfl) rfl rfl (fun c199 => ?_) (fun c199 => ?_)
                · skip
                  have i199 := z_ge 0 1 c199 i198 rfl
                  have c199a := lc_ge e198 c199
                  refine g_iconst 0 207 (gd rfl) rfl rfl ?_
                  refine g_istore 209 (gd rfl) rfl (Nat.le_of_ble_eq_true rfl) ?_
                  refine g_aload_n 210 (gd rfl) rfl rfl ?_
                  refine g_getA (q2 := 157) 213 (gd rfl) rfl rfl rfl rfl ?_
                  refine g_aload_n 214 (gd rfl) rfl rfl ?_
                  refine g_getA (q2 := 154) 217 (gd rfl) rfl rfl rfl rfl ?_
                  refine g_iload 219 (gd rfl) rfl rfl ?_
                  refine g_iaload 220 (gd rfl) rfl (n := 160) rfl (in_ix i139 rfl) (fun z219 e219 => ?_)
                  have q219 : z155 = z219 := (e155).trans e219.symm
                  subst q219
                  refine g_iload 222 (gd rfl) rfl rfl ?_
                  refine g_if_eq 225 230 (gd rfl) rfl rfl (fun c222 => ?_) (fun c222 => ?_)
                  · skip
                    refine g_aload_n 231 (gd rfl) rfl rfl ?_
                    refine g_getA (q2 := 157) 234 (gd rfl) rfl rfl rfl rfl ?_
                    refine g_aload_n 235 (gd rfl) rfl rfl ?_
                    refine g_getA (q2 := 154) 238 (gd rfl) rfl rfl rfl rfl ?_
                    refine g_iload 240 (gd rfl) rfl rfl ?_
                    refine g_iaload 241 (gd rfl) rfl (n := 160) rfl (in_ix i139 rfl) (fun z240 e240 => ?_)
                    have q240 : z155 = z240 := (e155).trans e240.symm
                    subst q240
                    refine g_iaload 242 (gd rfl) rfl (n := 32) rfl (in_ix i155 rfl) (fun z241 e241 => ?_)
                    have q241 : z170 = z241 := (e170).trans e241.symm
                    subst q241
                    refine g_iastore 243 (gd rfl) rfl (n := 32) rfl (in_ix i155 rfl) ?_
                    have hI242 := inv_sI (q := 157) (j := z155.toNatClampNeg) hIc136 rfl (in_w (-1) 159 i171 rfl)
                    refine g_iinc 246 (gd rfl) rfl rfl (Nat.le_of_ble_eq_true rfl) (fun z243 e243 => ?_)
                    have i243 := in_add 1 160 e243 i139 (in_c 1 rfl) rfl rfl
                    refine g_goto 136 (gd rfl) rfl ?_
                    have n136 : (y105_4).toInt < (y105_3).toInt := by have a0 := j105_4; unfold In at a0; have a1 := j136_3; unfold In at a1; have a2 := i139a; unfold In at a2; have a3 := j105_1; unfold In at a3; have a4 := ro_109_20; unfold In at a4; have a5 := ro_109_19; unfold In at a5; have a6 := i139; unfold In at a6; have a7 := (in_c 0 rfl); unfold In at a7; have a8 := i243; unfold In at a8; have a9 := t_add e243 i139 (in_c 1 rfl) rfl; have a10 := (in_c 1 rfl); unfold In at a10; omega
                    have n136a : 0 ≤ (y105_4).toInt := by have a0 := j105_4; unfold In at a0; have a1 := j136_3; unfold In at a1; have a2 := i139a; unfold In at a2; have a3 := j105_1; unfold In at a3; have a4 := ro_109_20; unfold In at a4; have a5 := ro_109_19; unfold In at a5; have a6 := i139; unfold In at a6; have a7 := (in_c 0 rfl); unfold In at a7; have a8 := i243; unfold In at a8; have a9 := t_add e243 i139 (in_c 1 rfl) rfl; have a10 := (in_c 1 rfl); unfold In at a10; omega
                    have n136b : 0 ≤ (y105_2).toInt := by have a0 := j105_4; unfold In at a0; have a1 := j136_3; unfold In at a1; have a2 := i139a; unfold In at a2; have a3 := j105_1; unfold In at a3; have a4 := ro_109_20; unfold In at a4; have a5 := ro_109_19; unfold In at a5; have a6 := i139; unfold In at a6; have a7 := (in_c 0 rfl); unfold In at a7; have a8 := i243; unfold In at a8; have a9 := t_add e243 i139 (in_c 1 rfl) rfl; have a10 := (in_c 1 rfl); unfold In at a10; omega
                    have n136c : EE (sI sc136 157 z155.toNatClampNeg z170) (y105_2).toInt (y105_3).toInt := by first | exact g113_0 | exact ee_cg g136_0 (sI_p rfl) (sI_p rfl)
                    have n136d : ∀ v : Nat, (v : Int) < (y105_3).toInt → ((sI sc136 157 z155.toNatClampNeg z170).1 157 v).toInt < (y105_2).toInt := by first | (intro v hv; have h := g113_1 v (by have a0 := j105_4; unfold In at a0; have a1 := j136_3; unfold In at a1; have a2 := i139a; unfold In at a2; have a3 := j105_1; unfold In at a3; have a4 := ro_109_20; unfold In at a4; have a5 := ro_109_19; unfold In at a5; have a6 := i139; unfold In at a6; have a7 := (in_c 0 rfl); unfold In at a7; have a8 := i243; unfold In at a8; have a9 := t_add e243 i139 (in_c 1 rfl) rfl; have a10 := (in_c 1 rfl); unfold In at a10; omega); have a0 := j105_4; unfold In at a0; have a1 := j136_3; unfold In at a1; have a2 := i139a; unfold In at a2; have a3 := j105_1; unfold In at a3; have a4 := ro_109_20; unfold In at a4; have a5 := ro_109_19; unfold In at a5; have a6 := i139; unfold In at a6; have a7 := (in_c 0 rfl); unfold In at a7; have a8 := i243; unfold In at a8; have a9 := t_add e243 i139 (in_c 1 rfl) rfl; have a10 := (in_c 1 rfl); unfold In at a10; omega) | (intro v hv; rw [sI_q]; have hE := (g136_0 y136_7.toNatClampNeg (by show ((y136_7.toInt.toNat : Nat) : Int) < _; have a0 := j105_4; unfold In at a0; have a1 := j136_3; unfold In at a1; have a2 := i139a; unfold In at a2; have a3 := j105_1; unfold In at a3; have a4 := ro_109_20; unfold In at a4; have a5 := ro_109_19; unfold In at a5; have a6 := i139; unfold In at a6; have a7 := (in_c 0 rfl); unfold In at a7; have a8 := i243; unfold In at a8; have a9 := t_add e243 i139 (in_c 1 rfl) rfl; have a10 := (in_c 1 rfl); unfold In at a10; omega)).2; rw [← e155] at hE; exact up_lt (fun c => g136_1 v hv) (by first | (have a0 := j105_4; unfold In at a0; have a1 := j136_3; unfold In at a1; have a2 := i139a; unfold In at a2; have a3 := j105_1; unfold In at a3; have a4 := ro_109_20; unfold In at a4; have a5 := ro_109_19; unfold In at a5; have a6 := i139; unfold In at a6; have a7 := (in_c 0 rfl); unfold In at a7; have a8 := i243; unfold In at a8; have a9 := t_add e243 i139 (in_c 1 rfl) rfl; have a10 := (in_c 1 rfl); unfold In at a10; omega) | (rw [e241]; exact g136_1 z155.toNatClampNeg (by show ((z155.toInt.toNat : Nat) : Int) < _; have hz := i155; unfold In at hz; omega)) | (rw [e170]; exact g136_1 z155.toNatClampNeg (by show ((z155.toInt.toNat : Nat) : Int) < _; have hz := i155; unfold In at hz; omega))))
                    exact gg_w (by omega) (gg_f (gf_cons rfl (gf_cons rfl (gf_cons rfl (gf_cons rfl (gf_cons rfl (gf_cons rfl (gf_cons rfl gf_nil))))))) (ih136 (sI sc136 157 z155.toNatClampNeg z170) z243 hI242 (fr_sI rfl hFc136) (in_w 2 32 j136_3 rfl) (in_w 0 160 i243 rfl) n136 n136a n136b n136c n136d (m_up mm136 (t_add e243 i139 (in_c 1 rfl) rfl) (in_w 1 1 (in_c 1 rfl) rfl))))
                  · skip
                    exact zn_ne c222 (in_c 0 rfl) rfl
                · skip
                  have i199 := z_lt (-1) (-1) c199 i198 rfl
                  have c199a := lc_lt e198 c199
                  have i199a := lr_lt1 (-9223372036854775808) 9223372036854775806 c199a (l_rng z180) (l_rng z197) rfl
                  have i199b := lr_lt2 (-9223372036854775807) 9223372036854775807 c199a (l_rng z180) (l_rng z197) rfl
                  refine g_iconst 1 203 (gd rfl) rfl rfl ?_
                  refine g_goto 207 (gd rfl) rfl ?_
                  refine g_istore 209 (gd rfl) rfl (Nat.le_of_ble_eq_true rfl) ?_
                  refine g_aload_n 210 (gd rfl) rfl rfl ?_
                  refine g_getA (q2 := 157) 213 (gd rfl) rfl rfl rfl rfl ?_
                  refine g_aload_n 214 (gd rfl) rfl rfl ?_
                  refine g_getA (q2 := 154) 217 (gd rfl) rfl rfl rfl rfl ?_
                  refine g_iload 219 (gd rfl) rfl rfl ?_
                  refine g_iaload 220 (gd rfl) rfl (n := 160) rfl (in_ix i139 rfl) (fun z219 e219 => ?_)
                  have q219 : z155 = z219 := (e155).trans e219.symm
                  subst q219
                  refine g_iload 222 (gd rfl) rfl rfl ?_
                  refine g_if_eq 225 230 (gd rfl) rfl rfl (fun c222 => ?_) (fun c222 => ?_)
                  · skip
                    exact zn_eq c222 (in_c 1 rfl) rfl
                  · skip
                    refine g_iload 227 (gd rfl) rfl rfl ?_
                    refine g_goto 242 (gd rfl) rfl ?_
                    refine g_iastore 243 (gd rfl) rfl (n := 32) rfl (in_ix i155 rfl) ?_
                    have hI242 := inv_sI (q := 157) (j := z155.toNatClampNeg) hIc136 rfl (in_w (-1) 159 i139 rfl)
                    refine g_iinc 246 (gd rfl) rfl rfl (Nat.le_of_ble_eq_true rfl) (fun z243 e243 => ?_)
                    have i243 := in_add 1 160 e243 i139 (in_c 1 rfl) rfl rfl
                    refine g_goto 136 (gd rfl) rfl ?_
                    have n136 : (y105_4).toInt < (y105_3).toInt := by have a0 := j105_4; unfold In at a0; have a1 := j136_3; unfold In at a1; have a2 := i139a; unfold In at a2; have a3 := j105_1; unfold In at a3; have a4 := ro_109_20; unfold In at a4; have a5 := ro_109_19; unfold In at a5; have a6 := i139; unfold In at a6; have a7 := (in_c 1 rfl); unfold In at a7; have a8 := i243; unfold In at a8; have a9 := t_add e243 i139 (in_c 1 rfl) rfl; omega
                    have n136a : 0 ≤ (y105_4).toInt := by have a0 := j105_4; unfold In at a0; have a1 := j136_3; unfold In at a1; have a2 := i139a; unfold In at a2; have a3 := j105_1; unfold In at a3; have a4 := ro_109_20; unfold In at a4; have a5 := ro_109_19; unfold In at a5; have a6 := i139; unfold In at a6; have a7 := (in_c 1 rfl); unfold In at a7; have a8 := i243; unfold In at a8; have a9 := t_add e243 i139 (in_c 1 rfl) rfl; omega
                    have n136b : 0 ≤ (y105_2).toInt := by have a0 := j105_4; unfold In at a0; have a1 := j136_3; unfold In at a1; have a2 := i139a; unfold In at a2; have a3 := j105_1; unfold In at a3; have a4 := ro_109_20; unfold In at a4; have a5 := ro_109_19; unfold In at a5; have a6 := i139; unfold In at a6; have a7 := (in_c 1 rfl); unfold In at a7; have a8 := i243; unfold In at a8; have a9 := t_add e243 i139 (in_c 1 rfl) rfl; omega
                    have n136c : EE (sI sc136 157 z155.toNatClampNeg y136_7) (y105_2).toInt (y105_3).toInt := by first | exact g113_0 | exact ee_cg g136_0 (sI_p rfl) (sI_p rfl)
                    have n136d : ∀ v : Nat, (v : Int) < (y105_3).toInt → ((sI sc136 157 z155.toNatClampNeg y136_7).1 157 v).toInt < (y105_2).toInt := by first | (intro v hv; have h := g113_1 v (by have a0 := j105_4; unfold In at a0; have a1 := j136_3; unfold In at a1; have a2 := i139a; unfold In at a2; have a3 := j105_1; unfold In at a3; have a4 := ro_109_20; unfold In at a4; have a5 := ro_109_19; unfold In at a5; have a6 := i139; unfold In at a6; have a7 := (in_c 1 rfl); unfold In at a7; have a8 := i243; unfold In at a8; have a9 := t_add e243 i139 (in_c 1 rfl) rfl; omega); have a0 := j105_4; unfold In at a0; have a1 := j136_3; unfold In at a1; have a2 := i139a; unfold In at a2; have a3 := j105_1; unfold In at a3; have a4 := ro_109_20; unfold In at a4; have a5 := ro_109_19; unfold In at a5; have a6 := i139; unfold In at a6; have a7 := (in_c 1 rfl); unfold In at a7; have a8 := i243; unfold In at a8; have a9 := t_add e243 i139 (in_c 1 rfl) rfl; omega) | (intro v hv; rw [sI_q]; have hE := (g136_0 y136_7.toNatClampNeg (by show ((y136_7.toInt.toNat : Nat) : Int) < _; have a0 := j105_4; unfold In at a0; have a1 := j136_3; unfold In at a1; have a2 := i139a; unfold In at a2; have a3 := j105_1; unfold In at a3; have a4 := ro_109_20; unfold In at a4; have a5 := ro_109_19; unfold In at a5; have a6 := i139; unfold In at a6; have a7 := (in_c 1 rfl); unfold In at a7; have a8 := i243; unfold In at a8; have a9 := t_add e243 i139 (in_c 1 rfl) rfl; omega)).2; rw [← e155] at hE; exact up_lt (fun c => g136_1 v hv) (by first | (have a0 := j105_4; unfold In at a0; have a1 := j136_3; unfold In at a1; have a2 := i139a; unfold In at a2; have a3 := j105_1; unfold In at a3; have a4 := ro_109_20; unfold In at a4; have a5 := ro_109_19; unfold In at a5; have a6 := i139; unfold In at a6; have a7 := (in_c 1 rfl); unfold In at a7; have a8 := i243; unfold In at a8; have a9 := t_add e243 i139 (in_c 1 rfl) rfl; omega) | (rw [e241]; exact g136_1 z155.toNatClampNeg (by show ((z155.toInt.toNat : Nat) : Int) < _; have hz := i155; unfold In at hz; omega)) | (rw [e170]; exact g136_1 z155.toNatClampNeg (by show ((z155.toInt.toNat : Nat) : Int) < _; have hz := i155; unfold In at hz; omega))))
                    exact gg_w (by omega) (gg_f (gf_cons rfl (gf_cons rfl (gf_cons rfl (gf_cons rfl (gf_cons rfl (gf_cons rfl (gf_cons rfl gf_nil))))))) (ih136 (sI sc136 157 z155.toNatClampNeg y136_7) z243 hI242 (fr_sI rfl hFc136) (in_w 2 32 j136_3 rfl) (in_w 0 160 i243 rfl) n136 n136a n136b n136c n136d (m_up mm136 (t_add e243 i139 (in_c 1 rfl) rfl) (in_w 1 1 (in_c 1 rfl) rfl))))
      have ct113 : ∀ (k113 : Nat) (sc113 : GS) (y113_7 : Int32), Inv sc113 → Fr fm_363 s sc113 → (In y105_3 2 32) → (In y113_7 0 32) → ((y105_4).toInt < (y105_3).toInt) → (0 ≤ (y105_4).toInt) → (0 ≤ (y105_2).toInt) → (EE sc113 (y105_2).toInt (y105_3).toInt) → (∀ v : Nat, (v : Int) < (y113_7).toInt → (sc113.1 157 v).toInt < 0) → 32 - (y113_7).toInt < (k113 : Int) → GG Z (d - 1) 363 post (gx xp) (1 + k105 * 357304 + 319504 + k113 * 900) 113 (fun j => xlook j [(0, .ref (A 109)), (1, .int x1), (2, .int y105_2), (3, .int y105_3), (4, .int y105_4), (5, .long y105_5), (7, .int y113_7)]) [] (WW Z A sc113 ++ ex) 0 0 := by
        intro k113
        induction k113 with
        | zero => intro sc113 y113_7 hIc113 hFc113 j113_3 j113_7 n113_0 n113_1 n113_2 g113_0 g113_1 mm113; exact m_no mm113 j113_7 rfl
        | succ k113 ih113 =>
          intro sc113 y113_7 hIc113 hFc113 j113_3 j113_7 n113_0 n113_1 n113_2 g113_0 g113_1 mm113
          refine gg_w (M := 1 + k105 * 357304 + 319504 + k113 * 900 + 900) (by omega) ?_
          refine g_iload 115 (gd rfl) rfl rfl ?_
          refine g_iload_n 116 (gd rfl) rfl rfl ?_
          refine g_cmp_ge 119 133 (gd rfl) rfl rfl (fun c116 => ?_) (fun c116 => ?_)
          · skip
            have i116 := r_le2 2 32 c116 j113_3 j113_7 rfl
            refine g_iconst 0 134 (gd rfl) rfl rfl ?_
            refine g_istore 136 (gd rfl) rfl (Nat.le_of_ble_eq_true rfl) ?_
            have n136 : (y105_4).toInt < (y105_3).toInt := by have a0 := j105_4; unfold In at a0; have a1 := j113_3; unfold In at a1; have a2 := j105_2; unfold In at a2; have a3 := j105_1; unfold In at a3; have a4 := ro_109_20; unfold In at a4; have a5 := ro_109_19; unfold In at a5; have a6 := i116; unfold In at a6; have a7 := (in_c 0 rfl); unfold In at a7; omega
            have n136a : 0 ≤ (y105_4).toInt := by have a0 := j105_4; unfold In at a0; have a1 := j113_3; unfold In at a1; have a2 := j105_2; unfold In at a2; have a3 := j105_1; unfold In at a3; have a4 := ro_109_20; unfold In at a4; have a5 := ro_109_19; unfold In at a5; have a6 := i116; unfold In at a6; have a7 := (in_c 0 rfl); unfold In at a7; omega
            have n136b : 0 ≤ (y105_2).toInt := by have a0 := j105_4; unfold In at a0; have a1 := j113_3; unfold In at a1; have a2 := j105_2; unfold In at a2; have a3 := j105_1; unfold In at a3; have a4 := ro_109_20; unfold In at a4; have a5 := ro_109_19; unfold In at a5; have a6 := i116; unfold In at a6; have a7 := (in_c 0 rfl); unfold In at a7; omega
            have n136c : EE sc113 (y105_2).toInt (y105_3).toInt := by first | exact g113_0 | exact ee_cg g136_0 (sI_p rfl) (sI_p rfl)
            have n136d : ∀ v : Nat, (v : Int) < (y105_3).toInt → (sc113.1 157 v).toInt < (y105_2).toInt := by first | (intro v hv; have h := g113_1 v (by have a0 := j105_4; unfold In at a0; have a1 := j113_3; unfold In at a1; have a2 := j105_2; unfold In at a2; have a3 := j105_1; unfold In at a3; have a4 := ro_109_20; unfold In at a4; have a5 := ro_109_19; unfold In at a5; have a6 := i116; unfold In at a6; have a7 := (in_c 0 rfl); unfold In at a7; omega); have a0 := j105_4; unfold In at a0; have a1 := j113_3; unfold In at a1; have a2 := j105_2; unfold In at a2; have a3 := j105_1; unfold In at a3; have a4 := ro_109_20; unfold In at a4; have a5 := ro_109_19; unfold In at a5; have a6 := i116; unfold In at a6; have a7 := (in_c 0 rfl); unfold In at a7; omega) | (intro v hv; rw [sI_q]; have hE := (g136_0 y136_7.toNatClampNeg (by show ((y136_7.toInt.toNat : Nat) : Int) < _; have a0 := j105_4; unfold In at a0; have a1 := j113_3; unfold In at a1; have a2 := j105_2; unfold In at a2; have a3 := j105_1; unfold In at a3; have a4 := ro_109_20; unfold In at a4; have a5 := ro_109_19; unfold In at a5; have a6 := i116; unfold In at a6; have a7 := (in_c 0 rfl); unfold In at a7; omega)).2; rw [← e155] at hE; exact up_lt (fun c => g136_1 v hv) (by first | (have a0 := j105_4; unfold In at a0; have a1 := j113_3; unfold In at a1; have a2 := j105_2; unfold In at a2; have a3 := j105_1; unfold In at a3; have a4 := ro_109_20; unfold In at a4; have a5 := ro_109_19; unfold In at a5; have a6 := i116; unfold In at a6; have a7 := (in_c 0 rfl); unfold In at a7; omega) | (rw [e241]; exact g136_1 z155.toNatClampNeg (by show ((z155.toInt.toNat : Nat) : Int) < _; have hz := i155; unfold In at hz; omega)) | (rw [e170]; exact g136_1 z155.toNatClampNeg (by show ((z155.toInt.toNat : Nat) : Int) < _; have hz := i155; unfold In at hz; omega))))
            exact gg_w (by omega) (gg_f (gf_cons rfl (gf_cons rfl (gf_cons rfl (gf_cons rfl (gf_cons rfl (gf_cons rfl (gf_cons rfl gf_nil))))))) (ct136 161 sc113 (Int32.ofInt 0) hIc113 hFc113 (in_w 2 32 j113_3 rfl) (in_w 0 160 (in_c 0 rfl) rfl) n136 n136a n136b n136c n136d (m_in 161 (in_w 0 160 (in_c 0 rfl) rfl) rfl)))
          · skip
            have i116 := r_lt1 0 31 c116 j113_7 j113_3 rfl
            refine g_aload_n 120 (gd rfl) rfl rfl ?_
            refine g_getA (q2 := 157) 123 (gd rfl) rfl rfl rfl rfl ?_
            refine g_iload 125 (gd rfl) rfl rfl ?_
            refine g_iconst (-1) 126 (gd rfl) rfl rfl ?_
            refine g_iastore 127 (gd rfl) rfl (n := 32) rfl (in_ix i116 rfl) ?_
            have hI126 := inv_sI (q := 157) (j := y113_7.toNatClampNeg) hIc113 rfl (in_w (-1) 159 (in_c (-1) rfl) rfl)
            refine g_iinc 130 (gd rfl) rfl rfl (Nat.le_of_ble_eq_true rfl) (fun z127 e127 => ?_)
            have i127 := in_add 1 32 e127 i116 (in_c 1 rfl) rfl rfl
            refine g_goto 113 (gd rfl) rfl ?_
            have n113 : (y105_4).toInt < (y105_3).toInt := by have a0 := j105_4; unfold In at a0; have a1 := j113_3; unfold In at a1; have a2 := j105_2; unfold In at a2; have a3 := j105_1; unfold In at a3; have a4 := ro_109_20; unfold In at a4; have a5 := ro_109_19; unfold In at a5; have a6 := i116; unfold In at a6; have a7 := i127; unfold In at a7; have a8 := t_add e127 i116 (in_c 1 rfl) rfl; have a9 := (in_c 1 rfl); unfold In at a9; omega
            have n113a : 0 ≤ (y105_4).toInt := by have a0 := j105_4; unfold In at a0; have a1 := j113_3; unfold In at a1; have a2 := j105_2; unfold In at a2; have a3 := j105_1; unfold In at a3; have a4 := ro_109_20; unfold In at a4; have a5 := ro_109_19; unfold In at a5; have a6 := i116; unfold In at a6; have a7 := i127; unfold In at a7; have a8 := t_add e127 i116 (in_c 1 rfl) rfl; have a9 := (in_c 1 rfl); unfold In at a9; omega
            have n113b : 0 ≤ (y105_2).toInt := by have a0 := j105_4; unfold In at a0; have a1 := j113_3; unfold In at a1; have a2 := j105_2; unfold In at a2; have a3 := j105_1; unfold In at a3; have a4 := ro_109_20; unfold In at a4; have a5 := ro_109_19; unfold In at a5; have a6 := i116; unfold In at a6; have a7 := i127; unfold In at a7; have a8 := t_add e127 i116 (in_c 1 rfl) rfl; have a9 := (in_c 1 rfl); unfold In at a9; omega
            have n113c : EE (sI sc113 157 y113_7.toNatClampNeg (Int32.ofInt (-1))) (y105_2).toInt (y105_3).toInt := by first | exact g105_0 | exact ee_cg g113_0 (sI_p rfl) (sI_p rfl)
            have n113d : ∀ v : Nat, (v : Int) < (z127).toInt → ((sI sc113 157 y113_7.toNatClampNeg (Int32.ofInt (-1))).1 157 v).toInt < 0 := by first | (intro v hv; exfalso; have h0 : (Int32.ofInt 0).toInt = 0 := rfl; omega) | (intro v hv; rw [sI_q]; have e7 : y113_7.toNatClampNeg = y113_7.toInt.toNat := rfl; exact up_lt (fun c => g113_1 v (by have a0 := j105_4; unfold In at a0; have a1 := j113_3; unfold In at a1; have a2 := j105_2; unfold In at a2; have a3 := j105_1; unfold In at a3; have a4 := ro_109_20; unfold In at a4; have a5 := ro_109_19; unfold In at a5; have a6 := i116; unfold In at a6; have a7 := i127; unfold In at a7; have a8 := t_add e127 i116 (in_c 1 rfl) rfl; have a9 := (in_c 1 rfl); unfold In at a9; omega)) (by decide))
            exact gg_w (by omega) (gg_f (gf_cons rfl (gf_cons rfl (gf_cons rfl (gf_cons rfl (gf_cons rfl (gf_cons rfl (gf_cons rfl gf_nil))))))) (ih113 (sI sc113 157 y113_7.toNatClampNeg (Int32.ofInt (-1))) z127 hI126 (fr_sI rfl hFc113) (in_w 2 32 j113_3 rfl) (in_w 0 32 i127 rfl) n113 n113a n113b n113c n113d (m_up mm113 (t_add e127 i116 (in_c 1 rfl) rfl) (in_w 1 1 (in_c 1 rfl) rfl))))
      refine g_iload_n 106 (gd rfl) rfl rfl ?_
      refine g_iconst 1 107 (gd rfl) rfl rfl ?_
      refine g_cmp_le 110 457 (gd rfl) rfl rfl (fun c107 => ?_) (fun c107 => ?_)
      · skip
        have i107 := r_le1 0 1 c107 j105_3 (in_c 1 rfl) rfl
        refine g_lload 459 (gd rfl) rfl rfl ?_
        exact g_lreturn (gd rfl) rfl (hP _ _ ⟨sc105, hIc105, hFc105, y105_5, rfl, rfl⟩)
      · skip
        have i107 := r_lt2 2 32 c107 (in_c 1 rfl) j105_3 rfl
        refine g_iconst 0 111 (gd rfl) rfl rfl ?_
        refine g_istore 113 (gd rfl) rfl (Nat.le_of_ble_eq_true rfl) ?_
        have n113 : (y105_4).toInt < (y105_3).toInt := by have a0 := j105_1; unfold In at a0; have a1 := ro_109_20; unfold In at a1; have a2 := ro_109_19; unfold In at a2; have a3 := j105_4; unfold In at a3; have a4 := i107; unfold In at a4; have a5 := j105_2; unfold In at a5; have a6 := (in_c 0 rfl); unfold In at a6; omega
        have n113a : 0 ≤ (y105_4).toInt := by have a0 := j105_1; unfold In at a0; have a1 := ro_109_20; unfold In at a1; have a2 := ro_109_19; unfold In at a2; have a3 := j105_4; unfold In at a3; have a4 := i107; unfold In at a4; have a5 := j105_2; unfold In at a5; have a6 := (in_c 0 rfl); unfold In at a6; omega
        have n113b : 0 ≤ (y105_2).toInt := by have a0 := j105_1; unfold In at a0; have a1 := ro_109_20; unfold In at a1; have a2 := ro_109_19; unfold In at a2; have a3 := j105_4; unfold In at a3; have a4 := i107; unfold In at a4; have a5 := j105_2; unfold In at a5; have a6 := (in_c 0 rfl); unfold In at a6; omega
        have n113c : EE sc105 (y105_2).toInt (y105_3).toInt := by first | exact g105_0 | exact ee_cg g113_0 (sI_p rfl) (sI_p rfl)
        have n113d : ∀ v : Nat, (v : Int) < ((Int32.ofInt 0)).toInt → (sc105.1 157 v).toInt < 0 := by first | (intro v hv; exfalso; have h0 : (Int32.ofInt 0).toInt = 0 := rfl; omega) | (intro v hv; rw [sI_q]; have e7 : y113_7.toNatClampNeg = y113_7.toInt.toNat := rfl; exact up_lt (fun c => g113_1 v (by have a0 := j105_1; unfold In at a0; have a1 := ro_109_20; unfold In at a1; have a2 := ro_109_19; unfold In at a2; have a3 := j105_4; unfold In at a3; have a4 := i107; unfold In at a4; have a5 := j105_2; unfold In at a5; have a6 := (in_c 0 rfl); unfold In at a6; omega)) (by decide))
        exact gg_w (by omega) (gg_f (gf_cons rfl (gf_cons rfl (gf_cons rfl (gf_cons rfl (gf_cons rfl (gf_cons rfl (gf_cons rfl gf_nil))))))) (ct113 33 sc105 (Int32.ofInt 0) hIc105 hFc105 (in_w 2 32 i107 rfl) (in_w 0 32 (in_c 0 rfl) rfl) n113 n113a n113b n113c n113d (m_in 33 (in_w 0 32 (in_c 0 rfl) rfl) rfl)))
  have ct18 : ∀ (k18 : Nat) (sc18 : GS) (y18_2 : Int32) (y18_3 : Int32), Inv sc18 → Fr fm_363 s sc18 → (In x1 0 31) → (In y18_2 0 160) → (In y18_3 0 160) → ((y18_2).toInt ≤ (y18_3).toInt) → (0 ≤ (y18_2).toInt) → ((x1).toInt < (u_109_20).toInt) → (EE sc18 (y18_2).toInt (u_109_20).toInt) → 160 - (y18_3).toInt < (k18 : Int) → GG Z (d - 1) 363 post (gx xp) (11791034 + k18 * 900) 18 (fun j => xlook j [(0, .ref (A 109)), (1, .int x1), (2, .int y18_2), (3, .int y18_3)]) [] (WW Z A sc18 ++ ex) 0 0 := by
    intro k18
    induction k18 with
    | zero => intro sc18 y18_2 y18_3 hIc18 hFc18 j18_1 j18_2 j18_3 n18_0 n18_1 n18_2 g18_0 mm18; exact m_no mm18 j18_3 rfl
    | succ k18 ih18 =>
      intro sc18 y18_2 y18_3 hIc18 hFc18 j18_1 j18_2 j18_3 n18_0 n18_1 n18_2 g18_0 mm18
      refine gg_w (M := 11791034 + k18 * 900 + 900) (by omega) ?_
      refine g_iload_n 19 (gd rfl) rfl rfl ?_
      refine g_sipush 160 22 (gd rfl) rfl rfl ?_
      refine g_cmp_ge 25 94 (gd rfl) rfl rfl (fun c22 => ?_) (fun c22 => ?_)
      · skip
        have i22 := r_le2 160 160 c22 (in_c 160 rfl) j18_3 rfl
        refine g_aload_n 95 (gd rfl) rfl rfl ?_
        refine g_getI 98 (gd rfl) rfl rfl rfl (fun z95 e95 => ?_)
        have q95 : u_109_20 = z95 := (fr_F e_109_20 hFc18 rfl).trans e95.symm
        subst q95
        refine g_istore_n 99 (gd rfl) rfl (Nat.le_of_ble_eq_true rfl) ?_
        refine g_iload_n 100 (gd rfl) rfl rfl ?_
        refine g_istore 102 (gd rfl) rfl (Nat.le_of_ble_eq_true rfl) ?_
        refine g_lconst 0 103 (gd rfl) rfl rfl ?_
        refine g_lstore 105 (gd rfl) rfl (Nat.le_of_ble_eq_true rfl) ?_
        have n105 : (x1).toInt < (u_109_20).toInt := by have a0 := j18_1; unfold In at a0; have a1 := ro_109_20; unfold In at a1; have a2 := ro_109_19; unfold In at a2; have a3 := i22; unfold In at a3; have a4 := j18_2; unfold In at a4; omega
        have n105a : 0 ≤ (x1).toInt := by have a0 := j18_1; unfold In at a0; have a1 := ro_109_20; unfold In at a1; have a2 := ro_109_19; unfold In at a2; have a3 := i22; unfold In at a3; have a4 := j18_2; unfold In at a4; omega
        have n105b : 0 ≤ (y18_2).toInt := by have a0 := j18_1; unfold In at a0; have a1 := ro_109_20; unfold In at a1; have a2 := ro_109_19; unfold In at a2; have a3 := i22; unfold In at a3; have a4 := j18_2; unfold In at a4; omega
        have n105c : EE sc18 (y18_2).toInt (u_109_20).toInt := by first | exact fun e he => g348_1 e (by have a0 := j18_1; unfold In at a0; have a1 := ro_109_20; unfold In at a1; have a2 := ro_109_19; unfold In at a2; have a3 := i22; unfold In at a3; have a4 := j18_2; unfold In at a4; omega) | exact g18_0
        have m105 : (u_109_20).toInt < ((33 : Nat) : Int) := by have a0 := j18_1; unfold In at a0; have a1 := ro_109_20; unfold In at a1; have a2 := ro_109_19; unfold In at a2; have a3 := i22; unfold In at a3; have a4 := j18_2; unfold In at a4; omega
        exact gg_w (by omega) (gg_f (gf_cons rfl (gf_cons rfl (gf_cons rfl (gf_cons rfl (gf_cons rfl (gf_cons rfl gf_nil)))))) (ct105 33 sc18 y18_2 u_109_20 x1 (Int64.ofInt 0) hIc18 hFc18 (in_w 0 31 j18_1 rfl) (in_w 0 160 j18_2 rfl) (in_w 0 32 ro_109_20 rfl) (in_w 0 31 j18_1 rfl) n105 n105a n105b n105c m105))
      · skip
        have i22 := r_lt1 0 159 c22 j18_3 (in_c 160 rfl) rfl
        refine g_aload_n 26 (gd rfl) rfl rfl ?_
        refine g_iload_n 27 (gd rfl) rfl rfl ?_
        refine g_callv (X := _) (As := [.int y18_3]) (r := []) (b := A 109) (q := 109) 30 (gd rfl) rfl rfl rfl rfl rfl (ww_o rfl) (Nat.le_of_ble_eq_true rfl) (mc := 0) (ms := 0) (Nat.zero_le _) (Nat.zero_le _) (P := fun v u => _) ?_ (fun e u h => h) (fun v u h => h)
        intro po27 xx27 hp27 hx27
        refine g_enter2 (k := 288) (N := 300) (by omega) rfl (Nat.le_of_ble_eq_true rfl) ?_
        refine g_aload_n 1 (gd rfl) rfl rfl ?_
        refine g_getA (q2 := 112) 4 (gd rfl) rfl rfl rfl rfl ?_
        refine g_aload_n 5 (gd rfl) rfl rfl ?_
        refine g_getI 8 (gd rfl) rfl rfl rfl (fun z27x5 e27x5 => ?_)
        have q27x5 : u_109_19 = z27x5 := (fr_F e_109_19 hFc18 rfl).trans e27x5.symm
        subst q27x5
        refine g_iload_n 9 (gd rfl) rfl rfl ?_
        refine g_iadd 10 (gd rfl) rfl (fun z27x9 e27x9 => ?_)
        have i27x9 := in_add 0 319 e27x9 ro_109_19 i22 rfl rfl
        refine g_baload 11 (gd rfl) rfl (n := 480) rfl (in_ix i27x9 rfl) (fun z27x10 e27x10 => ?_)
        have i27x10 := inv_I hIc18 (n := 480) (t := 3) 0 1 rfl (in_ix i27x9 rfl) rfl e27x10
        refine g_if_eq 14 43 (gd rfl) rfl rfl (fun c27x11 => ?_) (fun c27x11 => ?_)
        · skip
          have i27x11 := z_eq 0 0 c27x11 i27x10 rfl
          refine g_iconst 0 44 (gd rfl) rfl rfl ?_
          refine g_ireturn (gd rfl) rfl (nb01 (in_w 0 1 (in_c 0 rfl) rfl)) (hp27 _ _ ?_)
          show GG _ _ _ _ _ _ _ _ [.int (Int32.ofInt 0)] _ _ _
          refine g_if_eq 33 88 (gd rfl) rfl rfl (fun c30 => ?_) (fun c30 => ?_)
          · skip
            refine g_iinc 91 (gd rfl) rfl rfl (Nat.le_of_ble_eq_true rfl) (fun z88 e88 => ?_)
            have i88 := in_add 1 160 e88 i22 (in_c 1 rfl) rfl rfl
            refine g_goto 18 (gd rfl) rfl ?_
            have n18 : (y18_2).toInt ≤ (z88).toInt := by have a0 := j18_1; unfold In at a0; have a1 := ro_109_20; unfold In at a1; have a2 := ro_109_19; unfold In at a2; have a3 := i22; unfold In at a3; have a4 := j18_2; unfold In at a4; have a5 := i88; unfold In at a5; have a6 := t_add e88 i22 (in_c 1 rfl) rfl; have a7 := (in_c 1 rfl); unfold In at a7; have a8 := i27x9; unfold In at a8; have a9 := t_add e27x9 ro_109_19 i22 rfl; omega
            have n18a : 0 ≤ (y18_2).toInt := by have a0 := j18_1; unfold In at a0; have a1 := ro_109_20; unfold In at a1; have a2 := ro_109_19; unfold In at a2; have a3 := i22; unfold In at a3; have a4 := j18_2; unfold In at a4; have a5 := i88; unfold In at a5; have a6 := t_add e88 i22 (in_c 1 rfl) rfl; have a7 := (in_c 1 rfl); unfold In at a7; have a8 := i27x9; unfold In at a8; have a9 := t_add e27x9 ro_109_19 i22 rfl; omega
            have n18b : (x1).toInt < (u_109_20).toInt := by have a0 := j18_1; unfold In at a0; have a1 := ro_109_20; unfold In at a1; have a2 := ro_109_19; unfold In at a2; have a3 := i22; unfold In at a3; have a4 := j18_2; unfold In at a4; have a5 := i88; unfold In at a5; have a6 := t_add e88 i22 (in_c 1 rfl) rfl; have a7 := (in_c 1 rfl); unfold In at a7; have a8 := i27x9; unfold In at a8; have a9 := t_add e27x9 ro_109_19 i22 rfl; omega
            have n18c : EE sc18 (y18_2).toInt (u_109_20).toInt := by first | exact g18_0 | exact ee_s g18_0 (y := y18_2) (z := z48) (w := z65) (by simp [sL, sI]) (by simp [sL, sI]) (by have a0 := j18_1; unfold In at a0; have a1 := ro_109_20; unfold In at a1; have a2 := ro_109_19; unfold In at a2; have a3 := i22; unfold In at a3; have a4 := j18_2; unfold In at a4; have a5 := i88; unfold In at a5; have a6 := t_add e88 i22 (in_c 1 rfl) rfl; have a7 := (in_c 1 rfl); unfold In at a7; have a8 := i27x9; unfold In at a8; have a9 := t_add e27x9 ro_109_19 i22 rfl; omega) rfl (by rw [e48, e47, ← e27x9]; exact hk33.1) (by rw [e65, sI_p rfl, e64, ← e27x9]; exact hk33.2) (by have a0 := j18_1; unfold In at a0; have a1 := ro_109_20; unfold In at a1; have a2 := ro_109_19; unfold In at a2; have a3 := i22; unfold In at a3; have a4 := j18_2; unfold In at a4; have a5 := i88; unfold In at a5; have a6 := t_add e88 i22 (in_c 1 rfl) rfl; have a7 := (in_c 1 rfl); unfold In at a7; have a8 := i27x9; unfold In at a8; have a9 := t_add e27x9 ro_109_19 i22 rfl; omega) | exact ee_0 (by decide)
            exact gg_w (by omega) (gg_f (gf_cons rfl (gf_cons rfl (gf_cons rfl (gf_cons rfl gf_nil)))) (ih18 sc18 y18_2 z88 hIc18 hFc18 (in_w 0 31 j18_1 rfl) (in_w 0 160 j18_2 rfl) (in_w 0 160 i88 rfl) n18 n18a n18b n18c (m_up mm18 (t_add e88 i22 (in_c 1 rfl) rfl) (in_w 1 1 (in_c 1 rfl) rfl))))
          · skip
            exact zn_ne c30 (in_c 0 rfl) rfl
        · skip
          have i27x11 := z_ne 1 1 c27x11 i27x10 rfl
          refine g_aload_n 15 (gd rfl) rfl rfl ?_
          refine g_getA (q2 := 113) 18 (gd rfl) rfl rfl rfl rfl ?_
          refine g_aload_n 19 (gd rfl) rfl rfl ?_
          refine g_getI 22 (gd rfl) rfl rfl rfl (fun z27x19 e27x19 => ?_)
          have q27x19 : u_109_19 = z27x19 := (fr_F e_109_19 hFc18 rfl).trans e27x19.symm
          subst q27x19
          refine g_iload_n 23 (gd rfl) rfl rfl ?_
          refine g_iadd 24 (gd rfl) rfl (fun z27x23 e27x23 => ?_)
          have i27x23 := in_add 0 319 e27x23 ro_109_19 i22 rfl rfl
          refine g_iaload 25 (gd rfl) rfl (n := 480) rfl (in_ix i27x23 rfl) (fun z27x24 e27x24 => ?_)
          have i27x24 := inv_I hIc18 (n := 480) (t := 0) 0 31 rfl (in_ix i27x23 rfl) rfl e27x24
          refine g_aload_n 26 (gd rfl) rfl rfl ?_
          refine g_getA (q2 := 114) 29 (gd rfl) rfl rfl rfl rfl ?_
          refine g_aload_n 30 (gd rfl) rfl rfl ?_
          refine g_getI 33 (gd rfl) rfl rfl rfl (fun z27x30 e27x30 => ?_)
          have q27x30 : u_109_19 = z27x30 := (fr_F e_109_19 hFc18 rfl).trans e27x30.symm
          subst q27x30
          refine g_iload_n 34 (gd rfl) rfl rfl ?_
          refine g_iadd 35 (gd rfl) rfl (fun z27x34 e27x34 => ?_)
          have i27x34 := in_add 0 319 e27x34 ro_109_19 i22 rfl rfl
          refine g_iaload 36 (gd rfl) rfl (n := 480) rfl (in_ix i27x34 rfl) (fun z27x35 e27x35 => ?_)
          have i27x35 := inv_I hIc18 (n := 480) (t := 0) 0 31 rfl (in_ix i27x34 rfl) rfl e27x35
          refine g_cmp_eq 39 43 (gd rfl) rfl rfl (fun c27x36 => ?_) (fun c27x36 => ?_)
          · skip
            refine g_iconst 0 44 (gd rfl) rfl rfl ?_
            refine g_ireturn (gd rfl) rfl (nb01 (in_w 0 1 (in_c 0 rfl) rfl)) (hp27 _ _ ?_)
            show GG _ _ _ _ _ _ _ _ [.int (Int32.ofInt 0)] _ _ _
            refine g_if_eq 33 88 (gd rfl) rfl rfl (fun c30 => ?_) (fun c30 => ?_)
            · skip
              refine g_iinc 91 (gd rfl) rfl rfl (Nat.le_of_ble_eq_true rfl) (fun z88 e88 => ?_)
              have i88 := in_add 1 160 e88 i22 (in_c 1 rfl) rfl rfl
              refine g_goto 18 (gd rfl) rfl ?_
              have n18 : (y18_2).toInt ≤ (z88).toInt := by have a0 := j18_1; unfold In at a0; have a1 := ro_109_20; unfold In at a1; have a2 := ro_109_19; unfold In at a2; have a3 := i22; unfold In at a3; have a4 := j18_2; unfold In at a4; have a5 := i88; unfold In at a5; have a6 := t_add e88 i22 (in_c 1 rfl) rfl; have a7 := (in_c 1 rfl); unfold In at a7; have a8 := i27x34; unfold In at a8; have a9 := t_add e27x34 ro_109_19 i22 rfl; have a10 := i27x23; unfold In at a10; have a11 := t_add e27x23 ro_109_19 i22 rfl; have a12 := i27x9; unfold In at a12; have a13 := t_add e27x9 ro_109_19 i22 rfl; omega
              have n18a : 0 ≤ (y18_2).toInt := by have a0 := j18_1; unfold In at a0; have a1 := ro_109_20; unfold In at a1; have a2 := ro_109_19; unfold In at a2; have a3 := i22; unfold In at a3; have a4 := j18_2; unfold In at a4; have a5 := i88; unfold In at a5; have a6 := t_add e88 i22 (in_c 1 rfl) rfl; have a7 := (in_c 1 rfl); unfold In at a7; have a8 := i27x34; unfold In at a8; have a9 := t_add e27x34 ro_109_19 i22 rfl; have a10 := i27x23; unfold In at a10; have a11 := t_add e27x23 ro_109_19 i22 rfl; have a12 := i27x9; unfold In at a12; have a13 := t_add e27x9 ro_109_19 i22 rfl; omega
              have n18b : (x1).toInt < (u_109_20).toInt := by have a0 := j18_1; unfold In at a0; have a1 := ro_109_20; unfold In at a1; have a2 := ro_109_19; unfold In at a2; have a3 := i22; unfold In at a3; have a4 := j18_2; unfold In at a4; have a5 := i88; unfold In at a5; have a6 := t_add e88 i22 (in_c 1 rfl) rfl; have a7 := (in_c 1 rfl); unfold In at a7; have a8 := i27x34; unfold In at a8; have a9 := t_add e27x34 ro_109_19 i22 rfl; have a10 := i27x23; unfold In at a10; have a11 := t_add e27x23 ro_109_19 i22 rfl; have a12 := i27x9; unfold In at a12; have a13 := t_add e27x9 ro_109_19 i22 rfl; omega
              have n18c : EE sc18 (y18_2).toInt (u_109_20).toInt := by first | exact g18_0 | exact ee_s g18_0 (y := y18_2) (z := z48) (w := z65) (by simp [sL, sI]) (by simp [sL, sI]) (by have a0 := j18_1; unfold In at a0; have a1 := ro_109_20; unfold In at a1; have a2 := ro_109_19; unfold In at a2; have a3 := i22; unfold In at a3; have a4 := j18_2; unfold In at a4; have a5 := i88; unfold In at a5; have a6 := t_add e88 i22 (in_c 1 rfl) rfl; have a7 := (in_c 1 rfl); unfold In at a7; have a8 := i27x34; unfold In at a8; have a9 := t_add e27x34 ro_109_19 i22 rfl; have a10 := i27x23; unfold In at a10; have a11 := t_add e27x23 ro_109_19 i22 rfl; have a12 := i27x9; unfold In at a12; have a13 := t_add e27x9 ro_109_19 i22 rfl; omega) rfl (by rw [e48, e47, ← e27x9]; exact hk33.1) (by rw [e65, sI_p rfl, e64, ← e27x9]; exact hk33.2) (by have a0 := j18_1; unfold In at a0; have a1 := ro_109_20; unfold In at a1; have a2 := ro_109_19; unfold In at a2; have a3 := i22; unfold In at a3; have a4 := j18_2; unfold In at a4; have a5 := i88; unfold In at a5; have a6 := t_add e88 i22 (in_c 1 rfl) rfl; have a7 := (in_c 1 rfl); unfold In at a7; have a8 := i27x34; unfold In at a8; have a9 := t_add e27x34 ro_109_19 i22 rfl; have a10 := i27x23; unfold In at a10; have a11 := t_add e27x23 ro_109_19 i22 rfl; have a12 := i27x9; unfold In at a12; have a13 := t_add e27x9 ro_109_19 i22 rfl; omega) | exact ee_0 (by decide)
              exact gg_w (by omega) (gg_f (gf_cons rfl (gf_cons rfl (gf_cons rfl (gf_cons rfl gf_nil)))) (ih18 sc18 y18_2 z88 hIc18 hFc18 (in_w 0 31 j18_1 rfl) (in_w 0 160 j18_2 rfl) (in_w 0 160 i88 rfl) n18 n18a n18b n18c (m_up mm18 (t_add e88 i22 (in_c 1 rfl) rfl) (in_w 1 1 (in_c 1 rfl) rfl))))
            · skip
              exact zn_ne c30 (in_c 0 rfl) rfl
          · skip
            refine g_iconst 1 40 (gd rfl) rfl rfl ?_
            refine g_goto 44 (gd rfl) rfl ?_
            refine g_ireturn (gd rfl) rfl (nb01 (in_w 0 1 (in_c 1 rfl) rfl)) (hp27 _ _ ?_)
            show GG _ _ _ _ _ _ _ _ [.int (Int32.ofInt 1)] _ _ _
            refine g_if_eq 33 88 (gd rfl) rfl rfl (fun c30 => ?_) (fun c30 => ?_)
            · skip
              exact zn_eq c30 (in_c 1 rfl) rfl
            · skip
              have hk33 := ke_n hIc18 (i := z27x9.toNatClampNeg) (by rw [← (show u_109_19 = sc18.2.2.1 109 19 from fr_F e_109_19 hFc18 rfl)]; show _ ≤ ((z27x9.toInt.toNat : Nat) : Int); have a0 := j18_1; unfold In at a0; have a1 := ro_109_20; unfold In at a1; have a2 := ro_109_19; unfold In at a2; have a3 := i22; unfold In at a3; have a4 := j18_2; unfold In at a4; have a5 := i27x34; unfold In at a5; have a6 := t_add e27x34 ro_109_19 i22 rfl; have a7 := i27x23; unfold In at a7; have a8 := t_add e27x23 ro_109_19 i22 rfl; have a9 := i27x9; unfold In at a9; have a10 := t_add e27x9 ro_109_19 i22 rfl; omega) (by rw [← (show u_109_19 = sc18.2.2.1 109 19 from fr_F e_109_19 hFc18 rfl)]; show ((z27x9.toInt.toNat : Nat) : Int) < _; have a0 := j18_1; unfold In at a0; have a1 := ro_109_20; unfold In at a1; have a2 := ro_109_19; unfold In at a2; have a3 := i22; unfold In at a3; have a4 := j18_2; unfold In at a4; have a5 := i27x34; unfold In at a5; have a6 := t_add e27x34 ro_109_19 i22 rfl; have a7 := i27x23; unfold In at a7; have a8 := t_add e27x23 ro_109_19 i22 rfl; have a9 := i27x9; unfold In at a9; have a10 := t_add e27x9 ro_109_19 i22 rfl; omega) (by rw [← e27x10]; exact c27x11); rw [← (show u_109_20 = sc18.2.2.1 109 20 from fr_F e_109_20 hFc18 rfl)] at hk33
              refine g_aload_n 34 (gd rfl) rfl rfl ?_
              refine g_getA (q2 := 153) 37 (gd rfl) rfl rfl rfl rfl ?_
              refine g_iload_n 38 (gd rfl) rfl rfl ?_
              refine g_aload_n 39 (gd rfl) rfl rfl ?_
              refine g_getA (q2 := 113) 42 (gd rfl) rfl rfl rfl rfl ?_
              refine g_aload_n 43 (gd rfl) rfl rfl ?_
              refine g_getI 46 (gd rfl) rfl rfl rfl (fun z43 e43 => ?_)
              have q43 : u_109_19 = z43 := (fr_F e_109_19 hFc18 rfl).trans e43.symm
              subst q43
              refine g_iload_n 47 (gd rfl) rfl rfl ?_
              refine g_iadd 48 (gd rfl) rfl (fun z47 e47 => ?_)
              have i47 := in_add 0 319 e47 ro_109_19 i22 rfl rfl
              refine g_iaload 49 (gd rfl) rfl (n := 480) rfl (in_ix i47 rfl) (fun z48 e48 => ?_)
              have i48 := inv_I hIc18 (n := 480) (t := 0) 0 31 rfl (in_ix i47 rfl) rfl e48
              have i49 : In y18_2 0 159 := by exact ⟨by have a0 := j18_1; unfold In at a0; have a1 := ro_109_20; unfold In at a1; have a2 := ro_109_19; unfold In at a2; have a3 := i22; unfold In at a3; have a4 := j18_2; unfold In at a4; have a5 := i47; unfold In at a5; have a6 := t_add e47 ro_109_19 i22 rfl; have a7 := i27x34; unfold In at a7; have a8 := t_add e27x34 ro_109_19 i22 rfl; have a9 := i27x23; unfold In at a9; have a10 := t_add e27x23 ro_109_19 i22 rfl; have a11 := i27x9; unfold In at a11; have a12 := t_add e27x9 ro_109_19 i22 rfl; omega, by have a0 := j18_1; unfold In at a0; have a1 := ro_109_20; unfold In at a1; have a2 := ro_109_19; unfold In at a2; have a3 := i22; unfold In at a3; have a4 := j18_2; unfold In at a4; have a5 := i47; unfold In at a5; have a6 := t_add e47 ro_109_19 i22 rfl; have a7 := i27x34; unfold In at a7; have a8 := t_add e27x34 ro_109_19 i22 rfl; have a9 := i27x23; unfold In at a9; have a10 := t_add e27x23 ro_109_19 i22 rfl; have a11 := i27x9; unfold In at a11; have a12 := t_add e27x9 ro_109_19 i22 rfl; omega⟩
              refine g_iastore 50 (gd rfl) rfl (n := 160) rfl (in_ix i49 rfl) ?_
              have hI49 := inv_sI (q := 153) (j := y18_2.toNatClampNeg) hIc18 rfl (in_w 0 31 i48 rfl)
              refine g_aload_n 51 (gd rfl) rfl rfl ?_
              refine g_getA (q2 := 154) 54 (gd rfl) rfl rfl rfl rfl ?_
              refine g_iload_n 55 (gd rfl) rfl rfl ?_
              refine g_aload_n 56 (gd rfl) rfl rfl ?_
              refine g_getA (q2 := 114) 59 (gd rfl) rfl rfl rfl rfl ?_
              refine g_aload_n 60 (gd rfl) rfl rfl ?_
              refine g_getI 63 (gd rfl) rfl rfl rfl (fun z60 e60 => ?_)
              have q60 : u_109_19 = z60 := (sI_F (fr_F e_109_19 hFc18 rfl)).trans e60.symm
              subst q60
              refine g_iload_n 64 (gd rfl) rfl rfl ?_
              refine g_iadd 65 (gd rfl) rfl (fun z64 e64 => ?_)
              have i64 := in_add 0 319 e64 ro_109_19 i22 rfl rfl
              refine g_iaload 66 (gd rfl) rfl (n := 480) rfl (in_ix i64 rfl) (fun z65 e65 => ?_)
              have i65 := inv_I hI49 (n := 480) (t := 0) 0 31 rfl (in_ix i64 rfl) rfl e65
              refine g_iastore 67 (gd rfl) rfl (n := 160) rfl (in_ix i49 rfl) ?_
              have hI66 := inv_sI (q := 154) (j := y18_2.toNatClampNeg) hI49 rfl (in_w 0 31 i65 rfl)
              refine g_aload_n 68 (gd rfl) rfl rfl ?_
              refine g_getA (q2 := 155) 71 (gd rfl) rfl rfl rfl rfl ?_
              refine g_iload_n 72 (gd rfl) rfl rfl ?_
              refine g_aload_n 73 (gd rfl) rfl rfl ?_
              refine g_getA (q2 := 115) 76 (gd rfl) rfl rfl rfl rfl ?_
              refine g_aload_n 77 (gd rfl) rfl rfl ?_
              refine g_getI 80 (gd rfl) rfl rfl rfl (fun z77 e77 => ?_)
              have q77 : u_109_19 = z77 := (sI_F (sI_F (fr_F e_109_19 hFc18 rfl))).trans e77.symm
              subst q77
              refine g_iload_n 81 (gd rfl) rfl rfl ?_
              refine g_iadd 82 (gd rfl) rfl (fun z81 e81 => ?_)
              have i81 := in_add 0 319 e81 ro_109_19 i22 rfl rfl
              refine g_iaload 83 (gd rfl) rfl (n := 480) rfl (in_ix i81 rfl) (fun z82 e82 => ?_)
              have i82 := inv_I hI66 (n := 480) (t := 0) (-1000000) 1000000 rfl (in_ix i81 rfl) rfl e82
              refine g_i2l 84 (gd rfl) rfl (fun z83 e83 => ?_)
              have i83 := l_i e83 i82
              refine g_lastore 85 (gd rfl) rfl (n := 160) rfl (in_ix i49 rfl) ?_
              have hI84 := inv_sL (q := 155) (j := y18_2.toNatClampNeg) (x := z83) hI66 rfl (l_rng z83)
              refine g_iinc 88 (gd rfl) rfl rfl (Nat.le_of_ble_eq_true rfl) (fun z85 e85 => ?_)
              have i85 := in_add 1 160 e85 i49 (in_c 1 rfl) rfl rfl
              refine g_iinc 91 (gd rfl) rfl rfl (Nat.le_of_ble_eq_true rfl) (fun z88 e88 => ?_)
              have i88 := in_add 1 160 e88 i22 (in_c 1 rfl) rfl rfl
              refine g_goto 18 (gd rfl) rfl ?_
              have n18 : (z85).toInt ≤ (z88).toInt := by have a0 := j18_1; unfold In at a0; have a1 := ro_109_20; unfold In at a1; have a2 := ro_109_19; unfold In at a2; have a3 := i22; unfold In at a3; have a4 := i49; unfold In at a4; have a5 := i88; unfold In at a5; have a6 := t_add e88 i22 (in_c 1 rfl) rfl; have a7 := (in_c 1 rfl); unfold In at a7; have a8 := i85; unfold In at a8; have a9 := t_add e85 i49 (in_c 1 rfl) rfl; have a10 := tx_i2l e83; have a11 := i82; unfold In at a11; have a12 := i81; unfold In at a12; have a13 := t_add e81 ro_109_19 i22 rfl; have a14 := i64; unfold In at a14; have a15 := t_add e64 ro_109_19 i22 rfl; have a16 := i47; unfold In at a16; have a17 := t_add e47 ro_109_19 i22 rfl; have a18 := i27x34; unfold In at a18; have a19 := t_add e27x34 ro_109_19 i22 rfl; have a20 := i27x23; unfold In at a20; have a21 := t_add e27x23 ro_109_19 i22 rfl; have a22 := i27x9; unfold In at a22; have a23 := t_add e27x9 ro_109_19 i22 rfl; omega
              have n18a : 0 ≤ (z85).toInt := by have a0 := j18_1; unfold In at a0; have a1 := ro_109_20; unfold In at a1; have a2 := ro_109_19; unfold In at a2; have a3 := i22; unfold In at a3; have a4 := i49; unfold In at a4; have a5 := i88; unfold In at a5; have a6 := t_add e88 i22 (in_c 1 rfl) rfl; have a7 := (in_c 1 rfl); unfold In at a7; have a8 := i85; unfold In at a8; have a9 := t_add e85 i49 (in_c 1 rfl) rfl; have a10 := tx_i2l e83; have a11 := i82; unfold In at a11; have a12 := i81; unfold In at a12; have a13 := t_add e81 ro_109_19 i22 rfl; have a14 := i64; unfold In at a14; have a15 := t_add e64 ro_109_19 i22 rfl; have a16 := i47; unfold In at a16; have a17 := t_add e47 ro_109_19 i22 rfl; have a18 := i27x34; unfold In at a18; have a19 := t_add e27x34 ro_109_19 i22 rfl; have a20 := i27x23; unfold In at a20; have a21 := t_add e27x23 ro_109_19 i22 rfl; have a22 := i27x9; unfold In at a22; have a23 := t_add e27x9 ro_109_19 i22 rfl; omega
              have n18b : (x1).toInt < (u_109_20).toInt := by have a0 := j18_1; unfold In at a0; have a1 := ro_109_20; unfold In at a1; have a2 := ro_109_19; unfold In at a2; have a3 := i22; unfold In at a3; have a4 := i49; unfold In at a4; have a5 := i88; unfold In at a5; have a6 := t_add e88 i22 (in_c 1 rfl) rfl; have a7 := (in_c 1 rfl); unfold In at a7; have a8 := i85; unfold In at a8; have a9 := t_add e85 i49 (in_c 1 rfl) rfl; have a10 := tx_i2l e83; have a11 := i82; unfold In at a11; have a12 := i81; unfold In at a12; have a13 := t_add e81 ro_109_19 i22 rfl; have a14 := i64; unfold In at a14; have a15 := t_add e64 ro_109_19 i22 rfl; have a16 := i47; unfold In at a16; have a17 := t_add e47 ro_109_19 i22 rfl; have a18 := i27x34; unfold In at a18; have a19 := t_add e27x34 ro_109_19 i22 rfl; have a20 := i27x23; unfold In at a20; have a21 := t_add e27x23 ro_109_19 i22 rfl; have a22 := i27x9; unfold In at a22; have a23 := t_add e27x9 ro_109_19 i22 rfl; omega
              have n18c : EE (sL (sI (sI sc18 153 y18_2.toNatClampNeg z48) 154 y18_2.toNatClampNeg z65) 155 y18_2.toNatClampNeg z83) (z85).toInt (u_109_20).toInt := by first | exact g18_0 | exact ee_s g18_0 (y := y18_2) (z := z48) (w := z65) (by simp [sL, sI]) (by simp [sL, sI]) (by have a0 := j18_1; unfold In at a0; have a1 := ro_109_20; unfold In at a1; have a2 := ro_109_19; unfold In at a2; have a3 := i22; unfold In at a3; have a4 := i49; unfold In at a4; have a5 := i88; unfold In at a5; have a6 := t_add e88 i22 (in_c 1 rfl) rfl; have a7 := (in_c 1 rfl); unfold In at a7; have a8 := i85; unfold In at a8; have a9 := t_add e85 i49 (in_c 1 rfl) rfl; have a10 := tx_i2l e83; have a11 := i82; unfold In at a11; have a12 := i81; unfold In at a12; have a13 := t_add e81 ro_109_19 i22 rfl; have a14 := i64; unfold In at a14; have a15 := t_add e64 ro_109_19 i22 rfl; have a16 := i47; unfold In at a16; have a17 := t_add e47 ro_109_19 i22 rfl; have a18 := i27x34; unfold In at a18; have a19 := t_add e27x34 ro_109_19 i22 rfl; have a20 := i27x23; unfold In at a20; have a21 := t_add e27x23 ro_109_19 i22 rfl; have a22 := i27x9; unfold In at a22; have a23 := t_add e27x9 ro_109_19 i22 rfl; omega) rfl (by rw [e48, e47, ← e27x9]; exact hk33.1) (by rw [e65, sI_p rfl, e64, ← e27x9]; exact hk33.2) (by have a0 := j18_1; unfold In at a0; have a1 := ro_109_20; unfold In at a1; have a2 := ro_109_19; unfold In at a2; have a3 := i22; unfold In at a3; have a4 := i49; unfold In at a4; have a5 := i88; unfold In at a5; have a6 := t_add e88 i22 (in_c 1 rfl) rfl; have a7 := (in_c 1 rfl); unfold In at a7; have a8 := i85; unfold In at a8; have a9 := t_add e85 i49 (in_c 1 rfl) rfl; have a10 := tx_i2l e83; have a11 := i82; unfold In at a11; have a12 := i81; unfold In at a12; have a13 := t_add e81 ro_109_19 i22 rfl; have a14 := i64; unfold In at a14; have a15 := t_add e64 ro_109_19 i22 rfl; have a16 := i47; unfold In at a16; have a17 := t_add e47 ro_109_19 i22 rfl; have a18 := i27x34; unfold In at a18; have a19 := t_add e27x34 ro_109_19 i22 rfl; have a20 := i27x23; unfold In at a20; have a21 := t_add e27x23 ro_109_19 i22 rfl; have a22 := i27x9; unfold In at a22; have a23 := t_add e27x9 ro_109_19 i22 rfl; omega) | exact ee_0 (by decide)
              exact gg_w (by omega) (gg_f (gf_cons rfl (gf_cons rfl (gf_cons rfl (gf_cons rfl gf_nil)))) (ih18 (sL (sI (sI sc18 153 y18_2.toNatClampNeg z48) 154 y18_2.toNatClampNeg z65) 155 y18_2.toNatClampNeg z83) z85 z88 hI84 (fr_sL rfl (fr_sI rfl (fr_sI rfl hFc18))) (in_w 0 31 j18_1 rfl) (in_w 0 160 i85 rfl) (in_w 0 160 i88 rfl) n18 n18a n18b n18c (m_up mm18 (t_add e88 i22 (in_c 1 rfl) rfl) (in_w 1 1 (in_c 1 rfl) rfl))))
  refine g_enter2 (k := 363) (N := 11936834) (by omega) rfl (Nat.le_of_ble_eq_true rfl) ?_
  refine g_aload_n 1 (gd rfl) rfl rfl ?_
  refine g_aload_n 2 (gd rfl) rfl rfl ?_
  refine g_iload_n 3 (gd rfl) rfl rfl ?_
  refine g_callv (X := _) (As := [.int x1]) (r := [.ref (A 109)]) (b := A 109) (q := 109) 6 (gd rfl) rfl rfl rfl rfl rfl (ww_o rfl) (Nat.le_of_ble_eq_true rfl) (mc := 0) (ms := 0) (Nat.zero_le _) (Nat.zero_le _) (P := fun v u => _) ?_ (fun e u h => h) (fun v u h => h)
  intro po3 xx3 hp3 hx3
  refine g_enter2 (k := 272) (N := 300) (by omega) rfl (Nat.le_of_ble_eq_true rfl) ?_
  refine g_iload_n 1 (gd rfl) rfl rfl ?_
  refine g_if_lt 4 16 (gd rfl) rfl rfl (fun c3x1 => ?_) (fun c3x1 => ?_)
  · skip
    have i3x1 := z_lt (-2147483648) (-1) c3x1 (i_rng x1) rfl
    refine g_iconst 0 17 (gd rfl) rfl rfl ?_
    refine g_ireturn (gd rfl) rfl (nb01 (in_w 0 1 (in_c 0 rfl) rfl)) (hp3 _ _ ?_)
    show GG _ _ _ _ _ _ _ _ [.int (Int32.ofInt 0), .ref (A 109)] _ _ _
    refine g_callv (X := _) (As := [.int (Int32.ofInt 0)]) (r := []) (b := A 109) (q := 109) 9 (gd rfl) rfl rfl rfl rfl rfl (ww_o rfl) (Nat.le_of_ble_eq_true rfl) (mc := 0) (ms := 0) (Nat.zero_le _) (Nat.zero_le _) (P := fun v u => _) ?_ (fun e u h => h) (fun v u h => h)
    intro po6 xx6 hp6 hx6
    refine g_enter2 (k := 271) (N := 300) (by omega) rfl (Nat.le_of_ble_eq_true rfl) ?_
    refine g_aload_n 1 (gd rfl) rfl rfl ?_
    refine g_iload_n 2 (gd rfl) rfl rfl ?_
    refine g_iconst 1 3 (gd rfl) rfl rfl ?_
    refine g_callv (X := _) (As := [.int (Int32.ofInt 0), .int (Int32.ofInt 1)]) (r := []) (b := A 109) (q := 109) 6 (gd rfl) rfl rfl rfl rfl rfl (ww_o rfl) (Nat.le_of_ble_eq_true rfl) (mc := 0) (ms := 0) (Nat.zero_le _) (Nat.zero_le _) (P := fun v u => _) ?_ (fun e u h => h) (fun v u h => h)
    intro po6x3 xx6x3 hp6x3 hx6x3
    refine g_enter2 (k := 270) (N := 300) (by omega) rfl (Nat.le_of_ble_eq_true rfl) ?_
    refine g_aload_n 1 (gd rfl) rfl rfl ?_
    refine g_iload_n 2 (gd rfl) rfl rfl ?_
    refine g_if_ne 5 9 (gd rfl) rfl rfl (fun c6x3x2 => ?_) (fun c6x3x2 => ?_)
    · skip
      exact zn_ne c6x3x2 (in_c 0 rfl) rfl
    · skip
      refine g_iconst 1 6 (gd rfl) rfl rfl ?_
      refine g_goto 18 (gd rfl) rfl ?_
      refine g_putI 21 (gd rfl) rfl rfl rfl rfl ?_
      have hI6x3x18 := inv_sF (q := 109) (j := 0) hI rfl (in_w 0 2 (in_c 1 rfl) rfl)
      refine g_aload_n 22 (gd rfl) rfl rfl ?_
      refine g_getI 25 (gd rfl) rfl rfl rfl (fun z6x3x22 e6x3x22 => ?_)
      have q6x3x22 : (Int32.ofInt 1) = z6x3x22 := (sF_get).trans e6x3x22.symm
      subst q6x3x22
      refine g_if_le 28 32 (gd rfl) rfl rfl (fun c6x3x25 => ?_) (fun c6x3x25 => ?_)
      · skip
        exact zn_le c6x3x25 (in_c 1 rfl) rfl
      · skip
        refine g_iconst 1 29 (gd rfl) rfl rfl ?_
        refine g_goto 33 (gd rfl) rfl ?_
        refine g_ireturn (gd rfl) rfl (nb01 (in_w 0 1 (in_c 1 rfl) rfl)) (hp6x3 _ _ ?_)
        show GG _ _ _ _ _ _ _ _ [.int (Int32.ofInt 1)] _ _ _
        refine g_ireturn (gd rfl) rfl (nb01 (in_w 0 1 (in_c 1 rfl) rfl)) (hp6 _ _ ?_)
        show GG _ _ _ _ _ _ _ _ [.int (Int32.ofInt 1)] _ _ _
        refine g_if_eq 12 14 (gd rfl) rfl rfl (fun c9 => ?_) (fun c9 => ?_)
        · skip
          exact zn_eq c9 (in_c 1 rfl) rfl
        · skip
          refine g_lconst 0 13 (gd rfl) rfl rfl ?_
          exact g_lreturn (gd rfl) rfl (hP _ _ ⟨(sF s 109 0 (Int32.ofInt 1)), hI6x3x18, (fr_sF rfl fr_rf), (Int64.ofInt 0), rfl, rfl⟩)
  · skip
    have i3x1 := z_ge 0 2147483647 c3x1 (i_rng x1) rfl
    refine g_iload_n 5 (gd rfl) rfl rfl ?_
    refine g_aload_n 6 (gd rfl) rfl rfl ?_
    refine g_getI 9 (gd rfl) rfl rfl rfl (fun z3x6 e3x6 => ?_)
    have q3x6 : u_109_20 = z3x6 := (e_109_20).trans e3x6.symm
    subst q3x6
    refine g_cmp_ge 12 16 (gd rfl) rfl rfl (fun c3x9 => ?_) (fun c3x9 => ?_)
    · skip
      refine g_iconst 0 17 (gd rfl) rfl rfl ?_
      refine g_ireturn (gd rfl) rfl (nb01 (in_w 0 1 (in_c 0 rfl) rfl)) (hp3 _ _ ?_)
      show GG _ _ _ _ _ _ _ _ [.int (Int32.ofInt 0), .ref (A 109)] _ _ _
      refine g_callv (X := _) (As := [.int (Int32.ofInt 0)]) (r := []) (b := A 109) (q := 109) 9 (gd rfl) rfl rfl rfl rfl rfl (ww_o rfl) (Nat.le_of_ble_eq_true rfl) (mc := 0) (ms := 0) (Nat.zero_le _) (Nat.zero_le _) (P := fun v u => _) ?_ (fun e u h => h) (fun v u h => h)
      intro po6 xx6 hp6 hx6
      refine g_enter2 (k := 271) (N := 300) (by omega) rfl (Nat.le_of_ble_eq_true rfl) ?_
      refine g_aload_n 1 (gd rfl) rfl rfl ?_
      refine g_iload_n 2 (gd rfl) rfl rfl ?_
      refine g_iconst 1 3 (gd rfl) rfl rfl ?_
      refine g_callv (X := _) (As := [.int (Int32.ofInt 0), .int (Int32.ofInt 1)]) (r := []) (b := A 109) (q := 109) 6 (gd rfl) rfl rfl rfl rfl rfl (ww_o rfl) (Nat.le_of_ble_eq_true rfl) (mc := 0) (ms := 0) (Nat.zero_le _) (Nat.zero_le _) (P := fun v u => _) ?_ (fun e u h => h) (fun v u h => h)
      intro po6x3 xx6x3 hp6x3 hx6x3
      refine g_enter2 (k := 270) (N := 300) (by omega) rfl (Nat.le_of_ble_eq_true rfl) ?_
      refine g_aload_n 1 (gd rfl) rfl rfl ?_
      refine g_iload_n 2 (gd rfl) rfl rfl ?_
      refine g_if_ne 5 9 (gd rfl) rfl rfl (fun c6x3x2 => ?_) (fun c6x3x2 => ?_)
      · skip
        exact zn_ne c6x3x2 (in_c 0 rfl) rfl
      · skip
        refine g_iconst 1 6 (gd rfl) rfl rfl ?_
        refine g_goto 18 (gd rfl) rfl ?_
        refine g_putI 21 (gd rfl) rfl rfl rfl rfl ?_
        have hI6x3x18 := inv_sF (q := 109) (j := 0) hI rfl (in_w 0 2 (in_c 1 rfl) rfl)
        refine g_aload_n 22 (gd rfl) rfl rfl ?_
        refine g_getI 25 (gd rfl) rfl rfl rfl (fun z6x3x22 e6x3x22 => ?_)
        have q6x3x22 : (Int32.ofInt 1) = z6x3x22 := (sF_get).trans e6x3x22.symm
        subst q6x3x22
        refine g_if_le 28 32 (gd rfl) rfl rfl (fun c6x3x25 => ?_) (fun c6x3x25 => ?_)
        · skip
          exact zn_le c6x3x25 (in_c 1 rfl) rfl
        · skip
          refine g_iconst 1 29 (gd rfl) rfl rfl ?_
          refine g_goto 33 (gd rfl) rfl ?_
          refine g_ireturn (gd rfl) rfl (nb01 (in_w 0 1 (in_c 1 rfl) rfl)) (hp6x3 _ _ ?_)
          show GG _ _ _ _ _ _ _ _ [.int (Int32.ofInt 1)] _ _ _
          refine g_ireturn (gd rfl) rfl (nb01 (in_w 0 1 (in_c 1 rfl) rfl)) (hp6 _ _ ?_)
          show GG _ _ _ _ _ _ _ _ [.int (Int32.ofInt 1)] _ _ _
          refine g_if_eq 12 14 (gd rfl) rfl rfl (fun c9 => ?_) (fun c9 => ?_)
          · skip
            exact zn_eq c9 (in_c 1 rfl) rfl
          · skip
            refine g_lconst 0 13 (gd rfl) rfl rfl ?_
            exact g_lreturn (gd rfl) rfl (hP _ _ ⟨(sF s 109 0 (Int32.ofInt 1)), hI6x3x18, (fr_sF rfl fr_rf), (Int64.ofInt 0), rfl, rfl⟩)
    · skip
      have i3x9 := r_lt1 0 31 c3x9 i3x1 ro_109_20 rfl
      have i3x9a := r_lt2 1 32 c3x9 i3x1 ro_109_20 rfl
      refine g_iconst 1 13 (gd rfl) rfl rfl ?_
      refine g_goto 17 (gd rfl) rfl ?_
      refine g_ireturn (gd rfl) rfl (nb01 (in_w 0 1 (in_c 1 rfl) rfl)) (hp3 _ _ ?_)
      show GG _ _ _ _ _ _ _ _ [.int (Int32.ofInt 1), .ref (A 109)] _ _ _
      refine g_callv (X := _) (As := [.int (Int32.ofInt 1)]) (r := []) (b := A 109) (q := 109) 9 (gd rfl) rfl rfl rfl rfl rfl (ww_o rfl) (Nat.le_of_ble_eq_true rfl) (mc := 0) (ms := 0) (Nat.zero_le _) (Nat.zero_le _) (P := fun v u => _) ?_ (fun e u h => h) (fun v u h => h)
      intro po6 xx6 hp6 hx6
      refine g_enter2 (k := 271) (N := 300) (by omega) rfl (Nat.le_of_ble_eq_true rfl) ?_
      refine g_aload_n 1 (gd rfl) rfl rfl ?_
      refine g_iload_n 2 (gd rfl) rfl rfl ?_
      refine g_iconst 1 3 (gd rfl) rfl rfl ?_
      refine g_callv (X := _) (As := [.int (Int32.ofInt 1), .int (Int32.ofInt 1)]) (r := []) (b := A 109) (q := 109) 6 (gd rfl) rfl rfl rfl rfl rfl (ww_o rfl) (Nat.le_of_ble_eq_true rfl) (mc := 0) (ms := 0) (Nat.zero_le _) (Nat.zero_le _) (P := fun v u => _) ?_ (fun e u h => h) (fun v u h => h)
      intro po6x3 xx6x3 hp6x3 hx6x3
      refine g_enter2 (k := 270) (N := 300) (by omega) rfl (Nat.le_of_ble_eq_true rfl) ?_
      refine g_aload_n 1 (gd rfl) rfl rfl ?_
      refine g_iload_n 2 (gd rfl) rfl rfl ?_
      refine g_if_ne 5 9 (gd rfl) rfl rfl (fun c6x3x2 => ?_) (fun c6x3x2 => ?_)
      · skip
        refine g_iload_n 10 (gd rfl) rfl rfl ?_
        refine g_if_ne 13 17 (gd rfl) rfl rfl (fun c6x3x10 => ?_) (fun c6x3x10 => ?_)
        · skip
          refine g_iconst 0 18 (gd rfl) rfl rfl ?_
          refine g_putI 21 (gd rfl) rfl rfl rfl rfl ?_
          have hI6x3x18 := inv_sF (q := 109) (j := 0) hI rfl (in_w 0 2 (in_c 0 rfl) rfl)
          refine g_aload_n 22 (gd rfl) rfl rfl ?_
          refine g_getI 25 (gd rfl) rfl rfl rfl (fun z6x3x22 e6x3x22 => ?_)
          have q6x3x22 : (Int32.ofInt 0) = z6x3x22 := (sF_get).trans e6x3x22.symm
          subst q6x3x22
          refine g_if_le 28 32 (gd rfl) rfl rfl (fun c6x3x25 => ?_) (fun c6x3x25 => ?_)
          · skip
            refine g_iconst 0 33 (gd rfl) rfl rfl ?_
            refine g_ireturn (gd rfl) rfl (nb01 (in_w 0 1 (in_c 0 rfl) rfl)) (hp6x3 _ _ ?_)
            show GG _ _ _ _ _ _ _ _ [.int (Int32.ofInt 0)] _ _ _
            refine g_ireturn (gd rfl) rfl (nb01 (in_w 0 1 (in_c 0 rfl) rfl)) (hp6 _ _ ?_)
            show GG _ _ _ _ _ _ _ _ [.int (Int32.ofInt 0)] _ _ _
            refine g_if_eq 12 14 (gd rfl) rfl rfl (fun c9 => ?_) (fun c9 => ?_)
            · skip
              refine g_iconst 0 15 (gd rfl) rfl rfl ?_
              refine g_istore_n 16 (gd rfl) rfl (Nat.le_of_ble_eq_true rfl) ?_
              refine g_iconst 0 17 (gd rfl) rfl rfl ?_
              refine g_istore_n 18 (gd rfl) rfl (Nat.le_of_ble_eq_true rfl) ?_
              have n18 : ((Int32.ofInt 0)).toInt ≤ ((Int32.ofInt 0)).toInt := by have a0 := i3x9; unfold In at a0; have a1 := i3x9a; unfold In at a1; have a2 := ro_109_19; unfold In at a2; have a3 := (in_c 0 rfl); unfold In at a3; omega
              have n18a : 0 ≤ ((Int32.ofInt 0)).toInt := by have a0 := i3x9; unfold In at a0; have a1 := i3x9a; unfold In at a1; have a2 := ro_109_19; unfold In at a2; have a3 := (in_c 0 rfl); unfold In at a3; omega
              have n18b : (x1).toInt < (u_109_20).toInt := by have a0 := i3x9; unfold In at a0; have a1 := i3x9a; unfold In at a1; have a2 := ro_109_19; unfold In at a2; have a3 := (in_c 0 rfl); unfold In at a3; omega
              have n18c : EE (sF s 109 0 (Int32.ofInt 0)) ((Int32.ofInt 0)).toInt (u_109_20).toInt := by first | exact g18_0 | exact ee_s g18_0 (y := y18_2) (z := z48) (w := z65) (by simp [sL, sI]) (by simp [sL, sI]) (by have a0 := i3x9; unfold In at a0; have a1 := i3x9a; unfold In at a1; have a2 := ro_109_19; unfold In at a2; have a3 := (in_c 0 rfl); unfold In at a3; omega) rfl (by rw [e48, e47, ← e27x9]; exact hk33.1) (by rw [e65, sI_p rfl, e64, ← e27x9]; exact hk33.2) (by have a0 := i3x9; unfold In at a0; have a1 := i3x9a; unfold In at a1; have a2 := ro_109_19; unfold In at a2; have a3 := (in_c 0 rfl); unfold In at a3; omega) | exact ee_0 (by decide)
              exact gg_w (by omega) (gg_f (gf_cons rfl (gf_cons rfl (gf_cons rfl (gf_cons rfl gf_nil)))) (ct18 161 (sF s 109 0 (Int32.ofInt 0)) (Int32.ofInt 0) (Int32.ofInt 0) hI6x3x18 (fr_sF rfl fr_rf) (in_w 0 31 i3x9 rfl) (in_w 0 160 (in_c 0 rfl) rfl) (in_w 0 160 (in_c 0 rfl) rfl) n18 n18a n18b n18c (m_in 161 (in_w 0 160 (in_c 0 rfl) rfl) rfl)))
            · skip
              exact zn_ne c9 (in_c 0 rfl) rfl
          · skip
            exact zn_gt c6x3x25 (in_c 0 rfl) rfl
        · skip
          exact zn_eq c6x3x10 (in_c 1 rfl) rfl
      · skip
        exact zn_eq c6x3x2 (in_c 1 rfl) rfl

def fm_79_65_2 : FM := ([66, 67, 68, 69, 70, 71, 72, 73, 74], [75], [(65, 0), (65, 1), (65, 2), (65, 4), (65, 8)], [(65, 3)])
/-- GraphHouse$Flows.cheapest -/
theorem k_79_65_2 {Z : AmZ} {A : Nat → Nat} {s : GS} {ex : va_W} {d : Nat} {X : AmX} {x2 : Int32} {x3 : Int32} {x4 : Int32} (hd : 6 ≤ d) (hI : Inv s) (h2 : In x2 0 31) (h3 : In x3 0 31) (h4 : In x4 0 200000000) : GC Z d 79 [.ref (A 65), .ref (A 2), .int x2, .int x3, .int x4] (WW Z A s ++ ex) 0 0 (fun v u => ∃ t : GS, Inv t ∧ Fr fm_79_65_2 s t ∧ ∃ z : Int64, v = some (.long z) ∧ u = WW Z A t ++ ex) X := by
  intro post xp hP hX
  obtain ⟨u_2_1, e_2_1⟩ : ∃ w, w = s.2.2.1 2 1 := ⟨_, rfl⟩
  have ro_2_1 := inv_F hI 0 32 rfl e_2_1
  have ct94 : ∀ (k94 : Nat) (sc94 : GS) (y94_5 : Int64) (y94_7 : Int32) (y94_8 : Int32), Inv sc94 → Fr fm_79_65_2 s sc94 → (In y94_7 1 1048576) → (In y94_8 0 160) → 160 - (y94_8).toInt < (k94 : Int) → GG Z (d - 1) 79 post (gx xp) (1 + k94 * 900) 94 (fun j => xlook j [(0, .ref (A 65)), (1, .ref (A 2)), (2, .int x2), (3, .int x3), (4, .int x4), (5, .long y94_5), (7, .int y94_7), (8, .int y94_8)]) [] (WW Z A sc94 ++ ex) 0 0 := by
    intro k94
    induction k94 with
    | zero => intro sc94 y94_5 y94_7 y94_8 hIc94 hFc94 j94_7 j94_8 mm94; exact m_no mm94 j94_8 rfl
    | succ k94 ih94 =>
      intro sc94 y94_5 y94_7 y94_8 hIc94 hFc94 j94_7 j94_8 mm94
      refine gg_w (M := 1 + k94 * 900 + 900) (by omega) ?_
      refine g_iload 96 (gd rfl) rfl rfl ?_
      refine g_aload_n 97 (gd rfl) rfl rfl ?_
      refine g_getI 100 (gd rfl) rfl rfl rfl (fun z97 e97 => ?_)
      have i97 := inv_F hIc94 0 160 rfl e97
      refine g_cmp_ge 103 131 (gd rfl) rfl rfl (fun c100 => ?_) (fun c100 => ?_)
      · skip
        refine g_lload 133 (gd rfl) rfl rfl ?_
        exact g_lreturn (gd rfl) rfl (hP _ _ ⟨sc94, hIc94, hFc94, y94_5, rfl, rfl⟩)
      · skip
        have i100 := r_lt1 0 159 c100 j94_8 i97 rfl
        have i100a := r_lt2 1 160 c100 j94_8 i97 rfl
        refine g_lload 105 (gd rfl) rfl rfl ?_
        refine g_aload_n 106 (gd rfl) rfl rfl ?_
        refine g_getA (q2 := 71) 109 (gd rfl) rfl rfl rfl rfl ?_
        refine g_iload 111 (gd rfl) rfl rfl ?_
        refine g_iaload 112 (gd rfl) rfl (n := 160) rfl (in_ix i100 rfl) (fun z111 e111 => ?_)
        have i111 := inv_I hIc94 (n := 160) (t := 0) (-1000000) 1000000 rfl (in_ix i100 rfl) rfl e111
        refine g_i2l 113 (gd rfl) rfl (fun z112 e112 => ?_)
        have i112 := l_i e112 i111
        refine g_aload_n 114 (gd rfl) rfl rfl ?_
        refine g_getA (q2 := 73) 117 (gd rfl) rfl rfl rfl rfl ?_
        refine g_iload 119 (gd rfl) rfl rfl ?_
        refine g_iaload 120 (gd rfl) rfl (n := 160) rfl (in_ix i100 rfl) (fun z119 e119 => ?_)
        refine g_i2l 121 (gd rfl) rfl (fun z120 e120 => ?_)
        have i120 := l_i e120 (i_rng z119)
        refine g_lmul 122 (gd rfl) rfl (fun z121 e121 => ?_)
        refine g_ladd 123 (gd rfl) rfl (fun z122 e122 => ?_)
        refine g_lstore 125 (gd rfl) rfl (Nat.le_of_ble_eq_true rfl) ?_
        refine g_iinc 128 (gd rfl) rfl rfl (Nat.le_of_ble_eq_true rfl) (fun z125 e125 => ?_)
        have i125 := in_add 1 160 e125 i100 (in_c 1 rfl) rfl rfl
        refine g_goto 94 (gd rfl) rfl ?_
        exact gg_w (by omega) (gg_f (gf_cons rfl (gf_cons rfl (gf_cons rfl (gf_cons rfl (gf_cons rfl (gf_cons rfl (gf_cons rfl (gf_cons rfl gf_nil)))))))) (ih94 sc94 z122 y94_7 z125 hIc94 hFc94 (in_w 1 1048576 j94_7 rfl) (in_w 0 160 i125 rfl) (m_up mm94 (t_add e125 i100 (in_c 1 rfl) rfl) (in_w 1 1 (in_c 1 rfl) rfl))))
  have ct50 : ∀ (k50 : Nat) (sc50 : GS) (y50_5 : Int64) (y50_7 : Int32) (y50_8 : Int32), Inv sc50 → Fr fm_79_65_2 s sc50 → (In y50_7 1 1048576) → (In y50_8 0 65536) → (y50_8).toInt < (k50 : Int) → GG Z (d - 1) 79 post (gx xp) (144902 + k50 * 900) 50 (fun j => xlook j [(0, .ref (A 65)), (1, .ref (A 2)), (2, .int x2), (3, .int x3), (4, .int x4), (5, .long y50_5), (7, .int y50_7), (8, .int y50_8)]) [] (WW Z A sc50 ++ ex) 0 0 := by
    intro k50
    induction k50 with
    | zero => intro sc50 y50_5 y50_7 y50_8 hIc50 hFc50 j50_7 j50_8 mm50; exfalso; have a0 := h3; unfold In at a0; have a1 := h2; unfold In at a1; have a2 := ro_2_1; unfold In at a2; have a3 := j50_8; unfold In at a3; have a4 := j50_7; unfold In at a4; have a5 := h4; unfold In at a5; omega
    | succ k50 ih50 =>
      intro sc50 y50_5 y50_7 y50_8 hIc50 hFc50 j50_7 j50_8 mm50
      refine gg_w (M := 144902 + k50 * 900 + 900) (by omega) ?_
      refine g_iload 52 (gd rfl) rfl rfl ?_
      refine g_if_le 55 91 (gd rfl) rfl rfl (fun c52 => ?_) (fun c52 => ?_)
      · skip
        have i52 := z_le 0 0 c52 j50_8 rfl
        refine g_iconst 0 92 (gd rfl) rfl rfl ?_
        refine g_istore 94 (gd rfl) rfl (Nat.le_of_ble_eq_true rfl) ?_
        exact gg_w (by omega) (gg_f (gf_cons rfl (gf_cons rfl (gf_cons rfl (gf_cons rfl (gf_cons rfl (gf_cons rfl (gf_cons rfl (gf_cons rfl gf_nil)))))))) (ct94 161 sc50 y50_5 y50_7 (Int32.ofInt 0) hIc50 hFc50 (in_w 1 1048576 j50_7 rfl) (in_w 0 160 (in_c 0 rfl) rfl) (m_in 161 (in_w 0 160 (in_c 0 rfl) rfl) rfl)))
      · skip
        have i52 := z_gt 1 65536 c52 j50_8 rfl
        refine g_aload_n 56 (gd rfl) rfl rfl ?_
        refine g_aload_n 57 (gd rfl) rfl rfl ?_
        refine g_getI 60 (gd rfl) rfl rfl rfl (fun z57 e57 => ?_)
        have q57 : u_2_1 = z57 := (fr_F e_2_1 hFc50 rfl).trans e57.symm
        subst q57
        refine g_iload 62 (gd rfl) rfl rfl ?_
        refine g_iload 64 (gd rfl) rfl rfl ?_
        refine g_callv (X := _) (As := [.int u_2_1, .int y50_7, .int y50_8]) (r := []) (b := A 65) (q := 65) 67 (gd rfl) rfl rfl rfl rfl rfl (ww_o rfl) (Nat.le_of_ble_eq_true rfl) (Nat.zero_le _) (Nat.zero_le _) (k_81_65 (by omega) hIc50 (in_w 0 32 ro_2_1 rfl) (in_w 1 1048576 j50_7 rfl) (in_w 1 65536 i52 rfl)) (fun e u h => h) (fun v u h => ?_)
        obtain ⟨s64, hI64, hF64, rfl, rfl⟩ := h
        show GG _ _ _ _ _ _ _ _ [] _ _ _
        refine g_aload_n 68 (gd rfl) rfl rfl ?_
        refine g_aload_n 69 (gd rfl) rfl rfl ?_
        refine g_getI 72 (gd rfl) rfl rfl rfl (fun z69 e69 => ?_)
        have q69 : u_2_1 = z69 := (fr_F (fr_F e_2_1 hFc50 rfl) hF64 rfl).trans e69.symm
        subst q69
        refine g_iload 74 (gd rfl) rfl rfl ?_
        refine g_callv (X := _) (As := [.int u_2_1, .int y50_8]) (r := []) (b := A 65) (q := 65) 77 (gd rfl) rfl rfl rfl rfl rfl (ww_o rfl) (Nat.le_of_ble_eq_true rfl) (Nat.zero_le _) (Nat.zero_le _) (k_83_65 (by omega) hI64 (in_w 0 32 ro_2_1 rfl) (in_w 1 65536 i52 rfl)) (fun e u h => h) (fun v u h => ?_)
        obtain ⟨s74, hI74, hF74, rfl, rfl⟩ := h
        show GG _ _ _ _ _ _ _ _ [] _ _ _
        refine g_iload 79 (gd rfl) rfl rfl ?_
        refine g_istore 81 (gd rfl) rfl (Nat.le_of_ble_eq_true rfl) ?_
        refine g_iload 83 (gd rfl) rfl rfl ?_
        refine g_bipush 16 85 (gd rfl) rfl rfl ?_
        refine g_idiv 86 (gd rfl) rfl (by decide) (fun z85 e85 => ?_)
        have i85 := in_div 0 4096 e85 i52 rfl rfl
        refine g_istore 88 (gd rfl) rfl (Nat.le_of_ble_eq_true rfl) ?_
        refine g_goto 50 (gd rfl) rfl ?_
        have m50 : (z85).toInt < ((k50 : Nat) : Int) := by have a0 := h3; unfold In at a0; have a1 := h2; unfold In at a1; have a2 := ro_2_1; unfold In at a2; have a3 := i52; unfold In at a3; have a4 := j50_7; unfold In at a4; have a5 := i85; unfold In at a5; have a6 := t_div e85 i52 rfl; have a7 := h4; unfold In at a7; omega
        exact gg_w (by omega) (gg_f (gf_cons rfl (gf_cons rfl (gf_cons rfl (gf_cons rfl (gf_cons rfl (gf_cons rfl (gf_cons rfl (gf_cons rfl gf_nil)))))))) (ih50  s74 y50_5 y50_8 z85 hI74 (fr_tr rfl (fr_tr rfl hFc50 hF64) hF74) (in_w 1 1048576 i52 rfl) (in_w 0 65536 i85 rfl) m50))
  refine g_enter2 (k := 79) (N := 63145802) (by omega) rfl (Nat.le_of_ble_eq_true rfl) ?_
  refine g_iload 2 (gd rfl) rfl rfl ?_
  refine g_i2l 3 (gd rfl) rfl (fun z2 e2 => ?_)
  have i2 := l_i e2 h4
  refine g_aload_n 4 (gd rfl) rfl rfl ?_
  refine g_aload_n 5 (gd rfl) rfl rfl ?_
  refine g_iload_n 6 (gd rfl) rfl rfl ?_
  refine g_iload_n 7 (gd rfl) rfl rfl ?_
  refine g_callv (X := _) (As := [.ref (A 2), .int x2, .int x3]) (r := [.long z2]) (b := A 65) (q := 65) 10 (gd rfl) rfl rfl rfl rfl rfl (ww_o rfl) (Nat.le_of_ble_eq_true rfl) (Nat.zero_le _) (Nat.zero_le _) (k_75_65_2 (by omega) hI (in_w 0 31 h2 rfl) (in_w 0 31 h3 rfl)) (fun e u h => h) (fun v u h => ?_)
  obtain ⟨s7, hI7, hF7, z7, rfl, rfl⟩ := h
  show GG _ _ _ _ _ _ _ _ [.long z7, .long z2] _ _ _
  refine g_lcmp 11 (gd rfl) rfl (fun z10 e10 => ?_)
  have i10 := lc_in e10
  refine g_if_le 14 18 (gd rfl) rfl rfl (fun c11 => ?_) (fun c11 => ?_)
  · skip
    have i11 := z_le (-1) 0 c11 i10 rfl
    have c11a := lc_le e10 c11
    have i11a := lr_le2 0 9223372036854775807 c11a i2 (l_rng z7) rfl
    refine g_aload_n 19 (gd rfl) rfl rfl ?_
    refine g_aload_n 20 (gd rfl) rfl rfl ?_
    refine g_callv (X := _) (As := [.ref (A 2)]) (r := []) (b := A 65) (q := 65) 23 (gd rfl) rfl rfl rfl rfl rfl (ww_o rfl) (Nat.le_of_ble_eq_true rfl) (Nat.zero_le _) (Nat.zero_le _) (k_80_65_2 (by omega) hI7 ) (fun e u h => h) (fun v u h => ?_)
    obtain ⟨s20, hI20, hF20, z20, rfl, rfl⟩ := h
    show GG _ _ _ _ _ _ _ _ [.long z20] _ _ _
    refine g_lstore 25 (gd rfl) rfl (Nat.le_of_ble_eq_true rfl) ?_
    refine g_aload_n 26 (gd rfl) rfl rfl ?_
    refine g_getA (q2 := 74) 29 (gd rfl) rfl rfl rfl rfl ?_
    refine g_iload_n 30 (gd rfl) rfl rfl ?_
    refine g_iload 32 (gd rfl) rfl rfl ?_
    refine g_iastore 33 (gd rfl) rfl (n := 32) rfl (in_ix h2 rfl) ?_
    have hI32 := inv_sI (q := 74) (j := x2.toNatClampNeg) hI20 rfl (in_w (-2147483648) 2147483647 h4 rfl)
    refine g_aload_n 34 (gd rfl) rfl rfl ?_
    refine g_getA (q2 := 74) 37 (gd rfl) rfl rfl rfl rfl ?_
    refine g_iload_n 38 (gd rfl) rfl rfl ?_
    refine g_iload 40 (gd rfl) rfl rfl ?_
    refine g_ineg 41 (gd rfl) rfl (fun z40 e40 => ?_)
    have i40 := in_neg (-200000000) 0 e40 h4 rfl
    refine g_iastore 42 (gd rfl) rfl (n := 32) rfl (in_ix h3 rfl) ?_
    have hI41 := inv_sI (q := 74) (j := x3.toNatClampNeg) hI32 rfl (in_w (-2147483648) 2147483647 i40 rfl)
    refine g_ldc 1048576 44 (gd rfl) rfl rfl ?_
    refine g_istore 46 (gd rfl) rfl (Nat.le_of_ble_eq_true rfl) ?_
    refine g_ldc 65536 48 (gd rfl) rfl rfl ?_
    refine g_istore 50 (gd rfl) rfl (Nat.le_of_ble_eq_true rfl) ?_
    have m50 : ((Int32.ofInt 65536)).toInt < ((70000 : Nat) : Int) := by have a0 := ro_2_1; unfold In at a0; have a1 := h3; unfold In at a1; have a2 := h2; unfold In at a2; have a3 := (in_c 65536 rfl); unfold In at a3; have a4 := (in_c 1048576 rfl); unfold In at a4; have a5 := h4; unfold In at a5; have a6 := tx_i2l e2; omega
    exact gg_w (by omega) (gg_f (gf_cons rfl (gf_cons rfl (gf_cons rfl (gf_cons rfl (gf_cons rfl (gf_cons rfl (gf_cons rfl (gf_cons rfl gf_nil)))))))) (ct50 70000 (sI (sI s20 74 x2.toNatClampNeg x4) 74 x3.toNatClampNeg z40) z20 (Int32.ofInt 1048576) (Int32.ofInt 65536) hI41 (fr_sI rfl (fr_sI rfl (fr_tr rfl (fr_tr rfl fr_rf hF7) hF20))) (in_w 1 1048576 (in_c 1048576 rfl) rfl) (in_w 0 65536 (in_c 65536 rfl) rfl) m50))
  · skip
    have i11 := z_gt 1 1 c11 i10 rfl
    have c11a := lc_gt e10 c11
    have i11a := lr_lt1 (-9223372036854775808) 199999999 c11a (l_rng z7) i2 rfl
    refine g_ldc2_w 9000000000000000 17 (gd rfl) rfl rfl ?_
    exact g_lreturn (gd rfl) rfl (hP _ _ ⟨s7, hI7, (fr_tr rfl fr_rf hF7), (Int64.ofInt 9000000000000000), rfl, rfl⟩)

def fm_79_65_32 : FM := ([66, 67, 68, 69, 70, 71, 72, 73, 74], [75], [(65, 0), (65, 1), (65, 2), (65, 4), (65, 8)], [(65, 3)])
/-- GraphHouse$Flows.cheapest -/
theorem k_79_65_32 {Z : AmZ} {A : Nat → Nat} {s : GS} {ex : va_W} {d : Nat} {X : AmX} {x2 : Int32} {x3 : Int32} {x4 : Int32} (hd : 6 ≤ d) (hI : Inv s) (h2 : In x2 0 31) (h3 : In x3 0 31) (h4 : In x4 0 200000000) : GC Z d 79 [.ref (A 65), .ref (A 32), .int x2, .int x3, .int x4] (WW Z A s ++ ex) 0 0 (fun v u => ∃ t : GS, Inv t ∧ Fr fm_79_65_32 s t ∧ ∃ z : Int64, v = some (.long z) ∧ u = WW Z A t ++ ex) X := by
  intro post xp hP hX
  obtain ⟨u_32_1, e_32_1⟩ : ∃ w, w = s.2.2.1 32 1 := ⟨_, rfl⟩
  have ro_32_1 := inv_F hI 0 32 rfl e_32_1
  have ct94 : ∀ (k94 : Nat) (sc94 : GS) (y94_5 : Int64) (y94_7 : Int32) (y94_8 : Int32), Inv sc94 → Fr fm_79_65_32 s sc94 → (In y94_7 1 1048576) → (In y94_8 0 160) → 160 - (y94_8).toInt < (k94 : Int) → GG Z (d - 1) 79 post (gx xp) (1 + k94 * 900) 94 (fun j => xlook j [(0, .ref (A 65)), (1, .ref (A 32)), (2, .int x2), (3, .int x3), (4, .int x4), (5, .long y94_5), (7, .int y94_7), (8, .int y94_8)]) [] (WW Z A sc94 ++ ex) 0 0 := by
    intro k94
    induction k94 with
    | zero => intro sc94 y94_5 y94_7 y94_8 hIc94 hFc94 j94_7 j94_8 mm94; exact m_no mm94 j94_8 rfl
    | succ k94 ih94 =>
      intro sc94 y94_5 y94_7 y94_8 hIc94 hFc94 j94_7 j94_8 mm94
      refine gg_w (M := 1 + k94 * 900 + 900) (by omega) ?_
      refine g_iload 96 (gd rfl) rfl rfl ?_
      refine g_aload_n 97 (gd rfl) rfl rfl ?_
      refine g_getI 100 (gd rfl) rfl rfl rfl (fun z97 e97 => ?_)
      have i97 := inv_F hIc94 0 160 rfl e97
      refine g_cmp_ge 103 131 (gd rfl) rfl rfl (fun c100 => ?_) (fun c100 => ?_)
      · skip
        refine g_lload 133 (gd rfl) rfl rfl ?_
        exact g_lreturn (gd rfl) rfl (hP _ _ ⟨sc94, hIc94, hFc94, y94_5, rfl, rfl⟩)
      · skip
        have i100 := r_lt1 0 159 c100 j94_8 i97 rfl
        have i100a := r_lt2 1 160 c100 j94_8 i97 rfl
        refine g_lload 105 (gd rfl) rfl rfl ?_
        refine g_aload_n 106 (gd rfl) rfl rfl ?_
        refine g_getA (q2 := 71) 109 (gd rfl) rfl rfl rfl rfl ?_
        refine g_iload 111 (gd rfl) rfl rfl ?_
        refine g_iaload 112 (gd rfl) rfl (n := 160) rfl (in_ix i100 rfl) (fun z111 e111 => ?_)
        have i111 := inv_I hIc94 (n := 160) (t := 0) (-1000000) 1000000 rfl (in_ix i100 rfl) rfl e111
        refine g_i2l 113 (gd rfl) rfl (fun z112 e112 => ?_)
        have i112 := l_i e112 i111
        refine g_aload_n 114 (gd rfl) rfl rfl ?_
        refine g_getA (q2 := 73) 117 (gd rfl) rfl rfl rfl rfl ?_
        refine g_iload 119 (gd rfl) rfl rfl ?_
        refine g_iaload 120 (gd rfl) rfl (n := 160) rfl (in_ix i100 rfl) (fun z119 e119 => ?_)
        refine g_i2l 121 (gd rfl) rfl (fun z120 e120 => ?_)
        have i120 := l_i e120 (i_rng z119)
        refine g_lmul 122 (gd rfl) rfl (fun z121 e121 => ?_)
        refine g_ladd 123 (gd rfl) rfl (fun z122 e122 => ?_)
        refine g_lstore 125 (gd rfl) rfl (Nat.le_of_ble_eq_true rfl) ?_
        refine g_iinc 128 (gd rfl) rfl rfl (Nat.le_of_ble_eq_true rfl) (fun z125 e125 => ?_)
        have i125 := in_add 1 160 e125 i100 (in_c 1 rfl) rfl rfl
        refine g_goto 94 (gd rfl) rfl ?_
        exact gg_w (by omega) (gg_f (gf_cons rfl (gf_cons rfl (gf_cons rfl (gf_cons rfl (gf_cons rfl (gf_cons rfl (gf_cons rfl (gf_cons rfl gf_nil)))))))) (ih94 sc94 z122 y94_7 z125 hIc94 hFc94 (in_w 1 1048576 j94_7 rfl) (in_w 0 160 i125 rfl) (m_up mm94 (t_add e125 i100 (in_c 1 rfl) rfl) (in_w 1 1 (in_c 1 rfl) rfl))))
  have ct50 : ∀ (k50 : Nat) (sc50 : GS) (y50_5 : Int64) (y50_7 : Int32) (y50_8 : Int32), Inv sc50 → Fr fm_79_65_32 s sc50 → (In y50_7 1 1048576) → (In y50_8 0 65536) → (y50_8).toInt < (k50 : Int) → GG Z (d - 1) 79 post (gx xp) (144902 + k50 * 900) 50 (fun j => xlook j [(0, .ref (A 65)), (1, .ref (A 32)), (2, .int x2), (3, .int x3), (4, .int x4), (5, .long y50_5), (7, .int y50_7), (8, .int y50_8)]) [] (WW Z A sc50 ++ ex) 0 0 := by
    intro k50
    induction k50 with
    | zero => intro sc50 y50_5 y50_7 y50_8 hIc50 hFc50 j50_7 j50_8 mm50; exfalso; have a0 := h3; unfold In at a0; have a1 := h2; unfold In at a1; have a2 := ro_32_1; unfold In at a2; have a3 := j50_8; unfold In at a3; have a4 := j50_7; unfold In at a4; have a5 := h4; unfold In at a5; omega
    | succ k50 ih50 =>
      intro sc50 y50_5 y50_7 y50_8 hIc50 hFc50 j50_7 j50_8 mm50
      refine gg_w (M := 144902 + k50 * 900 + 900) (by omega) ?_
      refine g_iload 52 (gd rfl) rfl rfl ?_
      refine g_if_le 55 91 (gd rfl) rfl rfl (fun c52 => ?_) (fun c52 => ?_)
      · skip
        have i52 := z_le 0 0 c52 j50_8 rfl
        refine g_iconst 0 92 (gd rfl) rfl rfl ?_
        refine g_istore 94 (gd rfl) rfl (Nat.le_of_ble_eq_true rfl) ?_
        exact gg_w (by omega) (gg_f (gf_cons rfl (gf_cons rfl (gf_cons rfl (gf_cons rfl (gf_cons rfl (gf_cons rfl (gf_cons rfl (gf_cons rfl gf_nil)))))))) (ct94 161 sc50 y50_5 y50_7 (Int32.ofInt 0) hIc50 hFc50 (in_w 1 1048576 j50_7 rfl) (in_w 0 160 (in_c 0 rfl) rfl) (m_in 161 (in_w 0 160 (in_c 0 rfl) rfl) rfl)))
      · skip
        have i52 := z_gt 1 65536 c52 j50_8 rfl
        refine g_aload_n 56 (gd rfl) rfl rfl ?_
        refine g_aload_n 57 (gd rfl) rfl rfl ?_
        refine g_getI 60 (gd rfl) rfl rfl rfl (fun z57 e57 => ?_)
        have q57 : u_32_1 = z57 := (fr_F e_32_1 hFc50 rfl).trans e57.symm
        subst q57
        refine g_iload 62 (gd rfl) rfl rfl ?_
        refine g_iload 64 (gd rfl) rfl rfl ?_
        refine g_callv (X := _) (As := [.int u_32_1, .int y50_7, .int y50_8]) (r := []) (b := A 65) (q := 65) 67 (gd rfl) rfl rfl rfl rfl rfl (ww_o rfl) (Nat.le_of_ble_eq_true rfl) (Nat.zero_le _) (Nat.zero_le _) (k_81_65 (by omega) hIc50 (in_w 0 32 ro_32_1 rfl) (in_w 1 1048576 j50_7 rfl) (in_w 1 65536 i52 rfl)) (fun e u h => h) (fun v u h => ?_)
        obtain ⟨s64, hI64, hF64, rfl, rfl⟩ := h
        show GG _ _ _ _ _ _ _ _ [] _ _ _
        refine g_aload_n 68 (gd rfl) rfl rfl ?_
        refine g_aload_n 69 (gd rfl) rfl rfl ?_
        refine g_getI 72 (gd rfl) rfl rfl rfl (fun z69 e69 => ?_)
        have q69 : u_32_1 = z69 := (fr_F (fr_F e_32_1 hFc50 rfl) hF64 rfl).trans e69.symm
        subst q69
        refine g_iload 74 (gd rfl) rfl rfl ?_
        refine g_callv (X := _) (As := [.int u_32_1, .int y50_8]) (r := []) (b := A 65) (q := 65) 77 (gd rfl) rfl rfl rfl rfl rfl (ww_o rfl) (Nat.le_of_ble_eq_true rfl) (Nat.zero_le _) (Nat.zero_le _) (k_83_65 (by omega) hI64 (in_w 0 32 ro_32_1 rfl) (in_w 1 65536 i52 rfl)) (fun e u h => h) (fun v u h => ?_)
        obtain ⟨s74, hI74, hF74, rfl, rfl⟩ := h
        show GG _ _ _ _ _ _ _ _ [] _ _ _
        refine g_iload 79 (gd rfl) rfl rfl ?_
        refine g_istore 81 (gd rfl) rfl (Nat.le_of_ble_eq_true rfl) ?_
        refine g_iload 83 (gd rfl) rfl rfl ?_
        refine g_bipush 16 85 (gd rfl) rfl rfl ?_
        refine g_idiv 86 (gd rfl) rfl (by decide) (fun z85 e85 => ?_)
        have i85 := in_div 0 4096 e85 i52 rfl rfl
        refine g_istore 88 (gd rfl) rfl (Nat.le_of_ble_eq_true rfl) ?_
        refine g_goto 50 (gd rfl) rfl ?_
        have m50 : (z85).toInt < ((k50 : Nat) : Int) := by have a0 := h3; unfold In at a0; have a1 := h2; unfold In at a1; have a2 := ro_32_1; unfold In at a2; have a3 := i52; unfold In at a3; have a4 := j50_7; unfold In at a4; have a5 := i85; unfold In at a5; have a6 := t_div e85 i52 rfl; have a7 := h4; unfold In at a7; omega
        exact gg_w (by omega) (gg_f (gf_cons rfl (gf_cons rfl (gf_cons rfl (gf_cons rfl (gf_cons rfl (gf_cons rfl (gf_cons rfl (gf_cons rfl gf_nil)))))))) (ih50  s74 y50_5 y50_8 z85 hI74 (fr_tr rfl (fr_tr rfl hFc50 hF64) hF74) (in_w 1 1048576 i52 rfl) (in_w 0 65536 i85 rfl) m50))
  refine g_enter2 (k := 79) (N := 63145802) (by omega) rfl (Nat.le_of_ble_eq_true rfl) ?_
  refine g_iload 2 (gd rfl) rfl rfl ?_
  refine g_i2l 3 (gd rfl) rfl (fun z2 e2 => ?_)
  have i2 := l_i e2 h4
  refine g_aload_n 4 (gd rfl) rfl rfl ?_
  refine g_aload_n 5 (gd rfl) rfl rfl ?_
  refine g_iload_n 6 (gd rfl) rfl rfl ?_
  refine g_iload_n 7 (gd rfl) rfl rfl ?_
  refine g_callv (X := _) (As := [.ref (A 32), .int x2, .int x3]) (r := [.long z2]) (b := A 65) (q := 65) 10 (gd rfl) rfl rfl rfl rfl rfl (ww_o rfl) (Nat.le_of_ble_eq_true rfl) (Nat.zero_le _) (Nat.zero_le _) (k_75_65_32 (by omega) hI (in_w 0 31 h2 rfl) (in_w 0 31 h3 rfl)) (fun e u h => h) (fun v u h => ?_)
  obtain ⟨s7, hI7, hF7, z7, rfl, rfl⟩ := h
  show GG _ _ _ _ _ _ _ _ [.long z7, .long z2] _ _ _
  refine g_lcmp 11 (gd rfl) rfl (fun z10 e10 => ?_)
  have i10 := lc_in e10
  refine g_if_le 14 18 (gd rfl) rfl rfl (fun c11 => ?_) (fun c11 => ?_)
  · skip
    have i11 := z_le (-1) 0 c11 i10 rfl
    have c11a := lc_le e10 c11
    have i11a := lr_le2 0 9223372036854775807 c11a i2 (l_rng z7) rfl
    refine g_aload_n 19 (gd rfl) rfl rfl ?_
    refine g_aload_n 20 (gd rfl) rfl rfl ?_
    refine g_callv (X := _) (As := [.ref (A 32)]) (r := []) (b := A 65) (q := 65) 23 (gd rfl) rfl rfl rfl rfl rfl (ww_o rfl) (Nat.le_of_ble_eq_true rfl) (Nat.zero_le _) (Nat.zero_le _) (k_80_65_32 (by omega) hI7 ) (fun e u h => h) (fun v u h => ?_)
    obtain ⟨s20, hI20, hF20, z20, rfl, rfl⟩ := h
    show GG _ _ _ _ _ _ _ _ [.long z20] _ _ _
    refine g_lstore 25 (gd rfl) rfl (Nat.le_of_ble_eq_true rfl) ?_
    refine g_aload_n 26 (gd rfl) rfl rfl ?_
    refine g_getA (q2 := 74) 29 (gd rfl) rfl rfl rfl rfl ?_
    refine g_iload_n 30 (gd rfl) rfl rfl ?_
    refine g_iload 32 (gd rfl) rfl rfl ?_
    refine g_iastore 33 (gd rfl) rfl (n := 32) rfl (in_ix h2 rfl) ?_
    have hI32 := inv_sI (q := 74) (j := x2.toNatClampNeg) hI20 rfl (in_w (-2147483648) 2147483647 h4 rfl)
    refine g_aload_n 34 (gd rfl) rfl rfl ?_
    refine g_getA (q2 := 74) 37 (gd rfl) rfl rfl rfl rfl ?_
    refine g_iload_n 38 (gd rfl) rfl rfl ?_
    refine g_iload 40 (gd rfl) rfl rfl ?_
    refine g_ineg 41 (gd rfl) rfl (fun z40 e40 => ?_)
    have i40 := in_neg (-200000000) 0 e40 h4 rfl
    refine g_iastore 42 (gd rfl) rfl (n := 32) rfl (in_ix h3 rfl) ?_
    have hI41 := inv_sI (q := 74) (j := x3.toNatClampNeg) hI32 rfl (in_w (-2147483648) 2147483647 i40 rfl)
    refine g_ldc 1048576 44 (gd rfl) rfl rfl ?_
    refine g_istore 46 (gd rfl) rfl (Nat.le_of_ble_eq_true rfl) ?_
    refine g_ldc 65536 48 (gd rfl) rfl rfl ?_
    refine g_istore 50 (gd rfl) rfl (Nat.le_of_ble_eq_true rfl) ?_
    have m50 : ((Int32.ofInt 65536)).toInt < ((70000 : Nat) : Int) := by have a0 := ro_32_1; unfold In at a0; have a1 := h3; unfold In at a1; have a2 := h2; unfold In at a2; have a3 := (in_c 65536 rfl); unfold In at a3; have a4 := (in_c 1048576 rfl); unfold In at a4; have a5 := h4; unfold In at a5; have a6 := tx_i2l e2; omega
    exact gg_w (by omega) (gg_f (gf_cons rfl (gf_cons rfl (gf_cons rfl (gf_cons rfl (gf_cons rfl (gf_cons rfl (gf_cons rfl (gf_cons rfl gf_nil)))))))) (ct50 70000 (sI (sI s20 74 x2.toNatClampNeg x4) 74 x3.toNatClampNeg z40) z20 (Int32.ofInt 1048576) (Int32.ofInt 65536) hI41 (fr_sI rfl (fr_sI rfl (fr_tr rfl (fr_tr rfl fr_rf hF7) hF20))) (in_w 1 1048576 (in_c 1048576 rfl) rfl) (in_w 0 65536 (in_c 65536 rfl) rfl) m50))
  · skip
    have i11 := z_gt 1 1 c11 i10 rfl
    have c11a := lc_gt e10 c11
    have i11a := lr_lt1 (-9223372036854775808) 199999999 c11a (l_rng z7) i2 rfl
    refine g_ldc2_w 9000000000000000 17 (gd rfl) rfl rfl ?_
    exact g_lreturn (gd rfl) rfl (hP _ _ ⟨s7, hI7, (fr_tr rfl fr_rf hF7), (Int64.ofInt 9000000000000000), rfl, rfl⟩)

def fm_243_0 : FM := ([66, 67, 68, 69, 70, 71, 72, 73, 74], [75], [(65, 0), (65, 1), (65, 2), (65, 4), (65, 8)], [(65, 3)])
/-- GraphHouse.cost -/
theorem k_243_0 {Z : AmZ} {A : Nat → Nat} {s : GS} {ex : va_W} {d : Nat} {x1 : Int32} {x2 : Int32} {x3 : Int32} (hd : 7 ≤ d) (hI : Inv s)  : GC Z d 243 [.ref (A 0), .int x1, .int x2, .int x3] (WW Z A s ++ ex) 3 18 (fun v u => ∃ t : GS, Inv t ∧ Fr fm_243_0 s t ∧ ∃ z : Int64, v = some (.long z) ∧ u = WW Z A t ++ ex) (gE1 Z A ex fm_243_0 s) := by
  intro post xp hP hX
  obtain ⟨u_0_2, e_0_2⟩ : ∃ w, w = s.2.2.1 0 2 := ⟨_, rfl⟩
  have ro_0_2 := inv_F hI (-1) 4000 rfl e_0_2
  obtain ⟨u_2_1, e_2_1⟩ : ∃ w, w = s.2.2.1 2 1 := ⟨_, rfl⟩
  have ro_2_1 := inv_F hI 0 32 rfl e_2_1
  obtain ⟨u_32_1, e_32_1⟩ : ∃ w, w = s.2.2.1 32 1 := ⟨_, rfl⟩
  have ro_32_1 := inv_F hI 0 32 rfl e_32_1
  have ct31 : ∀ (sc31 : GS) , Inv sc31 → Fr fm_243_0 s sc31 → GG Z (d - 1) 243 post (gx xp) (901) 31 (fun j => xlook j [(0, .ref (A 0)), (1, .int x1), (2, .int x2), (3, .int x3)]) [] (WW Z A sc31 ++ ex) 3 18 := by
    intro sc31  hIc31 hFc31 
    refine g_iconst 0 32 (gd rfl) rfl rfl ?_
    refine g_thr (E := am_IA) (y := yX11_allow) 35 (gd rfl) rfl rfl (Or.inl ⟨rfl, rfl, rfl⟩) (by omega) (Nat.le_of_ble_eq_true rfl) (Nat.le_of_ble_eq_true rfl) (Nat.le_of_ble_eq_true rfl) (fun c32 => ?_) (fun c32 => ?_)
    · skip
      exact zn_ne c32 (in_c 0 rfl) rfl
    · skip
      exact (hX _ _ ⟨rfl, sc31, hIc31, hFc31, rfl⟩)
  refine g_enter2 (k := 243) (N := 1801) (by omega) rfl (Nat.le_of_ble_eq_true rfl) ?_
  refine g_aload_n 1 (gd rfl) rfl rfl ?_
  refine g_callv (X := _) (As := []) (r := []) (b := A 0) (q := 0) 4 (gd rfl) rfl rfl rfl rfl rfl (ww_o rfl) (Nat.le_of_ble_eq_true rfl) (mc := 0) (ms := 0) (Nat.zero_le _) (Nat.zero_le _) (P := fun v u => _) ?_ (fun e u h => h) (fun v u h => h)
  intro po1 xx1 hp1 hx1
  refine g_enter2 (k := 259) (N := 300) (by omega) rfl (Nat.le_of_ble_eq_true rfl) ?_
  refine g_aload_n 1 (gd rfl) rfl rfl ?_
  refine g_getI 4 (gd rfl) rfl rfl rfl (fun z1x1 e1x1 => ?_)
  have q1x1 : u_0_2 = z1x1 := (e_0_2).trans e1x1.symm
  subst q1x1
  refine g_iconst (-1) 5 (gd rfl) rfl rfl ?_
  refine g_cmp_ne 8 18 (gd rfl) rfl rfl (fun c1x5 => ?_) (fun c1x5 => ?_)
  · skip
    have i1x5 := r_ne1 0 4000 c1x5 ro_0_2 (in_c (-1) rfl) rfl
    refine g_aload_n 19 (gd rfl) rfl rfl ?_
    refine g_getA (q2 := 32) 22 (gd rfl) rfl rfl rfl rfl ?_
    refine g_areturn (gd rfl) rfl (hp1 _ _ ?_)
    show GG _ _ _ _ _ _ _ _ [.ref (A 32)] _ _ _
    refine g_astore 6 (gd rfl) rfl (Nat.le_of_ble_eq_true rfl) ?_
    refine g_aload 8 (gd rfl) rfl rfl ?_
    refine g_iload_n 9 (gd rfl) rfl rfl ?_
    refine g_iload_n 10 (gd rfl) rfl rfl ?_
    refine g_callv (X := _) (As := [.int x1, .int x2]) (r := []) (b := A 32) (q := 32) 13 (gd rfl) rfl rfl rfl rfl rfl (ww_o rfl) (Nat.le_of_ble_eq_true rfl) (mc := 0) (ms := 0) (Nat.zero_le _) (Nat.zero_le _) (P := fun v u => _) ?_ (fun e u h => h) (fun v u h => h)
    intro po10 xx10 hp10 hx10
    refine g_enter2 (k := 95) (N := 300) (by omega) rfl (Nat.le_of_ble_eq_true rfl) ?_
    refine g_aload_n 1 (gd rfl) rfl rfl ?_
    refine g_iload_n 2 (gd rfl) rfl rfl ?_
    refine g_callv (X := _) (As := [.int x1]) (r := []) (b := A 32) (q := 32) 5 (gd rfl) rfl rfl rfl rfl rfl (ww_o rfl) (Nat.le_of_ble_eq_true rfl) (mc := 0) (ms := 0) (Nat.zero_le _) (Nat.zero_le _) (P := fun v u => _) ?_ (fun e u h => h) (fun v u h => h)
    intro po10x2 xx10x2 hp10x2 hx10x2
    refine g_enter2 (k := 94) (N := 300) (by omega) rfl (Nat.le_of_ble_eq_true rfl) ?_
    refine g_iload_n 1 (gd rfl) rfl rfl ?_
    refine g_if_lt 4 16 (gd rfl) rfl rfl (fun c10x2x1 => ?_) (fun c10x2x1 => ?_)
    · skip
      have i10x2x1 := z_lt (-2147483648) (-1) c10x2x1 (i_rng x1) rfl
      refine g_iconst 0 17 (gd rfl) rfl rfl ?_
      refine g_ireturn (gd rfl) rfl (nb01 (in_w 0 1 (in_c 0 rfl) rfl)) (hp10x2 _ _ ?_)
      show GG _ _ _ _ _ _ _ _ [.int (Int32.ofInt 0)] _ _ _
      refine g_if_eq 8 25 (gd rfl) rfl rfl (fun c10x5 => ?_) (fun c10x5 => ?_)
      · skip
        refine g_iconst 0 26 (gd rfl) rfl rfl ?_
        refine g_ireturn (gd rfl) rfl (nb01 (in_w 0 1 (in_c 0 rfl) rfl)) (hp10 _ _ ?_)
        show GG _ _ _ _ _ _ _ _ [.int (Int32.ofInt 0)] _ _ _
        refine g_if_eq 16 31 (gd rfl) rfl rfl (fun c13 => ?_) (fun c13 => ?_)
        · skip
          exact gg_w (by omega) (gg_f (gf_cons rfl (gf_cons rfl (gf_cons rfl (gf_cons rfl gf_nil)))) (ct31 s  hI fr_rf ))
        · skip
          exact zn_ne c13 (in_c 0 rfl) rfl
      · skip
        exact zn_ne c10x5 (in_c 0 rfl) rfl
    · skip
      have i10x2x1 := z_ge 0 2147483647 c10x2x1 (i_rng x1) rfl
      refine g_iload_n 5 (gd rfl) rfl rfl ?_
      refine g_aload_n 6 (gd rfl) rfl rfl ?_
      refine g_getI 9 (gd rfl) rfl rfl rfl (fun z10x2x6 e10x2x6 => ?_)
      have q10x2x6 : u_32_1 = z10x2x6 := (e_32_1).trans e10x2x6.symm
      subst q10x2x6
      refine g_cmp_ge 12 16 (gd rfl) rfl rfl (fun c10x2x9 => ?_) (fun c10x2x9 => ?_)
      · skip
        refine g_iconst 0 17 (gd rfl) rfl rfl ?_
        refine g_ireturn (gd rfl) rfl (nb01 (in_w 0 1 (in_c 0 rfl) rfl)) (hp10x2 _ _ ?_)
        show GG _ _ _ _ _ _ _ _ [.int (Int32.ofInt 0)] _ _ _
        refine g_if_eq 8 25 (gd rfl) rfl rfl (fun c10x5 => ?_) (fun c10x5 => ?_)
        · skip
          refine g_iconst 0 26 (gd rfl) rfl rfl ?_
          refine g_ireturn (gd rfl) rfl (nb01 (in_w 0 1 (in_c 0 rfl) rfl)) (hp10 _ _ ?_)
          show GG _ _ _ _ _ _ _ _ [.int (Int32.ofInt 0)] _ _ _
          refine g_if_eq 16 31 (gd rfl) rfl rfl (fun c13 => ?_) (fun c13 => ?_)
          · skip
            exact gg_w (by omega) (gg_f (gf_cons rfl (gf_cons rfl (gf_cons rfl (gf_cons rfl gf_nil)))) (ct31 s  hI fr_rf ))
          · skip
            exact zn_ne c13 (in_c 0 rfl) rfl
        · skip
          exact zn_ne c10x5 (in_c 0 rfl) rfl
      · skip
        have i10x2x9 := r_lt1 0 31 c10x2x9 i10x2x1 ro_32_1 rfl
        have i10x2x9a := r_lt2 1 32 c10x2x9 i10x2x1 ro_32_1 rfl
        refine g_iconst 1 13 (gd rfl) rfl rfl ?_
        refine g_goto 17 (gd rfl) rfl ?_
        refine g_ireturn (gd rfl) rfl (nb01 (in_w 0 1 (in_c 1 rfl) rfl)) (hp10x2 _ _ ?_)
        show GG _ _ _ _ _ _ _ _ [.int (Int32.ofInt 1)] _ _ _
        refine g_if_eq 8 25 (gd rfl) rfl rfl (fun c10x5 => ?_) (fun c10x5 => ?_)
        · skip
          exact zn_eq c10x5 (in_c 1 rfl) rfl
        · skip
          refine g_aload_n 9 (gd rfl) rfl rfl ?_
          refine g_iload_n 10 (gd rfl) rfl rfl ?_
          refine g_callv (X := _) (As := [.int x2]) (r := []) (b := A 32) (q := 32) 13 (gd rfl) rfl rfl rfl rfl rfl (ww_o rfl) (Nat.le_of_ble_eq_true rfl) (mc := 0) (ms := 0) (Nat.zero_le _) (Nat.zero_le _) (P := fun v u => _) ?_ (fun e u h => h) (fun v u h => h)
          intro po10x10 xx10x10 hp10x10 hx10x10
          refine g_enter2 (k := 94) (N := 300) (by omega) rfl (Nat.le_of_ble_eq_true rfl) ?_
          refine g_iload_n 1 (gd rfl) rfl rfl ?_
          refine g_if_lt 4 16 (gd rfl) rfl rfl (fun c10x10x1 => ?_) (fun c10x10x1 => ?_)
          · skip
            have i10x10x1 := z_lt (-2147483648) (-1) c10x10x1 (i_rng x2) rfl
            refine g_iconst 0 17 (gd rfl) rfl rfl ?_
            refine g_ireturn (gd rfl) rfl (nb01 (in_w 0 1 (in_c 0 rfl) rfl)) (hp10x10 _ _ ?_)
            show GG _ _ _ _ _ _ _ _ [.int (Int32.ofInt 0)] _ _ _
            refine g_if_eq 16 25 (gd rfl) rfl rfl (fun c10x13 => ?_) (fun c10x13 => ?_)
            · skip
              refine g_iconst 0 26 (gd rfl) rfl rfl ?_
              refine g_ireturn (gd rfl) rfl (nb01 (in_w 0 1 (in_c 0 rfl) rfl)) (hp10 _ _ ?_)
              show GG _ _ _ _ _ _ _ _ [.int (Int32.ofInt 0)] _ _ _
              refine g_if_eq 16 31 (gd rfl) rfl rfl (fun c13 => ?_) (fun c13 => ?_)
              · skip
                exact gg_w (by omega) (gg_f (gf_cons rfl (gf_cons rfl (gf_cons rfl (gf_cons rfl gf_nil)))) (ct31 s  hI fr_rf ))
              · skip
                exact zn_ne c13 (in_c 0 rfl) rfl
            · skip
              exact zn_ne c10x13 (in_c 0 rfl) rfl
          · skip
            have i10x10x1 := z_ge 0 2147483647 c10x10x1 (i_rng x2) rfl
            refine g_iload_n 5 (gd rfl) rfl rfl ?_
            refine g_aload_n 6 (gd rfl) rfl rfl ?_
            refine g_getI 9 (gd rfl) rfl rfl rfl (fun z10x10x6 e10x10x6 => ?_)
            have q10x10x6 : u_32_1 = z10x10x6 := (e_32_1).trans e10x10x6.symm
            subst q10x10x6
            refine g_cmp_ge 12 16 (gd rfl) rfl rfl (fun c10x10x9 => ?_) (fun c10x10x9 => ?_)
            · skip
              have i10x10x9 := r_le2 1 2147483647 c10x10x9 i10x2x9a i10x10x1 rfl
              refine g_iconst 0 17 (gd rfl) rfl rfl ?_
              refine g_ireturn (gd rfl) rfl (nb01 (in_w 0 1 (in_c 0 rfl) rfl)) (hp10x10 _ _ ?_)
              show GG _ _ _ _ _ _ _ _ [.int (Int32.ofInt 0)] _ _ _
              refine g_if_eq 16 25 (gd rfl) rfl rfl (fun c10x13 => ?_) (fun c10x13 => ?_)
              · skip
                refine g_iconst 0 26 (gd rfl) rfl rfl ?_
                refine g_ireturn (gd rfl) rfl (nb01 (in_w 0 1 (in_c 0 rfl) rfl)) (hp10 _ _ ?_)
                show GG _ _ _ _ _ _ _ _ [.int (Int32.ofInt 0)] _ _ _
                refine g_if_eq 16 31 (gd rfl) rfl rfl (fun c13 => ?_) (fun c13 => ?_)
                · skip
                  exact gg_w (by omega) (gg_f (gf_cons rfl (gf_cons rfl (gf_cons rfl (gf_cons rfl gf_nil)))) (ct31 s  hI fr_rf ))
                · skip
                  exact zn_ne c13 (in_c 0 rfl) rfl
              · skip
                exact zn_ne c10x13 (in_c 0 rfl) rfl
            · skip
              have i10x10x9 := r_lt1 0 31 c10x10x9 i10x10x1 i10x2x9a rfl
              refine g_iconst 1 13 (gd rfl) rfl rfl ?_
              refine g_goto 17 (gd rfl) rfl ?_
              refine g_ireturn (gd rfl) rfl (nb01 (in_w 0 1 (in_c 1 rfl) rfl)) (hp10x10 _ _ ?_)
              show GG _ _ _ _ _ _ _ _ [.int (Int32.ofInt 1)] _ _ _
              refine g_if_eq 16 25 (gd rfl) rfl rfl (fun c10x13 => ?_) (fun c10x13 => ?_)
              · skip
                exact zn_eq c10x13 (in_c 1 rfl) rfl
              · skip
                refine g_iload_n 17 (gd rfl) rfl rfl ?_
                refine g_iload_n 18 (gd rfl) rfl rfl ?_
                refine g_cmp_eq 21 25 (gd rfl) rfl rfl (fun c10x18 => ?_) (fun c10x18 => ?_)
                · skip
                  refine g_iconst 0 26 (gd rfl) rfl rfl ?_
                  refine g_ireturn (gd rfl) rfl (nb01 (in_w 0 1 (in_c 0 rfl) rfl)) (hp10 _ _ ?_)
                  show GG _ _ _ _ _ _ _ _ [.int (Int32.ofInt 0)] _ _ _
                  refine g_if_eq 16 31 (gd rfl) rfl rfl (fun c13 => ?_) (fun c13 => ?_)
                  · skip
                    exact gg_w (by omega) (gg_f (gf_cons rfl (gf_cons rfl (gf_cons rfl (gf_cons rfl gf_nil)))) (ct31 s  hI fr_rf ))
                  · skip
                    exact zn_ne c13 (in_c 0 rfl) rfl
                · skip
                  refine g_iconst 1 22 (gd rfl) rfl rfl ?_
                  refine g_goto 26 (gd rfl) rfl ?_
                  refine g_ireturn (gd rfl) rfl (nb01 (in_w 0 1 (in_c 1 rfl) rfl)) (hp10 _ _ ?_)
                  show GG _ _ _ _ _ _ _ _ [.int (Int32.ofInt 1)] _ _ _
                  refine g_if_eq 16 31 (gd rfl) rfl rfl (fun c13 => ?_) (fun c13 => ?_)
                  · skip
                    exact zn_eq c13 (in_c 1 rfl) rfl
                  · skip
                    refine g_iload_n 17 (gd rfl) rfl rfl ?_
                    refine g_if_lt 20 31 (gd rfl) rfl rfl (fun c17 => ?_) (fun c17 => ?_)
                    · skip
                      have i17 := z_lt (-2147483648) (-1) c17 (i_rng x3) rfl
                      exact gg_w (by omega) (gg_f (gf_cons rfl (gf_cons rfl (gf_cons rfl (gf_cons rfl gf_nil)))) (ct31 s  hI fr_rf ))
                    · skip
                      have i17 := z_ge 0 2147483647 c17 (i_rng x3) rfl
                      refine g_iload_n 21 (gd rfl) rfl rfl ?_
                      refine g_ldc_w 200000000 24 (gd rfl) rfl rfl ?_
                      refine g_cmp_gt 27 31 (gd rfl) rfl rfl (fun c24 => ?_) (fun c24 => ?_)
                      · skip
                        have i24 := r_lt2 200000001 2147483647 c24 (in_c 200000000 rfl) i17 rfl
                        exact gg_w (by omega) (gg_f (gf_cons rfl (gf_cons rfl (gf_cons rfl (gf_cons rfl gf_nil)))) (ct31 s  hI fr_rf ))
                      · skip
                        have i24 := r_le1 0 200000000 c24 i17 (in_c 200000000 rfl) rfl
                        refine g_iconst 1 28 (gd rfl) rfl rfl ?_
                        refine g_goto 32 (gd rfl) rfl ?_
                        refine g_thr (E := am_IA) (y := yX11_allow) 35 (gd rfl) rfl rfl (Or.inl ⟨rfl, rfl, rfl⟩) (by omega) (Nat.le_of_ble_eq_true rfl) (Nat.le_of_ble_eq_true rfl) (Nat.le_of_ble_eq_true rfl) (fun c32 => ?_) (fun c32 => ?_)
                        · skip
                          refine g_aload_n 36 (gd rfl) rfl rfl ?_
                          refine g_getA (q2 := 65) 39 (gd rfl) rfl rfl rfl rfl ?_
                          refine g_aload 41 (gd rfl) rfl rfl ?_
                          refine g_iload_n 42 (gd rfl) rfl rfl ?_
                          refine g_iload_n 43 (gd rfl) rfl rfl ?_
                          refine g_iload_n 44 (gd rfl) rfl rfl ?_
                          refine g_callv (X := _) (As := [.ref (A 32), .int x1, .int x2, .int x3]) (r := []) (b := A 65) (q := 65) 47 (gd rfl) rfl rfl rfl rfl rfl (ww_o rfl) (Nat.le_of_ble_eq_true rfl) (Nat.zero_le _) (Nat.zero_le _) (k_79_65_32 (by omega) hI (in_w 0 31 i10x2x9 rfl) (in_w 0 31 i10x10x9 rfl) (in_w 0 200000000 i24 rfl)) (fun e u h => h) (fun v u h => ?_)
                          obtain ⟨s44, hI44, hF44, z44, rfl, rfl⟩ := h
                          show GG _ _ _ _ _ _ _ _ [.long z44] _ _ _
                          exact g_lreturn (gd rfl) rfl (hP _ _ ⟨s44, hI44, (fr_tr rfl fr_rf hF44), z44, rfl, rfl⟩)
                        · skip
                          exact zn_eq c32 (in_c 1 rfl) rfl
  · skip
    have i1x5 := r_eq1 (-1) (-1) c1x5 ro_0_2 (in_c (-1) rfl) rfl
    refine g_aload_n 9 (gd rfl) rfl rfl ?_
    refine g_getA (q2 := 1) 12 (gd rfl) rfl rfl rfl rfl ?_
    refine g_getA (q2 := 2) 15 (gd rfl) rfl rfl rfl rfl ?_
    refine g_goto 22 (gd rfl) rfl ?_
    refine g_areturn (gd rfl) rfl (hp1 _ _ ?_)
    show GG _ _ _ _ _ _ _ _ [.ref (A 2)] _ _ _
    refine g_astore 6 (gd rfl) rfl (Nat.le_of_ble_eq_true rfl) ?_
    refine g_aload 8 (gd rfl) rfl rfl ?_
    refine g_iload_n 9 (gd rfl) rfl rfl ?_
    refine g_iload_n 10 (gd rfl) rfl rfl ?_
    refine g_callv (X := _) (As := [.int x1, .int x2]) (r := []) (b := A 2) (q := 2) 13 (gd rfl) rfl rfl rfl rfl rfl (ww_o rfl) (Nat.le_of_ble_eq_true rfl) (mc := 0) (ms := 0) (Nat.zero_le _) (Nat.zero_le _) (P := fun v u => _) ?_ (fun e u h => h) (fun v u h => h)
    intro po10 xx10 hp10 hx10
    refine g_enter2 (k := 95) (N := 300) (by omega) rfl (Nat.le_of_ble_eq_true rfl) ?_
    refine g_aload_n 1 (gd rfl) rfl rfl ?_
    refine g_iload_n 2 (gd rfl) rfl rfl ?_
    refine g_callv (X := _) (As := [.int x1]) (r := []) (b := A 2) (q := 2) 5 (gd rfl) rfl rfl rfl rfl rfl (ww_o rfl) (Nat.le_of_ble_eq_true rfl) (mc := 0) (ms := 0) (Nat.zero_le _) (Nat.zero_le _) (P := fun v u => _) ?_ (fun e u h => h) (fun v u h => h)
    intro po10x2 xx10x2 hp10x2 hx10x2
    refine g_enter2 (k := 94) (N := 300) (by omega) rfl (Nat.le_of_ble_eq_true rfl) ?_
    refine g_iload_n 1 (gd rfl) rfl rfl ?_
    refine g_if_lt 4 16 (gd rfl) rfl rfl (fun c10x2x1 => ?_) (fun c10x2x1 => ?_)
    · skip
      have i10x2x1 := z_lt (-2147483648) (-1) c10x2x1 (i_rng x1) rfl
      refine g_iconst 0 17 (gd rfl) rfl rfl ?_
      refine g_ireturn (gd rfl) rfl (nb01 (in_w 0 1 (in_c 0 rfl) rfl)) (hp10x2 _ _ ?_)
      show GG _ _ _ _ _ _ _ _ [.int (Int32.ofInt 0)] _ _ _
      refine g_if_eq 8 25 (gd rfl) rfl rfl (fun c10x5 => ?_) (fun c10x5 => ?_)
      · skip
        refine g_iconst 0 26 (gd rfl) rfl rfl ?_
        refine g_ireturn (gd rfl) rfl (nb01 (in_w 0 1 (in_c 0 rfl) rfl)) (hp10 _ _ ?_)
        show GG _ _ _ _ _ _ _ _ [.int (Int32.ofInt 0)] _ _ _
        refine g_if_eq 16 31 (gd rfl) rfl rfl (fun c13 => ?_) (fun c13 => ?_)
        · skip
          exact gg_w (by omega) (gg_f (gf_cons rfl (gf_cons rfl (gf_cons rfl (gf_cons rfl gf_nil)))) (ct31 s  hI fr_rf ))
        · skip
          exact zn_ne c13 (in_c 0 rfl) rfl
      · skip
        exact zn_ne c10x5 (in_c 0 rfl) rfl
    · skip
      have i10x2x1 := z_ge 0 2147483647 c10x2x1 (i_rng x1) rfl
      refine g_iload_n 5 (gd rfl) rfl rfl ?_
      refine g_aload_n 6 (gd rfl) rfl rfl ?_
      refine g_getI 9 (gd rfl) rfl rfl rfl (fun z10x2x6 e10x2x6 => ?_)
      have q10x2x6 : u_2_1 = z10x2x6 := (e_2_1).trans e10x2x6.symm
      subst q10x2x6
      refine g_cmp_ge 12 16 (gd rfl) rfl rfl (fun c10x2x9 => ?_) (fun c10x2x9 => ?_)
      · skip
        refine g_iconst 0 17 (gd rfl) rfl rfl ?_
        refine g_ireturn (gd rfl) rfl (nb01 (in_w 0 1 (in_c 0 rfl) rfl)) (hp10x2 _ _ ?_)
        show GG _ _ _ _ _ _ _ _ [.int (Int32.ofInt 0)] _ _ _
        refine g_if_eq 8 25 (gd rfl) rfl rfl (fun c10x5 => ?_) (fun c10x5 => ?_)
        · skip
          refine g_iconst 0 26 (gd rfl) rfl rfl ?_
          refine g_ireturn (gd rfl) rfl (nb01 (in_w 0 1 (in_c 0 rfl) rfl)) (hp10 _ _ ?_)
          show GG _ _ _ _ _ _ _ _ [.int (Int32.ofInt 0)] _ _ _
          refine g_if_eq 16 31 (gd rfl) rfl rfl (fun c13 => ?_) (fun c13 => ?_)
          · skip
            exact gg_w (by omega) (gg_f (gf_cons rfl (gf_cons rfl (gf_cons rfl (gf_cons rfl gf_nil)))) (ct31 s  hI fr_rf ))
          · skip
            exact zn_ne c13 (in_c 0 rfl) rfl
        · skip
          exact zn_ne c10x5 (in_c 0 rfl) rfl
      · skip
        have i10x2x9 := r_lt1 0 31 c10x2x9 i10x2x1 ro_2_1 rfl
        have i10x2x9a := r_lt2 1 32 c10x2x9 i10x2x1 ro_2_1 rfl
        refine g_iconst 1 13 (gd rfl) rfl rfl ?_
        refine g_goto 17 (gd rfl) rfl ?_
        refine g_ireturn (gd rfl) rfl (nb01 (in_w 0 1 (in_c 1 rfl) rfl)) (hp10x2 _ _ ?_)
        show GG _ _ _ _ _ _ _ _ [.int (Int32.ofInt 1)] _ _ _
        refine g_if_eq 8 25 (gd rfl) rfl rfl (fun c10x5 => ?_) (fun c10x5 => ?_)
        · skip
          exact zn_eq c10x5 (in_c 1 rfl) rfl
        · skip
          refine g_aload_n 9 (gd rfl) rfl rfl ?_
          refine g_iload_n 10 (gd rfl) rfl rfl ?_
          refine g_callv (X := _) (As := [.int x2]) (r := []) (b := A 2) (q := 2) 13 (gd rfl) rfl rfl rfl rfl rfl (ww_o rfl) (Nat.le_of_ble_eq_true rfl) (mc := 0) (ms := 0) (Nat.zero_le _) (Nat.zero_le _) (P := fun v u => _) ?_ (fun e u h => h) (fun v u h => h)
          intro po10x10 xx10x10 hp10x10 hx10x10
          refine g_enter2 (k := 94) (N := 300) (by omega) rfl (Nat.le_of_ble_eq_true rfl) ?_
          refine g_iload_n 1 (gd rfl) rfl rfl ?_
          refine g_if_lt 4 16 (gd rfl) rfl rfl (fun c10x10x1 => ?_) (fun c10x10x1 => ?_)
          · skip
            have i10x10x1 := z_lt (-2147483648) (-1) c10x10x1 (i_rng x2) rfl
            refine g_iconst 0 17 (gd rfl) rfl rfl ?_
            refine g_ireturn (gd rfl) rfl (nb01 (in_w 0 1 (in_c 0 rfl) rfl)) (hp10x10 _ _ ?_)
            show GG _ _ _ _ _ _ _ _ [.int (Int32.ofInt 0)] _ _ _
            refine g_if_eq 16 25 (gd rfl) rfl rfl (fun c10x13 => ?_) (fun c10x13 => ?_)
            · skip
              refine g_iconst 0 26 (gd rfl) rfl rfl ?_
              refine g_ireturn (gd rfl) rfl (nb01 (in_w 0 1 (in_c 0 rfl) rfl)) (hp10 _ _ ?_)
              show GG _ _ _ _ _ _ _ _ [.int (Int32.ofInt 0)] _ _ _
              refine g_if_eq 16 31 (gd rfl) rfl rfl (fun c13 => ?_) (fun c13 => ?_)
              · skip
                exact gg_w (by omega) (gg_f (gf_cons rfl (gf_cons rfl (gf_cons rfl (gf_cons rfl gf_nil)))) (ct31 s  hI fr_rf ))
              · skip
                exact zn_ne c13 (in_c 0 rfl) rfl
            · skip
              exact zn_ne c10x13 (in_c 0 rfl) rfl
          · skip
            have i10x10x1 := z_ge 0 2147483647 c10x10x1 (i_rng x2) rfl
            refine g_iload_n 5 (gd rfl) rfl rfl ?_
            refine g_aload_n 6 (gd rfl) rfl rfl ?_
            refine g_getI 9 (gd rfl) rfl rfl rfl (fun z10x10x6 e10x10x6 => ?_)
            have q10x10x6 : u_2_1 = z10x10x6 := (e_2_1).trans e10x10x6.symm
            subst q10x10x6
            refine g_cmp_ge 12 16 (gd rfl) rfl rfl (fun c10x10x9 => ?_) (fun c10x10x9 => ?_)
            · skip
              have i10x10x9 := r_le2 1 2147483647 c10x10x9 i10x2x9a i10x10x1 rfl
              refine g_iconst 0 17 (gd rfl) rfl rfl ?_
              refine g_ireturn (gd rfl) rfl (nb01 (in_w 0 1 (in_c 0 rfl) rfl)) (hp10x10 _ _ ?_)
              show GG _ _ _ _ _ _ _ _ [.int (Int32.ofInt 0)] _ _ _
              refine g_if_eq 16 25 (gd rfl) rfl rfl (fun c10x13 => ?_) (fun c10x13 => ?_)
              · skip
                refine g_iconst 0 26 (gd rfl) rfl rfl ?_
                refine g_ireturn (gd rfl) rfl (nb01 (in_w 0 1 (in_c 0 rfl) rfl)) (hp10 _ _ ?_)
                show GG _ _ _ _ _ _ _ _ [.int (Int32.ofInt 0)] _ _ _
                refine g_if_eq 16 31 (gd rfl) rfl rfl (fun c13 => ?_) (fun c13 => ?_)
                · skip
                  exact gg_w (by omega) (gg_f (gf_cons rfl (gf_cons rfl (gf_cons rfl (gf_cons rfl gf_nil)))) (ct31 s  hI fr_rf ))
                · skip
                  exact zn_ne c13 (in_c 0 rfl) rfl
              · skip
                exact zn_ne c10x13 (in_c 0 rfl) rfl
            · skip
              have i10x10x9 := r_lt1 0 31 c10x10x9 i10x10x1 i10x2x9a rfl
              refine g_iconst 1 13 (gd rfl) rfl rfl ?_
              refine g_goto 17 (gd rfl) rfl ?_
              refine g_ireturn (gd rfl) rfl (nb01 (in_w 0 1 (in_c 1 rfl) rfl)) (hp10x10 _ _ ?_)
              show GG _ _ _ _ _ _ _ _ [.int (Int32.ofInt 1)] _ _ _
              refine g_if_eq 16 25 (gd rfl) rfl rfl (fun c10x13 => ?_) (fun c10x13 => ?_)
              · skip
                exact zn_eq c10x13 (in_c 1 rfl) rfl
              · skip
                refine g_iload_n 17 (gd rfl) rfl rfl ?_
                refine g_iload_n 18 (gd rfl) rfl rfl ?_
                refine g_cmp_eq 21 25 (gd rfl) rfl rfl (fun c10x18 => ?_) (fun c10x18 => ?_)
                · skip
                  refine g_iconst 0 26 (gd rfl) rfl rfl ?_
                  refine g_ireturn (gd rfl) rfl (nb01 (in_w 0 1 (in_c 0 rfl) rfl)) (hp10 _ _ ?_)
                  show GG _ _ _ _ _ _ _ _ [.int (Int32.ofInt 0)] _ _ _
                  refine g_if_eq 16 31 (gd rfl) rfl rfl (fun c13 => ?_) (fun c13 => ?_)
                  · skip
                    exact gg_w (by omega) (gg_f (gf_cons rfl (gf_cons rfl (gf_cons rfl (gf_cons rfl gf_nil)))) (ct31 s  hI fr_rf ))
                  · skip
                    exact zn_ne c13 (in_c 0 rfl) rfl
                · skip
                  refine g_iconst 1 22 (gd rfl) rfl rfl ?_
                  refine g_goto 26 (gd rfl) rfl ?_
                  refine g_ireturn (gd rfl) rfl (nb01 (in_w 0 1 (in_c 1 rfl) rfl)) (hp10 _ _ ?_)
                  show GG _ _ _ _ _ _ _ _ [.int (Int32.ofInt 1)] _ _ _
                  refine g_if_eq 16 31 (gd rfl) rfl rfl (fun c13 => ?_) (fun c13 => ?_)
                  · skip
                    exact zn_eq c13 (in_c 1 rfl) rfl
                  · skip
                    refine g_iload_n 17 (gd rfl) rfl rfl ?_
                    refine g_if_lt 20 31 (gd rfl) rfl rfl (fun c17 => ?_) (fun c17 => ?_)
                    · skip
                      have i17 := z_lt (-2147483648) (-1) c17 (i_rng x3) rfl
                      exact gg_w (by omega) (gg_f (gf_cons rfl (gf_cons rfl (gf_cons rfl (gf_cons rfl gf_nil)))) (ct31 s  hI fr_rf ))
                    · skip
                      have i17 := z_ge 0 2147483647 c17 (i_rng x3) rfl
                      refine g_iload_n 21 (gd rfl) rfl rfl ?_
                      refine g_ldc_w 200000000 24 (gd rfl) rfl rfl ?_
                      refine g_cmp_gt 27 31 (gd rfl) rfl rfl (fun c24 => ?_) (fun c24 => ?_)
                      · skip
                        have i24 := r_lt2 200000001 2147483647 c24 (in_c 200000000 rfl) i17 rfl
                        exact gg_w (by omega) (gg_f (gf_cons rfl (gf_cons rfl (gf_cons rfl (gf_cons rfl gf_nil)))) (ct31 s  hI fr_rf ))
                      · skip
                        have i24 := r_le1 0 200000000 c24 i17 (in_c 200000000 rfl) rfl
                        refine g_iconst 1 28 (gd rfl) rfl rfl ?_
                        refine g_goto 32 (gd rfl) rfl ?_
                        refine g_thr (E := am_IA) (y := yX11_allow) 35 (gd rfl) rfl rfl (Or.inl ⟨rfl, rfl, rfl⟩) (by omega) (Nat.le_of_ble_eq_true rfl) (Nat.le_of_ble_eq_true rfl) (Nat.le_of_ble_eq_true rfl) (fun c32 => ?_) (fun c32 => ?_)
                        · skip
                          refine g_aload_n 36 (gd rfl) rfl rfl ?_
                          refine g_getA (q2 := 65) 39 (gd rfl) rfl rfl rfl rfl ?_
                          refine g_aload 41 (gd rfl) rfl rfl ?_
                          refine g_iload_n 42 (gd rfl) rfl rfl ?_
                          refine g_iload_n 43 (gd rfl) rfl rfl ?_
                          refine g_iload_n 44 (gd rfl) rfl rfl ?_
                          refine g_callv (X := _) (As := [.ref (A 2), .int x1, .int x2, .int x3]) (r := []) (b := A 65) (q := 65) 47 (gd rfl) rfl rfl rfl rfl rfl (ww_o rfl) (Nat.le_of_ble_eq_true rfl) (Nat.zero_le _) (Nat.zero_le _) (k_79_65_2 (by omega) hI (in_w 0 31 i10x2x9 rfl) (in_w 0 31 i10x10x9 rfl) (in_w 0 200000000 i24 rfl)) (fun e u h => h) (fun v u h => ?_)
                          obtain ⟨s44, hI44, hF44, z44, rfl, rfl⟩ := h
                          show GG _ _ _ _ _ _ _ _ [.long z44] _ _ _
                          exact g_lreturn (gd rfl) rfl (hP _ _ ⟨s44, hI44, (fr_tr rfl fr_rf hF44), z44, rfl, rfl⟩)
                        · skip
                          exact zn_eq c32 (in_c 1 rfl) rfl
