/-! FUNCTIONAL CONTRACTS, by fgen.py -/
theorem oc_357_109 : (Int32.ofInt (-1)).toInt = (-1) ∧ (Int32.ofInt 0).toInt = 0 ∧ (Int32.ofInt 1).toInt = 1 ∧ (Int32.ofInt 160).toInt = 160 ∧ (Int64.ofInt 0).toInt = 0 ∧ (Int64.ofInt 200000000).toInt = 200000000 ∧ (Int64.ofInt 9000000000000000).toInt = 9000000000000000 := ⟨rfl, rfl, rfl, rfl, rfl, rfl, rfl⟩
set_option maxHeartbeats 4000000 in
/-- GraphHouseModel.cost -/
theorem f_357 {Z : AmZ} {A : Nat → Nat} {s : GS} {ex : va_W} {d : Nat} {X : AmX} {x1 : Int32} {x2 : Int32} {x3 : Int32} (hd : 4 ≤ d) (hI : Inv s)  : GC Z d 357 [.ref (A 109), .int x1, .int x2, .int x3] (WW Z A s ++ ex) 0 0 (fun v u => ∃ t : GS, Inv t ∧ Fr fm_357 s t ∧ ∃ z : Int64, v = some (.long z) ∧ u = WW Z A t ++ ex ∧ (CSR s t x1 x2 x3 z)) X := by
  intro post xp hP hX
  obtain ⟨u_109_19, e_109_19⟩ : ∃ w, w = s.2.2.1 109 19 := ⟨_, rfl⟩
  have ro_109_19 := inv_F hI 0 160 rfl e_109_19
  obtain ⟨u_109_20, e_109_20⟩ : ∃ w, w = s.2.2.1 109 20 := ⟨_, rfl⟩
  have ro_109_20 := inv_F hI 0 32 rfl e_109_20
  have ct263 : ∀ (k263 : Nat) (sc263 : GS) (y263_4 : Int32) (y263_5 : Int64) (y263_7 : Int32), Inv sc263 → Fr fm_357 s sc263 → (In x1 0 31) → (In x2 0 31) → (In x3 0 200000000) → (In y263_4 0 1) → (In y263_7 0 160) → (ZSU s sc263 (y263_5).toInt (y263_7).toNatClampNeg) → (ZFI s sc263 (x1).toNatClampNeg (x2).toNatClampNeg (x3).toInt (y263_4).toInt) → (((sc263).2.2.1 109 0).toInt = 0) → ((x1).toInt ≠ (x2).toInt ∧ (x1).toInt < (s.2.2.1 109 20).toInt ∧ (x2).toInt < (s.2.2.1 109 20).toInt) → 160 - (y263_7).toInt < (k263 : Int) → GG Z (d - 1) 357 post (gx xp) (1 + k263 * 900) 263 (fun j => xlook j [(0, .ref (A 109)), (1, .int x1), (2, .int x2), (3, .int x3), (4, .int y263_4), (5, .long y263_5), (7, .int y263_7)]) [] (WW Z A sc263 ++ ex) 0 0 := by
    intro k263
    induction k263 with
    | zero => intro sc263 y263_4 y263_5 y263_7 hIc263 hFc263 j263_1 j263_2 j263_3 j263_4 j263_7 g263_0 g263_1 g263_2 g263_3 mm263; exact m_no mm263 j263_7 rfl
    | succ k263 ih263 =>
      intro sc263 y263_4 y263_5 y263_7 hIc263 hFc263 j263_1 j263_2 j263_3 j263_4 j263_7 g263_0 g263_1 g263_2 g263_3 mm263
      refine gg_w (M := 1 + k263 * 900 + 900) gws ?_
      refine g_iload 265 (gd rfl) rfl rfl ?_
      refine g_sipush 160 268 (gd rfl) rfl rfl ?_
      refine g_cmp_ge 271 322 (gd rfl) rfl rfl (fun c268 => ?_) (fun c268 => ?_)
      · skip
        have i268 := r_le2 160 160 c268 (in_c 160 rfl) j263_7 rfl
        refine g_iload 324 (gd rfl) rfl rfl ?_
        refine g_if_eq 327 332 (gd rfl) rfl rfl (fun c324 => ?_) (fun c324 => ?_)
        · skip
          have i324 := z_eq 0 0 c324 j263_4 rfl
          refine g_ldc2_w 9000000000000000 335 (gd rfl) rfl rfl ?_
          have n335 : CSR s sc263 x1 x2 x3 (Int64.ofInt 9000000000000000) := by first | (exact csr_i (S := sc263) (k := (y263_7).toNatClampNeg) hI (show ZSM s sc263 from ⟨hFc263.1 112 rfl, hFc263.1 113 rfl, hFc263.1 114 rfl, hFc263.1 115 rfl, hFc263.1 116 rfl, hFc263.2.2.1 109 19 rfl, hFc263.2.2.1 109 20 rfl⟩) g263_2 j263_3 j263_1 j263_2 g263_3.2.1 g263_3.2.2 g263_3.1 g263_1 (Or.inl ⟨c324, rfl⟩)) | (exact csr_i (S := sc263) (k := (y263_7).toNatClampNeg) hI (show ZSM s sc263 from ⟨hFc263.1 112 rfl, hFc263.1 113 rfl, hFc263.1 114 rfl, hFc263.1 115 rfl, hFc263.1 116 rfl, hFc263.2.2.1 109 19 rfl, hFc263.2.2.1 109 20 rfl⟩) g263_2 j263_3 j263_1 j263_2 g263_3.2.1 g263_3.2.2 g263_3.1 g263_1 (Or.inr ⟨c324, g263_0, show (y263_7).toNatClampNeg = 160 from (by show (y263_7).toInt.toNat = 160; (first | have a0 := in_u j263_2 | (have a0 := j263_2; unfold In at a0)); (first | have a1 := in_u j263_1 | (have a1 := j263_1; unfold In at a1)); (first | have a2 := in_u ro_109_20 | (have a2 := ro_109_20; unfold In at a2)); (first | have a3 := in_u ro_109_19 | (have a3 := ro_109_19; unfold In at a3)); (first | have a4 := in_u i268 | (have a4 := i268; unfold In at a4)); (first | have a5 := in_u i324 | (have a5 := i324; unfold In at a5)); (first | have a6 := in_u j263_3 | (have a6 := j263_3; unfold In at a6)); have oc := oc_357_109; omega)⟩))
          exact g_lreturn (gd rfl) rfl (hP _ _ ⟨sc263, hIc263, hFc263, (Int64.ofInt 9000000000000000), rfl, rfl, n335⟩)
        · skip
          have i324 := z_ne 1 1 c324 j263_4 rfl
          refine g_lload 329 (gd rfl) rfl rfl ?_
          refine g_goto 335 (gd rfl) rfl ?_
          have n335 : CSR s sc263 x1 x2 x3 y263_5 := by first | (exact csr_i (S := sc263) (k := (y263_7).toNatClampNeg) hI (show ZSM s sc263 from ⟨hFc263.1 112 rfl, hFc263.1 113 rfl, hFc263.1 114 rfl, hFc263.1 115 rfl, hFc263.1 116 rfl, hFc263.2.2.1 109 19 rfl, hFc263.2.2.1 109 20 rfl⟩) g263_2 j263_3 j263_1 j263_2 g263_3.2.1 g263_3.2.2 g263_3.1 g263_1 (Or.inl ⟨c324, rfl⟩)) | (exact csr_i (S := sc263) (k := (y263_7).toNatClampNeg) hI (show ZSM s sc263 from ⟨hFc263.1 112 rfl, hFc263.1 113 rfl, hFc263.1 114 rfl, hFc263.1 115 rfl, hFc263.1 116 rfl, hFc263.2.2.1 109 19 rfl, hFc263.2.2.1 109 20 rfl⟩) g263_2 j263_3 j263_1 j263_2 g263_3.2.1 g263_3.2.2 g263_3.1 g263_1 (Or.inr ⟨c324, g263_0, show (y263_7).toNatClampNeg = 160 from (by show (y263_7).toInt.toNat = 160; (first | have a0 := in_u j263_2 | (have a0 := j263_2; unfold In at a0)); (first | have a1 := in_u j263_1 | (have a1 := j263_1; unfold In at a1)); (first | have a2 := in_u ro_109_20 | (have a2 := ro_109_20; unfold In at a2)); (first | have a3 := in_u ro_109_19 | (have a3 := ro_109_19; unfold In at a3)); (first | have a4 := in_u i268 | (have a4 := i268; unfold In at a4)); (first | have a5 := in_u i324 | (have a5 := i324; unfold In at a5)); (first | have a6 := in_u j263_3 | (have a6 := j263_3; unfold In at a6)); have oc := oc_357_109; omega)⟩))
          exact g_lreturn (gd rfl) rfl (hP _ _ ⟨sc263, hIc263, hFc263, y263_5, rfl, rfl, n335⟩)
      · skip
        have i268 := r_lt1 0 159 c268 j263_7 (in_c 160 rfl) rfl
        refine g_lload 273 (gd rfl) rfl rfl ?_
        refine g_aload_n 274 (gd rfl) rfl rfl ?_
        refine g_getA (q2 := 112) 277 (gd rfl) rfl rfl rfl rfl ?_
        refine g_aload_n 278 (gd rfl) rfl rfl ?_
        refine g_getI 281 (gd rfl) rfl rfl rfl (fun z278 e278 => ?_)
        have q278 : u_109_19 = z278 := (fr_F e_109_19 hFc263 rfl).trans e278.symm
        subst q278
        refine g_iload 283 (gd rfl) rfl rfl ?_
        refine g_iadd 284 (gd rfl) rfl (fun z283 e283 => ?_)
        have i283 := in_add 0 319 e283 ro_109_19 i268 rfl rfl
        refine g_baload 285 (gd rfl) rfl (n := 480) rfl (in_ix i283 rfl) (fun z284 e284 => ?_)
        have i284 := inv_I hIc263 (n := 480) (t := 3) 0 1 rfl (in_ix i283 rfl) rfl e284
        refine g_if_eq 288 312 (gd rfl) rfl rfl (fun c285 => ?_) (fun c285 => ?_)
        · skip
          have i285 := z_eq 0 0 c285 i284 rfl
          refine g_lconst 0 313 (gd rfl) rfl rfl ?_
          refine g_ladd 314 (gd rfl) rfl (fun z313 e313 => ?_)
          refine g_lstore 316 (gd rfl) rfl (Nat.le_of_ble_eq_true rfl) ?_
          refine g_iinc 319 (gd rfl) rfl rfl (Nat.le_of_ble_eq_true rfl) (fun z316 e316 => ?_)
          have i316 := in_add 1 160 e316 i268 (in_c 1 rfl) rfl rfl
          refine g_goto 263 (gd rfl) rfl ?_
          have n263 : ZSU s sc263 (z313).toInt (z316).toNatClampNeg := by rw [(show (z316).toNatClampNeg = (y263_7).toNatClampNeg + 1 from (by show (z316).toInt.toNat = (y263_7).toInt.toNat + 1; (first | have a0 := in_u j263_2 | (have a0 := j263_2; unfold In at a0)); (first | have a1 := in_u j263_1 | (have a1 := j263_1; unfold In at a1)); (first | have a2 := in_u ro_109_20 | (have a2 := ro_109_20; unfold In at a2)); (first | have a3 := in_u ro_109_19 | (have a3 := ro_109_19; unfold In at a3)); (first | have a4 := in_u i268 | (have a4 := i268; unfold In at a4)); (first | have a5 := in_u j263_4 | (have a5 := j263_4; unfold In at a5)); (first | have a6 := in_u i316 | (have a6 := i316; unfold In at a6)); have a7 := t_add e316 i268 (in_c 1 rfl) rfl; (first | have a8 := in_u ((in_c 1 rfl)) | (have a8 := (in_c 1 rfl); unfold In at a8)); (first | have a9 := in_u j263_3 | (have a9 := j263_3; unfold In at a9)); (first | have a10 := in_u i283 | (have a10 := i283; unfold In at a10)); have a11 := t_add e283 ro_109_19 i268 rfl; have oc := oc_357_109; omega))]; have z9 : z313 = y263_5 := (by rw [e313]; exact Int64.add_zero _); rw [z9]; exact zsu_n g263_0 (by rw [(show bs s + (y263_7).toNatClampNeg = z283.toNatClampNeg from (by show (s.2.2.1 109 19).toInt.toNat + (y263_7).toInt.toNat = z283.toInt.toNat; rw [← e_109_19]; (first | have a0 := in_u j263_2 | (have a0 := j263_2; unfold In at a0)); (first | have a1 := in_u j263_1 | (have a1 := j263_1; unfold In at a1)); (first | have a2 := in_u ro_109_20 | (have a2 := ro_109_20; unfold In at a2)); (first | have a3 := in_u ro_109_19 | (have a3 := ro_109_19; unfold In at a3)); (first | have a4 := in_u i268 | (have a4 := i268; unfold In at a4)); (first | have a5 := in_u j263_4 | (have a5 := j263_4; unfold In at a5)); (first | have a6 := in_u i316 | (have a6 := i316; unfold In at a6)); have a7 := t_add e316 i268 (in_c 1 rfl) rfl; (first | have a8 := in_u ((in_c 1 rfl)) | (have a8 := (in_c 1 rfl); unfold In at a8)); (first | have a9 := in_u j263_3 | (have a9 := j263_3; unfold In at a9)); (first | have a10 := in_u i283 | (have a10 := i283; unfold In at a10)); have a11 := t_add e283 ro_109_19 i268 rfl; have oc := oc_357_109; omega)), ← hFc263.1 112 rfl, ← e284]; exact c285)
          have n263a : ZFI s sc263 (x1).toNatClampNeg (x2).toNatClampNeg (x3).toInt (y263_4).toInt := by exact g263_1
          have n263b : ((sc263).2.2.1 109 0).toInt = 0 := by exact g263_2
          have n263c : (x1).toInt ≠ (x2).toInt ∧ (x1).toInt < (s.2.2.1 109 20).toInt ∧ (x2).toInt < (s.2.2.1 109 20).toInt := by exact g263_3
          exact gg_w (by first | exact Nat.le_add_right _ _ | exact gw2 | exact gw3 | exact gwe rfl | exact gwf rfl | exact gwg rfl | exact gwh rfl | omega) (gg_f (gf_cons rfl (gf_cons rfl (gf_cons rfl (gf_cons rfl (gf_cons rfl (gf_cons rfl (gf_cons rfl gf_nil))))))) (ih263 sc263 y263_4 z313 z316 hIc263 hFc263 (in_w 0 31 j263_1 rfl) (in_w 0 31 j263_2 rfl) (in_w 0 200000000 j263_3 rfl) (in_w 0 1 j263_4 rfl) (in_w 0 160 i316 rfl) n263 n263a n263b n263c (m_up mm263 (t_add e316 i268 (in_c 1 rfl) rfl) (in_w 1 1 (in_c 1 rfl) rfl))))
        · skip
          have i285 := z_ne 1 1 c285 i284 rfl
          refine g_aload_n 289 (gd rfl) rfl rfl ?_
          refine g_getA (q2 := 147) 292 (gd rfl) rfl rfl rfl rfl ?_
          refine g_iload 294 (gd rfl) rfl rfl ?_
          refine g_laload 295 (gd rfl) rfl (n := 160) rfl (in_ix i268 rfl) (fun z294 e294 => ?_)
          refine g_aload_n 296 (gd rfl) rfl rfl ?_
          refine g_getA (q2 := 115) 299 (gd rfl) rfl rfl rfl rfl ?_
          refine g_aload_n 300 (gd rfl) rfl rfl ?_
          refine g_getI 303 (gd rfl) rfl rfl rfl (fun z300 e300 => ?_)
          have q300 : u_109_19 = z300 := (fr_F e_109_19 hFc263 rfl).trans e300.symm
          subst q300
          refine g_iload 305 (gd rfl) rfl rfl ?_
          refine g_iadd 306 (gd rfl) rfl (fun z305 e305 => ?_)
          have i305 := in_add 0 319 e305 ro_109_19 i268 rfl rfl
          refine g_iaload 307 (gd rfl) rfl (n := 480) rfl (in_ix i305 rfl) (fun z306 e306 => ?_)
          have i306 := inv_I hIc263 (n := 480) (t := 0) (-1000000) 1000000 rfl (in_ix i305 rfl) rfl e306
          refine g_i2l 308 (gd rfl) rfl (fun z307 e307 => ?_)
          have i307 := l_i e307 i306
          refine g_lmul 309 (gd rfl) rfl (fun z308 e308 => ?_)
          refine g_goto 313 (gd rfl) rfl ?_
          refine g_ladd 314 (gd rfl) rfl (fun z313 e313 => ?_)
          refine g_lstore 316 (gd rfl) rfl (Nat.le_of_ble_eq_true rfl) ?_
          refine g_iinc 319 (gd rfl) rfl rfl (Nat.le_of_ble_eq_true rfl) (fun z316 e316 => ?_)
          have i316 := in_add 1 160 e316 i268 (in_c 1 rfl) rfl rfl
          refine g_goto 263 (gd rfl) rfl ?_
          have n263 : ZSU s sc263 (z313).toInt (z316).toNatClampNeg := by rw [(show (z316).toNatClampNeg = (y263_7).toNatClampNeg + 1 from (by show (z316).toInt.toNat = (y263_7).toInt.toNat + 1; (first | have a0 := in_u j263_2 | (have a0 := j263_2; unfold In at a0)); (first | have a1 := in_u j263_1 | (have a1 := j263_1; unfold In at a1)); (first | have a2 := in_u ro_109_20 | (have a2 := ro_109_20; unfold In at a2)); (first | have a3 := in_u ro_109_19 | (have a3 := ro_109_19; unfold In at a3)); (first | have a4 := in_u i268 | (have a4 := i268; unfold In at a4)); (first | have a5 := in_u j263_4 | (have a5 := j263_4; unfold In at a5)); (first | have a6 := in_u i316 | (have a6 := i316; unfold In at a6)); have a7 := t_add e316 i268 (in_c 1 rfl) rfl; (first | have a8 := in_u ((in_c 1 rfl)) | (have a8 := (in_c 1 rfl); unfold In at a8)); (first | have a9 := in_u j263_3 | (have a9 := j263_3; unfold In at a9)); have a10 := tx_i2l e307; (first | have a11 := in_u i306 | (have a11 := i306; unfold In at a11)); (first | have a12 := in_u i305 | (have a12 := i305; unfold In at a12)); have a13 := t_add e305 ro_109_19 i268 rfl; (first | have a14 := in_u i283 | (have a14 := i283; unfold In at a14)); have a15 := t_add e283 ro_109_19 i268 rfl; have oc := oc_357_109; omega))]; exact zsu_y hI (fb_z g263_1.2.1 (show ZSM s sc263 from ⟨hFc263.1 112 rfl, hFc263.1 113 rfl, hFc263.1 114 rfl, hFc263.1 115 rfl, hFc263.1 116 rfl, hFc263.2.2.1 109 19 rfl, hFc263.2.2.1 109 20 rfl⟩)) g263_0 (show (y263_7).toNatClampNeg < 160 from (by show (y263_7).toInt.toNat < 160; (first | have a0 := in_u j263_2 | (have a0 := j263_2; unfold In at a0)); (first | have a1 := in_u j263_1 | (have a1 := j263_1; unfold In at a1)); (first | have a2 := in_u ro_109_20 | (have a2 := ro_109_20; unfold In at a2)); (first | have a3 := in_u ro_109_19 | (have a3 := ro_109_19; unfold In at a3)); (first | have a4 := in_u i268 | (have a4 := i268; unfold In at a4)); (first | have a5 := in_u j263_4 | (have a5 := j263_4; unfold In at a5)); (first | have a6 := in_u i316 | (have a6 := i316; unfold In at a6)); have a7 := t_add e316 i268 (in_c 1 rfl) rfl; (first | have a8 := in_u ((in_c 1 rfl)) | (have a8 := (in_c 1 rfl); unfold In at a8)); (first | have a9 := in_u j263_3 | (have a9 := j263_3; unfold In at a9)); have a10 := tx_i2l e307; (first | have a11 := in_u i306 | (have a11 := i306; unfold In at a11)); (first | have a12 := in_u i305 | (have a12 := i305; unfold In at a12)); have a13 := t_add e305 ro_109_19 i268 rfl; (first | have a14 := in_u i283 | (have a14 := i283; unfold In at a14)); have a15 := t_add e283 ro_109_19 i268 rfl; have oc := oc_357_109; omega)) (by rw [(show bs s + (y263_7).toNatClampNeg = z283.toNatClampNeg from (by show (s.2.2.1 109 19).toInt.toNat + (y263_7).toInt.toNat = z283.toInt.toNat; rw [← e_109_19]; (first | have a0 := in_u j263_2 | (have a0 := j263_2; unfold In at a0)); (first | have a1 := in_u j263_1 | (have a1 := j263_1; unfold In at a1)); (first | have a2 := in_u ro_109_20 | (have a2 := ro_109_20; unfold In at a2)); (first | have a3 := in_u ro_109_19 | (have a3 := ro_109_19; unfold In at a3)); (first | have a4 := in_u i268 | (have a4 := i268; unfold In at a4)); (first | have a5 := in_u j263_4 | (have a5 := j263_4; unfold In at a5)); (first | have a6 := in_u i316 | (have a6 := i316; unfold In at a6)); have a7 := t_add e316 i268 (in_c 1 rfl) rfl; (first | have a8 := in_u ((in_c 1 rfl)) | (have a8 := (in_c 1 rfl); unfold In at a8)); (first | have a9 := in_u j263_3 | (have a9 := j263_3; unfold In at a9)); have a10 := tx_i2l e307; (first | have a11 := in_u i306 | (have a11 := i306; unfold In at a11)); (first | have a12 := in_u i305 | (have a12 := i305; unfold In at a12)); have a13 := t_add e305 ro_109_19 i268 rfl; (first | have a14 := in_u i283 | (have a14 := i283; unfold In at a14)); have a15 := t_add e283 ro_109_19 i268 rfl; have oc := oc_357_109; omega)), ← hFc263.1 112 rfl, ← e284]; exact c285) e294 (by rw [(show bs s + (y263_7).toNatClampNeg = z305.toNatClampNeg from (by show (s.2.2.1 109 19).toInt.toNat + (y263_7).toInt.toNat = z305.toInt.toNat; rw [← e_109_19]; (first | have a0 := in_u j263_2 | (have a0 := j263_2; unfold In at a0)); (first | have a1 := in_u j263_1 | (have a1 := j263_1; unfold In at a1)); (first | have a2 := in_u ro_109_20 | (have a2 := ro_109_20; unfold In at a2)); (first | have a3 := in_u ro_109_19 | (have a3 := ro_109_19; unfold In at a3)); (first | have a4 := in_u i268 | (have a4 := i268; unfold In at a4)); (first | have a5 := in_u j263_4 | (have a5 := j263_4; unfold In at a5)); (first | have a6 := in_u i316 | (have a6 := i316; unfold In at a6)); have a7 := t_add e316 i268 (in_c 1 rfl) rfl; (first | have a8 := in_u ((in_c 1 rfl)) | (have a8 := (in_c 1 rfl); unfold In at a8)); (first | have a9 := in_u j263_3 | (have a9 := j263_3; unfold In at a9)); have a10 := tx_i2l e307; (first | have a11 := in_u i306 | (have a11 := i306; unfold In at a11)); (first | have a12 := in_u i305 | (have a12 := i305; unfold In at a12)); have a13 := t_add e305 ro_109_19 i268 rfl; (first | have a14 := in_u i283 | (have a14 := i283; unfold In at a14)); have a15 := t_add e283 ro_109_19 i268 rfl; have oc := oc_357_109; omega)), ← hFc263.1 115 rfl]; exact e306) e307 e308 e313
          have n263a : ZFI s sc263 (x1).toNatClampNeg (x2).toNatClampNeg (x3).toInt (y263_4).toInt := by exact g263_1
          have n263b : ((sc263).2.2.1 109 0).toInt = 0 := by exact g263_2
          have n263c : (x1).toInt ≠ (x2).toInt ∧ (x1).toInt < (s.2.2.1 109 20).toInt ∧ (x2).toInt < (s.2.2.1 109 20).toInt := by exact g263_3
          exact gg_w (by first | exact Nat.le_add_right _ _ | exact gw2 | exact gw3 | exact gwe rfl | exact gwf rfl | exact gwg rfl | exact gwh rfl | omega) (gg_f (gf_cons rfl (gf_cons rfl (gf_cons rfl (gf_cons rfl (gf_cons rfl (gf_cons rfl (gf_cons rfl gf_nil))))))) (ih263 sc263 y263_4 z313 z316 hIc263 hFc263 (in_w 0 31 j263_1 rfl) (in_w 0 31 j263_2 rfl) (in_w 0 200000000 j263_3 rfl) (in_w 0 1 j263_4 rfl) (in_w 0 160 i316 rfl) n263 n263a n263b n263c (m_up mm263 (t_add e316 i268 (in_c 1 rfl) rfl) (in_w 1 1 (in_c 1 rfl) rfl))))
  have ct209 : ∀ (k209 : Nat) (sc209 : GS) (y209_4 : Int32) (y209_5 : Int32), Inv sc209 → Fr fm_357 s sc209 → (In x1 0 31) → (In x2 0 31) → (In x3 0 200000000) → (In y209_4 0 1) → (In y209_5 0 32) → (CO sc209) → (SU sc209) → (ZLP s sc209 (x1).toNatClampNeg (x2).toNatClampNeg (x3).toInt (y209_5).toNatClampNeg (y209_4).toInt) → (((sc209).2.2.1 109 0).toInt = 0) → ((x1).toInt ≠ (x2).toInt ∧ (x1).toInt < (s.2.2.1 109 20).toInt ∧ (x2).toInt < (s.2.2.1 109 20).toInt) → 32 - (y209_5).toInt < (k209 : Int) → GG Z (d - 1) 357 post (gx xp) (144902 + k209 * 1080000005401) 209 (fun j => xlook j [(0, .ref (A 109)), (1, .int x1), (2, .int x2), (3, .int x3), (4, .int y209_4), (5, .int y209_5)]) [] (WW Z A sc209 ++ ex) 0 0 := by
    intro k209
    induction k209 with
    | zero => intro sc209 y209_4 y209_5 hIc209 hFc209 j209_1 j209_2 j209_3 j209_4 j209_5 g209_0 g209_1 g209_2 g209_3 g209_4 mm209; exact m_no mm209 j209_5 rfl
    | succ k209 ih209 =>
      intro sc209 y209_4 y209_5 hIc209 hFc209 j209_1 j209_2 j209_3 j209_4 j209_5 g209_0 g209_1 g209_2 g209_3 g209_4 mm209
      refine gg_w (M := 144902 + k209 * 1080000005401 + 1080000005401) gws ?_
      have ct223 : ∀ (k223 : Nat) (sc223 : GS) (y223_4 : Int32), Inv sc223 → Fr fm_357 s sc223 → (In y223_4 0 1) → (In y209_5 0 31) → ((y209_5).toInt < (u_109_20).toInt) → (CO sc223) → (SU sc223) → (ZLP s sc223 (x1).toNatClampNeg (x2).toNatClampNeg (x3).toInt (y209_5).toNatClampNeg (y223_4).toInt) → (((sc223).2.2.1 109 0).toInt = 0) → 2 * (sc223.2.1 150 (y209_5).toNatClampNeg).toInt.toNat + (y223_4).toInt.toNat < k223 → GG Z (d - 1) 357 post (gx xp) (144902 + k209 * 1080000005401 + 1 + k223 * 900) 223 (fun j => xlook j [(0, .ref (A 109)), (1, .int x1), (2, .int x2), (3, .int x3), (4, .int y223_4), (5, .int y209_5)]) [] (WW Z A sc223 ++ ex) 0 0 := by
        intro k223
        induction k223 with
        | zero => intro sc223 y223_4 hIc223 hFc223 j223_4 j223_5 n223_0 g223_0 g223_1 g223_2 g223_3 mm223; exact absurd mm223 (Nat.not_lt_zero _)
        | succ k223 ih223 =>
          intro sc223 y223_4 hIc223 hFc223 j223_4 j223_5 n223_0 g223_0 g223_1 g223_2 g223_3 mm223
          refine gg_w (M := 144902 + k209 * 1080000005401 + 1 + k223 * 900 + 900) gws ?_
          refine g_aload_n 224 (gd rfl) rfl rfl ?_
          refine g_getA (q2 := 150) 227 (gd rfl) rfl rfl rfl rfl ?_
          refine g_iload 229 (gd rfl) rfl rfl ?_
          refine g_laload 230 (gd rfl) rfl (n := 32) rfl (in_ix j223_5 rfl) (fun z229 e229 => ?_)
          refine g_lconst 0 231 (gd rfl) rfl rfl ?_
          refine g_lcmp 232 (gd rfl) rfl (fun z231 e231 => ?_)
          have i231 := lc_in e231
          refine g_if_le 235 251 (gd rfl) rfl rfl (fun c232 => ?_) (fun c232 => ?_)
          · skip
            have i232 := z_le (-1) 0 c232 i231 rfl
            have c232a := lc_le e231 c232
            have i232a := lr_le1 (-9223372036854775808) 0 c232a (l_rng z229) (l_c 0 rfl) rfl
            refine g_iinc 254 (gd rfl) rfl rfl (Nat.le_of_ble_eq_true rfl) (fun z251 e251 => ?_)
            have i251 := in_add 1 32 e251 j223_5 (in_c 1 rfl) rfl rfl
            refine g_goto 209 (gd rfl) rfl ?_
            have n209 : CO sc223 := by first | exact g223_0 | (first | exact g223_0 | exact g209_0 | exact co_0 hI ⟨hFc87.1 112 rfl, hFc87.1 113 rfl, hFc87.1 114 rfl, hFc87.1 115 rfl, hFc87.1 116 rfl, hFc87.2.2.1 109 19 rfl⟩ (by have h := g87_0; rw [show y87_4.toNatClampNeg = 160 from (by show y87_4.toInt.toNat = 160; (first | have a0 := in_u j223_5 | (have a0 := j223_5; unfold In at a0)); (first | have a1 := in_u j209_2 | (have a1 := j209_2; unfold In at a1)); (first | have a2 := in_u j209_1 | (have a2 := j209_1; unfold In at a2)); (first | have a3 := in_u ro_109_20 | (have a3 := ro_109_20; unfold In at a3)); (first | have a4 := in_u ro_109_19 | (have a4 := ro_109_19; unfold In at a4)); (first | have a5 := in_u j223_4 | (have a5 := j223_4; unfold In at a5)); (first | have a6 := in_u i251 | (have a6 := i251; unfold In at a6)); have a7 := t_add e251 j223_5 (in_c 1 rfl) rfl; (first | have a8 := in_u ((in_c 1 rfl)) | (have a8 := (in_c 1 rfl); unfold In at a8)); (first | have a9 := in_u j209_3 | (have a9 := j209_3; unfold In at a9)); have oc := oc_357_109; omega)] at h; exact h))
            have n209a : SU sc223 := by first | exact g223_1 | (first | exact g223_1 | exact g209_1 | exact fun v hv hn => sb_w g87_1 (by (first | have a0 := in_u j223_5 | (have a0 := j223_5; unfold In at a0)); (first | have a1 := in_u j209_2 | (have a1 := j209_2; unfold In at a1)); (first | have a2 := in_u j209_1 | (have a2 := j209_1; unfold In at a2)); (first | have a3 := in_u ro_109_20 | (have a3 := ro_109_20; unfold In at a3)); (first | have a4 := in_u ro_109_19 | (have a4 := ro_109_19; unfold In at a4)); (first | have a5 := in_u j223_4 | (have a5 := j223_4; unfold In at a5)); (first | have a6 := in_u i251 | (have a6 := i251; unfold In at a6)); have a7 := t_add e251 j223_5 (in_c 1 rfl) rfl; (first | have a8 := in_u ((in_c 1 rfl)) | (have a8 := (in_c 1 rfl); unfold In at a8)); (first | have a9 := in_u j209_3 | (have a9 := j209_3; unfold In at a9)); have oc := oc_357_109; omega) v hv (by rw [← hFc87.2.2.1 109 20 rfl]; exact hn))
            have n209b : ZLP s sc223 (x1).toNatClampNeg (x2).toNatClampNeg (x3).toInt (z251).toNatClampNeg (y223_4).toInt := by rw [(show (z251).toNatClampNeg = (y209_5).toNatClampNeg + 1 from (by show (z251).toInt.toNat = (y209_5).toInt.toNat + 1; (first | have a0 := in_u j223_5 | (have a0 := j223_5; unfold In at a0)); (first | have a1 := in_u j209_2 | (have a1 := j209_2; unfold In at a1)); (first | have a2 := in_u j209_1 | (have a2 := j209_1; unfold In at a2)); (first | have a3 := in_u ro_109_20 | (have a3 := ro_109_20; unfold In at a3)); (first | have a4 := in_u ro_109_19 | (have a4 := ro_109_19; unfold In at a4)); (first | have a5 := in_u j223_4 | (have a5 := j223_4; unfold In at a5)); (first | have a6 := in_u i251 | (have a6 := i251; unfold In at a6)); have a7 := t_add e251 j223_5 (in_c 1 rfl) rfl; (first | have a8 := in_u ((in_c 1 rfl)) | (have a8 := (in_c 1 rfl); unfold In at a8)); (first | have a9 := in_u j209_3 | (have a9 := j209_3; unfold In at a9)); have oc := oc_357_109; omega))]; exact zlp_n g223_2 (fun hz => by first | (exfalso; exact hz c237) | (rw [← e229]; have h9 := i232a.2; omega))
            have n209c : ((sc223).2.2.1 109 0).toInt = 0 := by exact g223_3
            have n209d : (x1).toInt ≠ (x2).toInt ∧ (x1).toInt < (s.2.2.1 109 20).toInt ∧ (x2).toInt < (s.2.2.1 109 20).toInt := by exact g209_4
            exact gg_w (by first | exact Nat.le_add_right _ _ | exact gw2 | exact gw3 | exact gwe rfl | exact gwf rfl | exact gwg rfl | exact gwh rfl | omega) (gg_f (gf_cons rfl (gf_cons rfl (gf_cons rfl (gf_cons rfl (gf_cons rfl (gf_cons rfl gf_nil)))))) (ih209 sc223 y223_4 z251 hIc223 hFc223 (in_w 0 31 j209_1 rfl) (in_w 0 31 j209_2 rfl) (in_w 0 200000000 j209_3 rfl) (in_w 0 1 j223_4 rfl) (in_w 0 32 i251 rfl) n209 n209a n209b n209c n209d (m_up mm209 (t_add e251 j223_5 (in_c 1 rfl) rfl) (in_w 1 1 (in_c 1 rfl) rfl))))
          · skip
            have i232 := z_gt 1 1 c232 i231 rfl
            have c232a := lc_gt e231 c232
            have i232a := lr_lt2 1 9223372036854775807 c232a (l_c 0 rfl) (l_rng z229) rfl
            refine g_iload 237 (gd rfl) rfl rfl ?_
            refine g_if_eq 240 251 (gd rfl) rfl rfl (fun c237 => ?_) (fun c237 => ?_)
            · skip
              have i237 := z_eq 0 0 c237 j223_4 rfl
              refine g_iinc 254 (gd rfl) rfl rfl (Nat.le_of_ble_eq_true rfl) (fun z251 e251 => ?_)
              have i251 := in_add 1 32 e251 j223_5 (in_c 1 rfl) rfl rfl
              refine g_goto 209 (gd rfl) rfl ?_
              have n209 : CO sc223 := by first | exact g223_0 | (first | exact g223_0 | exact g209_0 | exact co_0 hI ⟨hFc87.1 112 rfl, hFc87.1 113 rfl, hFc87.1 114 rfl, hFc87.1 115 rfl, hFc87.1 116 rfl, hFc87.2.2.1 109 19 rfl⟩ (by have h := g87_0; rw [show y87_4.toNatClampNeg = 160 from (by show y87_4.toInt.toNat = 160; (first | have a0 := in_u j223_5 | (have a0 := j223_5; unfold In at a0)); (first | have a1 := in_u j209_2 | (have a1 := j209_2; unfold In at a1)); (first | have a2 := in_u j209_1 | (have a2 := j209_1; unfold In at a2)); (first | have a3 := in_u ro_109_20 | (have a3 := ro_109_20; unfold In at a3)); (first | have a4 := in_u ro_109_19 | (have a4 := ro_109_19; unfold In at a4)); (first | have a5 := in_u i237 | (have a5 := i237; unfold In at a5)); (first | have a6 := in_u i251 | (have a6 := i251; unfold In at a6)); have a7 := t_add e251 j223_5 (in_c 1 rfl) rfl; (first | have a8 := in_u ((in_c 1 rfl)) | (have a8 := (in_c 1 rfl); unfold In at a8)); (first | have a9 := in_u j209_3 | (have a9 := j209_3; unfold In at a9)); have oc := oc_357_109; omega)] at h; exact h))
              have n209a : SU sc223 := by first | exact g223_1 | (first | exact g223_1 | exact g209_1 | exact fun v hv hn => sb_w g87_1 (by (first | have a0 := in_u j223_5 | (have a0 := j223_5; unfold In at a0)); (first | have a1 := in_u j209_2 | (have a1 := j209_2; unfold In at a1)); (first | have a2 := in_u j209_1 | (have a2 := j209_1; unfold In at a2)); (first | have a3 := in_u ro_109_20 | (have a3 := ro_109_20; unfold In at a3)); (first | have a4 := in_u ro_109_19 | (have a4 := ro_109_19; unfold In at a4)); (first | have a5 := in_u i237 | (have a5 := i237; unfold In at a5)); (first | have a6 := in_u i251 | (have a6 := i251; unfold In at a6)); have a7 := t_add e251 j223_5 (in_c 1 rfl) rfl; (first | have a8 := in_u ((in_c 1 rfl)) | (have a8 := (in_c 1 rfl); unfold In at a8)); (first | have a9 := in_u j209_3 | (have a9 := j209_3; unfold In at a9)); have oc := oc_357_109; omega) v hv (by rw [← hFc87.2.2.1 109 20 rfl]; exact hn))
              have n209b : ZLP s sc223 (x1).toNatClampNeg (x2).toNatClampNeg (x3).toInt (z251).toNatClampNeg (y223_4).toInt := by rw [(show (z251).toNatClampNeg = (y209_5).toNatClampNeg + 1 from (by show (z251).toInt.toNat = (y209_5).toInt.toNat + 1; (first | have a0 := in_u j223_5 | (have a0 := j223_5; unfold In at a0)); (first | have a1 := in_u j209_2 | (have a1 := j209_2; unfold In at a1)); (first | have a2 := in_u j209_1 | (have a2 := j209_1; unfold In at a2)); (first | have a3 := in_u ro_109_20 | (have a3 := ro_109_20; unfold In at a3)); (first | have a4 := in_u ro_109_19 | (have a4 := ro_109_19; unfold In at a4)); (first | have a5 := in_u i237 | (have a5 := i237; unfold In at a5)); (first | have a6 := in_u i251 | (have a6 := i251; unfold In at a6)); have a7 := t_add e251 j223_5 (in_c 1 rfl) rfl; (first | have a8 := in_u ((in_c 1 rfl)) | (have a8 := (in_c 1 rfl); unfold In at a8)); (first | have a9 := in_u j209_3 | (have a9 := j209_3; unfold In at a9)); have oc := oc_357_109; omega))]; exact zlp_n g223_2 (fun hz => by first | (exfalso; exact hz c237) | (rw [← e229]; have h9 := i232a.2; omega))
              have n209c : ((sc223).2.2.1 109 0).toInt = 0 := by exact g223_3
              have n209d : (x1).toInt ≠ (x2).toInt ∧ (x1).toInt < (s.2.2.1 109 20).toInt ∧ (x2).toInt < (s.2.2.1 109 20).toInt := by exact g209_4
              exact gg_w (by first | exact Nat.le_add_right _ _ | exact gw2 | exact gw3 | exact gwe rfl | exact gwf rfl | exact gwg rfl | exact gwh rfl | omega) (gg_f (gf_cons rfl (gf_cons rfl (gf_cons rfl (gf_cons rfl (gf_cons rfl (gf_cons rfl gf_nil)))))) (ih209 sc223 y223_4 z251 hIc223 hFc223 (in_w 0 31 j209_1 rfl) (in_w 0 31 j209_2 rfl) (in_w 0 200000000 j209_3 rfl) (in_w 0 1 i237 rfl) (in_w 0 32 i251 rfl) n209 n209a n209b n209c n209d (m_up mm209 (t_add e251 j223_5 (in_c 1 rfl) rfl) (in_w 1 1 (in_c 1 rfl) rfl))))
            · skip
              have i237 := z_ne 1 1 c237 j223_4 rfl
              refine g_aload_n 241 (gd rfl) rfl rfl ?_
              refine g_iload 243 (gd rfl) rfl rfl ?_
              have p243 : CO sc223 := by exact g223_0
              have p243a : SU sc223 := by exact g223_1
              have p243b : (y209_5).toInt < (sc223.2.2.1 109 20).toInt ∧ 0 < (sc223.2.1 150 (y209_5).toNatClampNeg).toInt := by exact ⟨by rw [hFc223.2.2.1 109 20 rfl, ← e_109_20]; (first | have a0 := in_u j223_5 | (have a0 := j223_5; unfold In at a0)); (first | have a1 := in_u j209_2 | (have a1 := j209_2; unfold In at a1)); (first | have a2 := in_u j209_1 | (have a2 := j209_1; unfold In at a2)); (first | have a3 := in_u ro_109_20 | (have a3 := ro_109_20; unfold In at a3)); (first | have a4 := in_u ro_109_19 | (have a4 := ro_109_19; unfold In at a4)); (first | have a5 := in_u i237 | (have a5 := i237; unfold In at a5)); (first | have a6 := in_u j209_3 | (have a6 := j209_3; unfold In at a6)); have oc := oc_357_109; omega, by rw [← e229]; have h := i232a.1; omega⟩
              refine g_callv (X := _) (As := [.int y209_5]) (r := []) (b := A 109) (q := 109) 246 (gd rfl) rfl rfl rfl rfl rfl (ww_o rfl) (Nat.le_of_ble_eq_true rfl) (Nat.zero_le _) (Nat.zero_le _) (f_358 (by first | exact dq1 hd rfl | exact dq0 hd rfl | exact dq2 hd rfl | exact dq3 hd rfl | omega) hIc223 (in_w 0 31 j223_5 rfl) p243 p243a p243b) (fun e u h => h) (fun v u h => ?_)
              obtain ⟨s243, hI243, hF243, z243, rfl, rfl, i243, p243c, p243d, p243e, p243f, p243g⟩ := h
              show GG _ _ _ _ _ _ _ _ [.int z243] _ _ _
              refine g_istore 248 (gd rfl) rfl (Nat.le_of_ble_eq_true rfl) ?_
              refine g_goto 223 (gd rfl) rfl ?_
              have n223 : (y209_5).toInt < (u_109_20).toInt := by first | exact n223_0 | ((first | have a0 := in_u j223_5 | (have a0 := j223_5; unfold In at a0)); (first | have a1 := in_u j209_2 | (have a1 := j209_2; unfold In at a1)); (first | have a2 := in_u j209_1 | (have a2 := j209_1; unfold In at a2)); (first | have a3 := in_u ro_109_20 | (have a3 := ro_109_20; unfold In at a3)); (first | have a4 := in_u ro_109_19 | (have a4 := ro_109_19; unfold In at a4)); (first | have a5 := in_u i237 | (have a5 := i237; unfold In at a5)); (first | have a6 := in_u i243 | (have a6 := i243; unfold In at a6)); (first | have a7 := in_u j209_3 | (have a7 := j209_3; unfold In at a7)); have oc := oc_357_109; omega)
              have n223a : CO s243 := by first | exact p243c | exact g209_0
              have n223b : SU s243 := by first | exact p243d | exact g209_1
              have n223c : ZLP s s243 (x1).toNatClampNeg (x2).toNatClampNeg (x3).toInt (y209_5).toNatClampNeg (z243).toInt := by exact zlp_s (show ZSM s sc223 from ⟨hFc223.1 112 rfl, hFc223.1 113 rfl, hFc223.1 114 rfl, hFc223.1 115 rfl, hFc223.1 116 rfl, hFc223.2.2.1 109 19 rfl, hFc223.2.2.1 109 20 rfl⟩) (show ZSM sc223 s243 from ⟨hF243.1 112 rfl, hF243.1 113 rfl, hF243.1 114 rfl, hF243.1 115 rfl, hF243.1 116 rfl, hF243.2.2.1 109 19 rfl, hF243.2.2.1 109 20 rfl⟩) g223_2 (show (y223_4).toInt ≠ 0 from c237) (by show (y209_5).toInt.toNat ≤ 32; (first | have a0 := in_u j223_5 | (have a0 := j223_5; unfold In at a0)); (first | have a1 := in_u j209_2 | (have a1 := j209_2; unfold In at a1)); (first | have a2 := in_u j209_1 | (have a2 := j209_1; unfold In at a2)); (first | have a3 := in_u ro_109_20 | (have a3 := ro_109_20; unfold In at a3)); (first | have a4 := in_u ro_109_19 | (have a4 := ro_109_19; unfold In at a4)); (first | have a5 := in_u i237 | (have a5 := i237; unfold In at a5)); (first | have a6 := in_u i243 | (have a6 := i243; unfold In at a6)); (first | have a7 := in_u j209_3 | (have a7 := j209_3; unfold In at a7)); have oc := oc_357_109; omega) (by rw [← e_109_20]; show (((y209_5).toInt.toNat : Nat) : Int) ≤ _; (first | have a0 := in_u j223_5 | (have a0 := j223_5; unfold In at a0)); (first | have a1 := in_u j209_2 | (have a1 := j209_2; unfold In at a1)); (first | have a2 := in_u j209_1 | (have a2 := j209_1; unfold In at a2)); (first | have a3 := in_u ro_109_20 | (have a3 := ro_109_20; unfold In at a3)); (first | have a4 := in_u ro_109_19 | (have a4 := ro_109_19; unfold In at a4)); (first | have a5 := in_u i237 | (have a5 := i237; unfold In at a5)); (first | have a6 := in_u i243 | (have a6 := i243; unfold In at a6)); (first | have a7 := in_u j209_3 | (have a7 := j209_3; unfold In at a7)); have oc := oc_357_109; omega) (by rw [← e229]; have h9 := i232a.1; omega) p243f p243g p243e.2
              have n223d : ((s243).2.2.1 109 0).toInt = 0 := by rw [hF243.2.2.1 109 0 rfl]; exact g223_3
              have m223 : 2 * (s243.2.1 150 (y209_5).toNatClampNeg).toInt.toNat + (z243).toInt.toNat < k223 := by have hm := mm223; by_cases hz : z243.toInt = 0; (rw [p243e.2 hz]; (first | have a0 := in_u j223_5 | (have a0 := j223_5; unfold In at a0)); (first | have a1 := in_u j209_2 | (have a1 := j209_2; unfold In at a1)); (first | have a2 := in_u j209_1 | (have a2 := j209_1; unfold In at a2)); (first | have a3 := in_u ro_109_20 | (have a3 := ro_109_20; unfold In at a3)); (first | have a4 := in_u ro_109_19 | (have a4 := ro_109_19; unfold In at a4)); (first | have a5 := in_u i237 | (have a5 := i237; unfold In at a5)); (first | have a6 := in_u i243 | (have a6 := i243; unfold In at a6)); (first | have a7 := in_u j209_3 | (have a7 := j209_3; unfold In at a7)); have oc := oc_357_109; omega); (have h := p243e.1 hz; (first | have a0 := in_u j223_5 | (have a0 := j223_5; unfold In at a0)); (first | have a1 := in_u j209_2 | (have a1 := j209_2; unfold In at a1)); (first | have a2 := in_u j209_1 | (have a2 := j209_1; unfold In at a2)); (first | have a3 := in_u ro_109_20 | (have a3 := ro_109_20; unfold In at a3)); (first | have a4 := in_u ro_109_19 | (have a4 := ro_109_19; unfold In at a4)); (first | have a5 := in_u i237 | (have a5 := i237; unfold In at a5)); (first | have a6 := in_u i243 | (have a6 := i243; unfold In at a6)); (first | have a7 := in_u j209_3 | (have a7 := j209_3; unfold In at a7)); have oc := oc_357_109; omega)
              exact gg_w (by first | exact Nat.le_add_right _ _ | exact gw2 | exact gw3 | exact gwe rfl | exact gwf rfl | exact gwg rfl | exact gwh rfl | omega) (gg_f (gf_cons rfl (gf_cons rfl (gf_cons rfl (gf_cons rfl (gf_cons rfl (gf_cons rfl gf_nil)))))) (ih223  s243 z243 hI243 (fr_tr rfl hFc223 hF243) (in_w 0 1 i243 rfl) (in_w 0 31 j223_5 rfl) n223 n223a n223b n223c n223d m223))
      refine g_iload 211 (gd rfl) rfl rfl ?_
      refine g_aload_n 212 (gd rfl) rfl rfl ?_
      refine g_getI 215 (gd rfl) rfl rfl rfl (fun z212 e212 => ?_)
      have q212 : u_109_20 = z212 := (fr_F e_109_20 hFc209 rfl).trans e212.symm
      subst q212
      refine g_cmp_ge 218 257 (gd rfl) rfl rfl (fun c215 => ?_) (fun c215 => ?_)
      · skip
        refine g_lconst 0 258 (gd rfl) rfl rfl ?_
        refine g_lstore 260 (gd rfl) rfl (Nat.le_of_ble_eq_true rfl) ?_
        refine g_iconst 0 261 (gd rfl) rfl rfl ?_
        refine g_istore 263 (gd rfl) rfl (Nat.le_of_ble_eq_true rfl) ?_
        have n263 : ZSU s sc209 ((Int64.ofInt 0)).toInt ((Int32.ofInt 0)).toNatClampNeg := by exact (show ZSU _ _ 0 0 from rfl)
        have n263a : ZFI s sc209 (x1).toNatClampNeg (x2).toNatClampNeg (x3).toInt (y209_4).toInt := by exact zfi_1 g209_2 g209_0 (Or.inr (by rw [← e_109_20]; show _ ≤ (((y209_5).toInt.toNat : Nat) : Int); (first | have a0 := in_u j209_2 | (have a0 := j209_2; unfold In at a0)); (first | have a1 := in_u j209_1 | (have a1 := j209_1; unfold In at a1)); (first | have a2 := in_u ro_109_20 | (have a2 := ro_109_20; unfold In at a2)); (first | have a3 := in_u ro_109_19 | (have a3 := ro_109_19; unfold In at a3)); (first | have a4 := in_u j209_5 | (have a4 := j209_5; unfold In at a4)); (first | have a5 := in_u j209_4 | (have a5 := j209_4; unfold In at a5)); (first | have a6 := in_u ((in_c 0 rfl)) | (have a6 := (in_c 0 rfl); unfold In at a6)); (first | have a7 := in_u j209_3 | (have a7 := j209_3; unfold In at a7)); have oc := oc_357_109; omega))
        have n263b : ((sc209).2.2.1 109 0).toInt = 0 := by exact g209_3
        have n263c : (x1).toInt ≠ (x2).toInt ∧ (x1).toInt < (s.2.2.1 109 20).toInt ∧ (x2).toInt < (s.2.2.1 109 20).toInt := by exact g209_4
        exact gg_w (by first | exact Nat.le_add_right _ _ | exact gw2 | exact gw3 | exact gwe rfl | exact gwf rfl | exact gwg rfl | exact gwh rfl | omega) (gg_f (gf_cons rfl (gf_cons rfl (gf_cons rfl (gf_cons rfl (gf_cons rfl (gf_cons rfl (gf_cons rfl gf_nil))))))) (ct263 161 sc209 y209_4 (Int64.ofInt 0) (Int32.ofInt 0) hIc209 hFc209 (in_w 0 31 j209_1 rfl) (in_w 0 31 j209_2 rfl) (in_w 0 200000000 j209_3 rfl) (in_w 0 1 j209_4 rfl) (in_w 0 160 (in_c 0 rfl) rfl) n263 n263a n263b n263c (m_in 161 (in_w 0 160 (in_c 0 rfl) rfl) rfl)))
      · skip
        have i215 := r_lt1 0 31 c215 j209_5 ro_109_20 rfl
        have i215a := r_lt2 1 32 c215 j209_5 ro_109_20 rfl
        refine g_iload 220 (gd rfl) rfl rfl ?_
        refine g_if_eq 223 257 (gd rfl) rfl rfl (fun c220 => ?_) (fun c220 => ?_)
        · skip
          have i220 := z_eq 0 0 c220 j209_4 rfl
          refine g_lconst 0 258 (gd rfl) rfl rfl ?_
          refine g_lstore 260 (gd rfl) rfl (Nat.le_of_ble_eq_true rfl) ?_
          refine g_iconst 0 261 (gd rfl) rfl rfl ?_
          refine g_istore 263 (gd rfl) rfl (Nat.le_of_ble_eq_true rfl) ?_
          have n263 : ZSU s sc209 ((Int64.ofInt 0)).toInt ((Int32.ofInt 0)).toNatClampNeg := by exact (show ZSU _ _ 0 0 from rfl)
          have n263a : ZFI s sc209 (x1).toNatClampNeg (x2).toNatClampNeg (x3).toInt (y209_4).toInt := by exact zfi_1 g209_2 g209_0 (Or.inl c220)
          have n263b : ((sc209).2.2.1 109 0).toInt = 0 := by exact g209_3
          have n263c : (x1).toInt ≠ (x2).toInt ∧ (x1).toInt < (s.2.2.1 109 20).toInt ∧ (x2).toInt < (s.2.2.1 109 20).toInt := by exact g209_4
          exact gg_w (by first | exact Nat.le_add_right _ _ | exact gw2 | exact gw3 | exact gwe rfl | exact gwf rfl | exact gwg rfl | exact gwh rfl | omega) (gg_f (gf_cons rfl (gf_cons rfl (gf_cons rfl (gf_cons rfl (gf_cons rfl (gf_cons rfl (gf_cons rfl gf_nil))))))) (ct263 161 sc209 y209_4 (Int64.ofInt 0) (Int32.ofInt 0) hIc209 hFc209 (in_w 0 31 j209_1 rfl) (in_w 0 31 j209_2 rfl) (in_w 0 200000000 j209_3 rfl) (in_w 0 1 i220 rfl) (in_w 0 160 (in_c 0 rfl) rfl) n263 n263a n263b n263c (m_in 161 (in_w 0 160 (in_c 0 rfl) rfl) rfl)))
        · skip
          have i220 := z_ne 1 1 c220 j209_4 rfl
          have n223 : (y209_5).toInt < (u_109_20).toInt := by (first | have a0 := in_u j209_2 | (have a0 := j209_2; unfold In at a0)); (first | have a1 := in_u j209_1 | (have a1 := j209_1; unfold In at a1)); (first | have a2 := in_u i215a | (have a2 := i215a; unfold In at a2)); (first | have a3 := in_u ro_109_19 | (have a3 := ro_109_19; unfold In at a3)); (first | have a4 := in_u i215 | (have a4 := i215; unfold In at a4)); (first | have a5 := in_u i220 | (have a5 := i220; unfold In at a5)); (first | have a6 := in_u j209_3 | (have a6 := j209_3; unfold In at a6)); have oc := oc_357_109; omega
          have n223a : CO sc209 := by first | exact p243c | exact g209_0
          have n223b : SU sc209 := by first | exact p243d | exact g209_1
          have n223c : ZLP s sc209 (x1).toNatClampNeg (x2).toNatClampNeg (x3).toInt (y209_5).toNatClampNeg (y209_4).toInt := by exact g209_2
          have n223d : ((sc209).2.2.1 109 0).toInt = 0 := by exact g209_3
          have m223 : 2 * (sc209.2.1 150 (y209_5).toNatClampNeg).toInt.toNat + (y209_4).toInt.toNat < 1200000003 := by have hv := nat_in (n := (sc209.2.2.1 109 20).toInt) i215 (by rw [hFc209.2.2.1 109 20 rfl, ← e_109_20]; (first | have a0 := in_u j209_2 | (have a0 := j209_2; unfold In at a0)); (first | have a1 := in_u j209_1 | (have a1 := j209_1; unfold In at a1)); (first | have a2 := in_u i215a | (have a2 := i215a; unfold In at a2)); (first | have a3 := in_u ro_109_19 | (have a3 := ro_109_19; unfold In at a3)); (first | have a4 := in_u i215 | (have a4 := i215; unfold In at a4)); (first | have a5 := in_u i220 | (have a5 := i220; unfold In at a5)); (first | have a6 := in_u j209_3 | (have a6 := j209_3; unfold In at a6)); have oc := oc_357_109; omega); have h := n223b _ hv.1 hv.2; (first | have a0 := in_u j209_2 | (have a0 := j209_2; unfold In at a0)); (first | have a1 := in_u j209_1 | (have a1 := j209_1; unfold In at a1)); (first | have a2 := in_u i215a | (have a2 := i215a; unfold In at a2)); (first | have a3 := in_u ro_109_19 | (have a3 := ro_109_19; unfold In at a3)); (first | have a4 := in_u i215 | (have a4 := i215; unfold In at a4)); (first | have a5 := in_u i220 | (have a5 := i220; unfold In at a5)); (first | have a6 := in_u j209_3 | (have a6 := j209_3; unfold In at a6)); have oc := oc_357_109; omega
          exact gg_w (by first | exact Nat.le_add_right _ _ | exact gw2 | exact gw3 | exact gwe rfl | exact gwf rfl | exact gwg rfl | exact gwh rfl | omega) (gg_f (gf_cons rfl (gf_cons rfl (gf_cons rfl (gf_cons rfl (gf_cons rfl (gf_cons rfl gf_nil)))))) (ct223 (1200000003) sc209 y209_4 hIc209 hFc209 (in_w 0 1 i220 rfl) (in_w 0 31 i215 rfl) n223 n223a n223b n223c n223d m223))
  have ct87 : ∀ (k87 : Nat) (sc87 : GS) (y87_4 : Int32), Inv sc87 → Fr fm_357 s sc87 → (In x1 0 31) → (In x2 0 31) → (In x3 0 200000000) → (In y87_4 0 160) → (IFQ s (sc87.2.1 147) (y87_4).toNatClampNeg) → (SB (200000000 + 2000000 * (y87_4).toInt) s (sc87.2.1 150)) → (ZBP s sc87 (x1).toNatClampNeg (x2).toNatClampNeg (x3).toInt (y87_4).toNatClampNeg) → (((sc87).2.2.1 109 0).toInt = 0) → ((x1).toInt ≠ (x2).toInt ∧ (x1).toInt < (s.2.2.1 109 20).toInt ∧ (x2).toInt < (s.2.2.1 109 20).toInt) → 160 - (y87_4).toInt < (k87 : Int) → GG Z (d - 1) 357 post (gx xp) (35640000323136 + k87 * 900) 87 (fun j => xlook j [(0, .ref (A 109)), (1, .int x1), (2, .int x2), (3, .int x3), (4, .int y87_4)]) [] (WW Z A sc87 ++ ex) 0 0 := by
    intro k87
    induction k87 with
    | zero => intro sc87 y87_4 hIc87 hFc87 j87_1 j87_2 j87_3 j87_4 g87_0 g87_1 g87_2 g87_3 g87_4 mm87; exact m_no mm87 j87_4 rfl
    | succ k87 ih87 =>
      intro sc87 y87_4 hIc87 hFc87 j87_1 j87_2 j87_3 j87_4 g87_0 g87_1 g87_2 g87_3 g87_4 mm87
      refine gg_w (M := 35640000323136 + k87 * 900 + 900) gws ?_
      refine g_iload 89 (gd rfl) rfl rfl ?_
      refine g_sipush 160 92 (gd rfl) rfl rfl ?_
      refine g_cmp_ge 95 203 (gd rfl) rfl rfl (fun c92 => ?_) (fun c92 => ?_)
      · skip
        have i92 := r_le2 160 160 c92 (in_c 160 rfl) j87_4 rfl
        refine g_iconst 1 204 (gd rfl) rfl rfl ?_
        refine g_istore 206 (gd rfl) rfl (Nat.le_of_ble_eq_true rfl) ?_
        refine g_iconst 0 207 (gd rfl) rfl rfl ?_
        refine g_istore 209 (gd rfl) rfl (Nat.le_of_ble_eq_true rfl) ?_
        have n209 : CO sc87 := by first | exact g223_0 | exact g209_0 | exact co_0 hI ⟨hFc87.1 112 rfl, hFc87.1 113 rfl, hFc87.1 114 rfl, hFc87.1 115 rfl, hFc87.1 116 rfl, hFc87.2.2.1 109 19 rfl⟩ (by have h := g87_0; rw [show y87_4.toNatClampNeg = 160 from (by show y87_4.toInt.toNat = 160; (first | have a0 := in_u j87_2 | (have a0 := j87_2; unfold In at a0)); (first | have a1 := in_u j87_1 | (have a1 := j87_1; unfold In at a1)); (first | have a2 := in_u ro_109_20 | (have a2 := ro_109_20; unfold In at a2)); (first | have a3 := in_u ro_109_19 | (have a3 := ro_109_19; unfold In at a3)); (first | have a4 := in_u i92 | (have a4 := i92; unfold In at a4)); (first | have a5 := in_u ((in_c 0 rfl)) | (have a5 := (in_c 0 rfl); unfold In at a5)); (first | have a6 := in_u ((in_c 1 rfl)) | (have a6 := (in_c 1 rfl); unfold In at a6)); (first | have a7 := in_u j87_3 | (have a7 := j87_3; unfold In at a7)); have oc := oc_357_109; omega)] at h; exact h)
        have n209a : SU sc87 := by first | exact g223_1 | exact g209_1 | exact fun v hv hn => sb_w g87_1 (by (first | have a0 := in_u j87_2 | (have a0 := j87_2; unfold In at a0)); (first | have a1 := in_u j87_1 | (have a1 := j87_1; unfold In at a1)); (first | have a2 := in_u ro_109_20 | (have a2 := ro_109_20; unfold In at a2)); (first | have a3 := in_u ro_109_19 | (have a3 := ro_109_19; unfold In at a3)); (first | have a4 := in_u i92 | (have a4 := i92; unfold In at a4)); (first | have a5 := in_u ((in_c 0 rfl)) | (have a5 := (in_c 0 rfl); unfold In at a5)); (first | have a6 := in_u ((in_c 1 rfl)) | (have a6 := (in_c 1 rfl); unfold In at a6)); (first | have a7 := in_u j87_3 | (have a7 := j87_3; unfold In at a7)); have oc := oc_357_109; omega) v hv (by rw [← hFc87.2.2.1 109 20 rfl]; exact hn)
        have n209b : ZLP s sc87 (x1).toNatClampNeg (x2).toNatClampNeg (x3).toInt ((Int32.ofInt 0)).toNatClampNeg ((Int32.ofInt 1)).toInt := by have h9 := g87_2; rw [show (y87_4).toNatClampNeg = 160 from (by show (y87_4).toInt.toNat = 160; (first | have a0 := in_u j87_2 | (have a0 := j87_2; unfold In at a0)); (first | have a1 := in_u j87_1 | (have a1 := j87_1; unfold In at a1)); (first | have a2 := in_u ro_109_20 | (have a2 := ro_109_20; unfold In at a2)); (first | have a3 := in_u ro_109_19 | (have a3 := ro_109_19; unfold In at a3)); (first | have a4 := in_u i92 | (have a4 := i92; unfold In at a4)); (first | have a5 := in_u ((in_c 0 rfl)) | (have a5 := (in_c 0 rfl); unfold In at a5)); (first | have a6 := in_u ((in_c 1 rfl)) | (have a6 := (in_c 1 rfl); unfold In at a6)); (first | have a7 := in_u j87_3 | (have a7 := j87_3; unfold In at a7)); have oc := oc_357_109; omega)] at h9; exact (show ZLP _ _ _ _ _ 0 1 from zlp_0 h9)
        have n209c : ((sc87).2.2.1 109 0).toInt = 0 := by exact g87_3
        have n209d : (x1).toInt ≠ (x2).toInt ∧ (x1).toInt < (s.2.2.1 109 20).toInt ∧ (x2).toInt < (s.2.2.1 109 20).toInt := by exact g87_4
        exact gg_w (by first | exact Nat.le_add_right _ _ | exact gw2 | exact gw3 | exact gwe rfl | exact gwf rfl | exact gwg rfl | exact gwh rfl | omega) (gg_f (gf_cons rfl (gf_cons rfl (gf_cons rfl (gf_cons rfl (gf_cons rfl (gf_cons rfl gf_nil)))))) (ct209 33 sc87 (Int32.ofInt 1) (Int32.ofInt 0) hIc87 hFc87 (in_w 0 31 j87_1 rfl) (in_w 0 31 j87_2 rfl) (in_w 0 200000000 j87_3 rfl) (in_w 0 1 (in_c 1 rfl) rfl) (in_w 0 32 (in_c 0 rfl) rfl) n209 n209a n209b n209c n209d (m_in 33 (in_w 0 32 (in_c 0 rfl) rfl) rfl)))
      · skip
        have i92 := r_lt1 0 159 c92 j87_4 (in_c 160 rfl) rfl
        refine g_aload_n 96 (gd rfl) rfl rfl ?_
        refine g_getI 99 (gd rfl) rfl rfl rfl (fun z96 e96 => ?_)
        have q96 : u_109_19 = z96 := (fr_F e_109_19 hFc87 rfl).trans e96.symm
        subst q96
        refine g_iload 101 (gd rfl) rfl rfl ?_
        refine g_iadd 102 (gd rfl) rfl (fun z101 e101 => ?_)
        have i101 := in_add 0 319 e101 ro_109_19 i92 rfl rfl
        refine g_istore 104 (gd rfl) rfl (Nat.le_of_ble_eq_true rfl) ?_
        refine g_aload_n 105 (gd rfl) rfl rfl ?_
        refine g_getA (q2 := 147) 108 (gd rfl) rfl rfl rfl rfl ?_
        refine g_iload 110 (gd rfl) rfl rfl ?_
        refine g_aload_n 111 (gd rfl) rfl rfl ?_
        refine g_getA (q2 := 112) 114 (gd rfl) rfl rfl rfl rfl ?_
        refine g_iload 116 (gd rfl) rfl rfl ?_
        refine g_baload 117 (gd rfl) rfl (n := 480) rfl (in_ix i101 rfl) (fun z116 e116 => ?_)
        have i116 := inv_I hIc87 (n := 480) (t := 3) 0 1 rfl (in_ix i101 rfl) rfl e116
        refine g_if_eq 120 141 (gd rfl) rfl rfl (fun c117 => ?_) (fun c117 => ?_)
        · skip
          have i117 := z_eq 0 0 c117 i116 rfl
          refine g_lconst 0 142 (gd rfl) rfl rfl ?_
          refine g_lastore 143 (gd rfl) rfl (n := 160) rfl (in_ix i92 rfl) ?_
          have hI142 := inv_sL (q := 147) (j := y87_4.toNatClampNeg) (x := (Int64.ofInt 0)) hIc87 rfl (l_rng (Int64.ofInt 0))
          refine g_aload_n 144 (gd rfl) rfl rfl ?_
          refine g_getA (q2 := 112) 147 (gd rfl) rfl rfl rfl rfl ?_
          refine g_iload 149 (gd rfl) rfl rfl ?_
          refine g_baload 150 (gd rfl) rfl (n := 480) rfl (in_ix i101 rfl) (fun z149 e149 => ?_)
          have q149 : z116 = z149 := (sL_I (e116)).trans e149.symm
          subst q149
          refine g_if_eq 153 197 (gd rfl) rfl rfl (fun c150 => ?_) (fun c150 => ?_)
          · skip
            refine g_iinc 200 (gd rfl) rfl rfl (Nat.le_of_ble_eq_true rfl) (fun z197 e197 => ?_)
            have i197 := in_add 1 160 e197 i92 (in_c 1 rfl) rfl rfl
            refine g_goto 87 (gd rfl) rfl ?_
            have n87 : IFQ s ((sL sc87 147 y87_4.toNatClampNeg (Int64.ofInt 0)).2.1 147) (z197).toNatClampNeg := by (rw [show ((sL sc87 147 y87_4.toNatClampNeg (Int64.ofInt 0))).2.1 147 = vp_updL (sc87.2.1 147) y87_4.toNatClampNeg (Int64.ofInt 0) from (by simp [sL]), show z197.toNatClampNeg = y87_4.toNatClampNeg + 1 from (by show z197.toInt.toNat = y87_4.toInt.toNat + 1; (first | have a0 := in_u j87_2 | (have a0 := j87_2; unfold In at a0)); (first | have a1 := in_u j87_1 | (have a1 := j87_1; unfold In at a1)); (first | have a2 := in_u ro_109_20 | (have a2 := ro_109_20; unfold In at a2)); (first | have a3 := in_u ro_109_19 | (have a3 := ro_109_19; unfold In at a3)); (first | have a4 := in_u i92 | (have a4 := i92; unfold In at a4)); (first | have a5 := in_u i101 | (have a5 := i101; unfold In at a5)); have a6 := t_add e101 ro_109_19 i92 rfl; (first | have a7 := in_u i197 | (have a7 := i197; unfold In at a7)); have a8 := t_add e197 i92 (in_c 1 rfl) rfl; (first | have a9 := in_u ((in_c 1 rfl)) | (have a9 := (in_c 1 rfl); unfold In at a9)); (first | have a10 := in_u j87_3 | (have a10 := j87_3; unfold In at a10)); have oc := oc_357_109; omega)]; exact ifq_s g87_0 (fun ht => absurd (by rw [(bs_x (x := z101) (a := y87_4) e_109_19 (by (first | have a0 := in_u j87_2 | (have a0 := j87_2; unfold In at a0)); (first | have a1 := in_u j87_1 | (have a1 := j87_1; unfold In at a1)); (first | have a2 := in_u ro_109_20 | (have a2 := ro_109_20; unfold In at a2)); (first | have a3 := in_u ro_109_19 | (have a3 := ro_109_19; unfold In at a3)); (first | have a4 := in_u i92 | (have a4 := i92; unfold In at a4)); (first | have a5 := in_u i101 | (have a5 := i101; unfold In at a5)); have a6 := t_add e101 ro_109_19 i92 rfl; (first | have a7 := in_u i197 | (have a7 := i197; unfold In at a7)); have a8 := t_add e197 i92 (in_c 1 rfl) rfl; (first | have a9 := in_u ((in_c 1 rfl)) | (have a9 := (in_c 1 rfl); unfold In at a9)); (first | have a10 := in_u j87_3 | (have a10 := j87_3; unfold In at a10)); have oc := oc_357_109; omega) (by (first | have a0 := in_u j87_2 | (have a0 := j87_2; unfold In at a0)); (first | have a1 := in_u j87_1 | (have a1 := j87_1; unfold In at a1)); (first | have a2 := in_u ro_109_20 | (have a2 := ro_109_20; unfold In at a2)); (first | have a3 := in_u ro_109_19 | (have a3 := ro_109_19; unfold In at a3)); (first | have a4 := in_u i92 | (have a4 := i92; unfold In at a4)); (first | have a5 := in_u i101 | (have a5 := i101; unfold In at a5)); have a6 := t_add e101 ro_109_19 i92 rfl; (first | have a7 := in_u i197 | (have a7 := i197; unfold In at a7)); have a8 := t_add e197 i92 (in_c 1 rfl) rfl; (first | have a9 := in_u ((in_c 1 rfl)) | (have a9 := (in_c 1 rfl); unfold In at a9)); (first | have a10 := in_u j87_3 | (have a10 := j87_3; unfold In at a10)); have oc := oc_357_109; omega) (by (first | have a0 := in_u j87_2 | (have a0 := j87_2; unfold In at a0)); (first | have a1 := in_u j87_1 | (have a1 := j87_1; unfold In at a1)); (first | have a2 := in_u ro_109_20 | (have a2 := ro_109_20; unfold In at a2)); (first | have a3 := in_u ro_109_19 | (have a3 := ro_109_19; unfold In at a3)); (first | have a4 := in_u i92 | (have a4 := i92; unfold In at a4)); (first | have a5 := in_u i101 | (have a5 := i101; unfold In at a5)); have a6 := t_add e101 ro_109_19 i92 rfl; (first | have a7 := in_u i197 | (have a7 := i197; unfold In at a7)); have a8 := t_add e197 i92 (in_c 1 rfl) rfl; (first | have a9 := in_u ((in_c 1 rfl)) | (have a9 := (in_c 1 rfl); unfold In at a9)); (first | have a10 := in_u j87_3 | (have a10 := j87_3; unfold In at a10)); have oc := oc_357_109; omega)), ← hFc87.1 112 rfl, ← e116]; exact c117) ht))
            have n87a : SB (200000000 + 2000000 * (z197).toInt) s ((sL sc87 147 y87_4.toNatClampNeg (Int64.ofInt 0)).2.1 150) := by (rw [show ((sL sc87 147 y87_4.toNatClampNeg (Int64.ofInt 0))).2.1 150 = sc87.2.1 150 from (by simp [sL])]; exact sb_w g87_1 (by (first | have a0 := in_u j87_2 | (have a0 := j87_2; unfold In at a0)); (first | have a1 := in_u j87_1 | (have a1 := j87_1; unfold In at a1)); (first | have a2 := in_u ro_109_20 | (have a2 := ro_109_20; unfold In at a2)); (first | have a3 := in_u ro_109_19 | (have a3 := ro_109_19; unfold In at a3)); (first | have a4 := in_u i92 | (have a4 := i92; unfold In at a4)); (first | have a5 := in_u i101 | (have a5 := i101; unfold In at a5)); have a6 := t_add e101 ro_109_19 i92 rfl; (first | have a7 := in_u i197 | (have a7 := i197; unfold In at a7)); have a8 := t_add e197 i92 (in_c 1 rfl) rfl; (first | have a9 := in_u ((in_c 1 rfl)) | (have a9 := (in_c 1 rfl); unfold In at a9)); (first | have a10 := in_u j87_3 | (have a10 := j87_3; unfold In at a10)); have oc := oc_357_109; omega))
            have n87b : ZBP s (sL sc87 147 y87_4.toNatClampNeg (Int64.ofInt 0)) (x1).toNatClampNeg (x2).toNatClampNeg (x3).toInt (z197).toNatClampNeg := by rw [show z197.toNatClampNeg = y87_4.toNatClampNeg + 1 from (by show z197.toInt.toNat = y87_4.toInt.toNat + 1; (first | have a0 := in_u j87_2 | (have a0 := j87_2; unfold In at a0)); (first | have a1 := in_u j87_1 | (have a1 := j87_1; unfold In at a1)); (first | have a2 := in_u ro_109_20 | (have a2 := ro_109_20; unfold In at a2)); (first | have a3 := in_u ro_109_19 | (have a3 := ro_109_19; unfold In at a3)); (first | have a4 := in_u i92 | (have a4 := i92; unfold In at a4)); (first | have a5 := in_u i101 | (have a5 := i101; unfold In at a5)); have a6 := t_add e101 ro_109_19 i92 rfl; (first | have a7 := in_u i197 | (have a7 := i197; unfold In at a7)); have a8 := t_add e197 i92 (in_c 1 rfl) rfl; (first | have a9 := in_u ((in_c 1 rfl)) | (have a9 := (in_c 1 rfl); unfold In at a9)); (first | have a10 := in_u j87_3 | (have a10 := j87_3; unfold In at a10)); have oc := oc_357_109; omega)]; exact zbp_n (w := Int64.ofInt 0) g87_2 (by rw [(bs_x (x := z101) (a := y87_4) e_109_19 (by (first | have a0 := in_u j87_2 | (have a0 := j87_2; unfold In at a0)); (first | have a1 := in_u j87_1 | (have a1 := j87_1; unfold In at a1)); (first | have a2 := in_u ro_109_20 | (have a2 := ro_109_20; unfold In at a2)); (first | have a3 := in_u ro_109_19 | (have a3 := ro_109_19; unfold In at a3)); (first | have a4 := in_u i92 | (have a4 := i92; unfold In at a4)); (first | have a5 := in_u i101 | (have a5 := i101; unfold In at a5)); have a6 := t_add e101 ro_109_19 i92 rfl; (first | have a7 := in_u i197 | (have a7 := i197; unfold In at a7)); have a8 := t_add e197 i92 (in_c 1 rfl) rfl; (first | have a9 := in_u ((in_c 1 rfl)) | (have a9 := (in_c 1 rfl); unfold In at a9)); (first | have a10 := in_u j87_3 | (have a10 := j87_3; unfold In at a10)); have oc := oc_357_109; omega) (by (first | have a0 := in_u j87_2 | (have a0 := j87_2; unfold In at a0)); (first | have a1 := in_u j87_1 | (have a1 := j87_1; unfold In at a1)); (first | have a2 := in_u ro_109_20 | (have a2 := ro_109_20; unfold In at a2)); (first | have a3 := in_u ro_109_19 | (have a3 := ro_109_19; unfold In at a3)); (first | have a4 := in_u i92 | (have a4 := i92; unfold In at a4)); (first | have a5 := in_u i101 | (have a5 := i101; unfold In at a5)); have a6 := t_add e101 ro_109_19 i92 rfl; (first | have a7 := in_u i197 | (have a7 := i197; unfold In at a7)); have a8 := t_add e197 i92 (in_c 1 rfl) rfl; (first | have a9 := in_u ((in_c 1 rfl)) | (have a9 := (in_c 1 rfl); unfold In at a9)); (first | have a10 := in_u j87_3 | (have a10 := j87_3; unfold In at a10)); have oc := oc_357_109; omega) (by (first | have a0 := in_u j87_2 | (have a0 := j87_2; unfold In at a0)); (first | have a1 := in_u j87_1 | (have a1 := j87_1; unfold In at a1)); (first | have a2 := in_u ro_109_20 | (have a2 := ro_109_20; unfold In at a2)); (first | have a3 := in_u ro_109_19 | (have a3 := ro_109_19; unfold In at a3)); (first | have a4 := in_u i92 | (have a4 := i92; unfold In at a4)); (first | have a5 := in_u i101 | (have a5 := i101; unfold In at a5)); have a6 := t_add e101 ro_109_19 i92 rfl; (first | have a7 := in_u i197 | (have a7 := i197; unfold In at a7)); have a8 := t_add e197 i92 (in_c 1 rfl) rfl; (first | have a9 := in_u ((in_c 1 rfl)) | (have a9 := (in_c 1 rfl); unfold In at a9)); (first | have a10 := in_u j87_3 | (have a10 := j87_3; unfold In at a10)); have oc := oc_357_109; omega)), ← hFc87.1 112 rfl, ← e116]; exact c117) (by simp [sL]) (by simp [sL])
            have n87c : (((sL sc87 147 y87_4.toNatClampNeg (Int64.ofInt 0))).2.2.1 109 0).toInt = 0 := by exact g87_3
            have n87d : (x1).toInt ≠ (x2).toInt ∧ (x1).toInt < (s.2.2.1 109 20).toInt ∧ (x2).toInt < (s.2.2.1 109 20).toInt := by exact g87_4
            exact gg_w (by first | exact Nat.le_add_right _ _ | exact gw2 | exact gw3 | exact gwe rfl | exact gwf rfl | exact gwg rfl | exact gwh rfl | omega) (gg_f (gf_cons rfl (gf_cons rfl (gf_cons rfl (gf_cons rfl (gf_cons rfl gf_nil))))) (ih87 (sL sc87 147 y87_4.toNatClampNeg (Int64.ofInt 0)) z197 hI142 (fr_sL rfl hFc87) (in_w 0 31 j87_1 rfl) (in_w 0 31 j87_2 rfl) (in_w 0 200000000 j87_3 rfl) (in_w 0 160 i197 rfl) n87 n87a n87b n87c n87d (m_up mm87 (t_add e197 i92 (in_c 1 rfl) rfl) (in_w 1 1 (in_c 1 rfl) rfl))))
          · skip
            exact zn_ne c150 i117 rfl
        · skip
          have i117 := z_ne 1 1 c117 i116 rfl
          refine g_aload_n 121 (gd rfl) rfl rfl ?_
          refine g_getA (q2 := 115) 124 (gd rfl) rfl rfl rfl rfl ?_
          refine g_iload 126 (gd rfl) rfl rfl ?_
          refine g_iaload 127 (gd rfl) rfl (n := 480) rfl (in_ix i101 rfl) (fun z126 e126 => ?_)
          have i126 := inv_I hIc87 (n := 480) (t := 0) (-1000000) 1000000 rfl (in_ix i101 rfl) rfl e126
          refine g_if_ge 130 141 (gd rfl) rfl rfl (fun c127 => ?_) (fun c127 => ?_)
          · skip
            have i127 := z_ge 0 1000000 c127 i126 rfl
            refine g_lconst 0 142 (gd rfl) rfl rfl ?_
            refine g_lastore 143 (gd rfl) rfl (n := 160) rfl (in_ix i92 rfl) ?_
            have hI142 := inv_sL (q := 147) (j := y87_4.toNatClampNeg) (x := (Int64.ofInt 0)) hIc87 rfl (l_rng (Int64.ofInt 0))
            refine g_aload_n 144 (gd rfl) rfl rfl ?_
            refine g_getA (q2 := 112) 147 (gd rfl) rfl rfl rfl rfl ?_
            refine g_iload 149 (gd rfl) rfl rfl ?_
            refine g_baload 150 (gd rfl) rfl (n := 480) rfl (in_ix i101 rfl) (fun z149 e149 => ?_)
            have q149 : z116 = z149 := (sL_I (e116)).trans e149.symm
            subst q149
            refine g_if_eq 153 197 (gd rfl) rfl rfl (fun c150 => ?_) (fun c150 => ?_)
            · skip
              exact zn_eq c150 i117 rfl
            · skip
              refine g_aload_n 154 (gd rfl) rfl rfl ?_
              refine g_getA (q2 := 150) 157 (gd rfl) rfl rfl rfl rfl ?_
              refine g_aload_n 158 (gd rfl) rfl rfl ?_
              refine g_getA (q2 := 113) 161 (gd rfl) rfl rfl rfl rfl ?_
              refine g_iload 163 (gd rfl) rfl rfl ?_
              refine g_iaload 164 (gd rfl) rfl (n := 480) rfl (in_ix i101 rfl) (fun z163 e163 => ?_)
              have i163 := inv_I hI142 (n := 480) (t := 0) 0 31 rfl (in_ix i101 rfl) rfl e163
              refine g_dup2 165 (gd rfl) rfl rfl rfl ?_
              refine g_laload 166 (gd rfl) rfl (n := 32) rfl (in_ix i163 rfl) (fun z165 e165 => ?_)
              refine g_aload_n 167 (gd rfl) rfl rfl ?_
              refine g_getA (q2 := 147) 170 (gd rfl) rfl rfl rfl rfl ?_
              refine g_iload 172 (gd rfl) rfl rfl ?_
              refine g_laload 173 (gd rfl) rfl (n := 160) rfl (in_ix i92 rfl) (fun z172 e172 => ?_)
              refine g_lsub 174 (gd rfl) rfl (fun z173 e173 => ?_)
              refine g_lastore 175 (gd rfl) rfl (n := 32) rfl (in_ix i163 rfl) ?_
              have hI174 := inv_sL (q := 150) (j := z163.toNatClampNeg) (x := z173) hI142 rfl (l_rng z173)
              refine g_aload_n 176 (gd rfl) rfl rfl ?_
              refine g_getA (q2 := 150) 179 (gd rfl) rfl rfl rfl rfl ?_
              refine g_aload_n 180 (gd rfl) rfl rfl ?_
              refine g_getA (q2 := 114) 183 (gd rfl) rfl rfl rfl rfl ?_
              refine g_iload 185 (gd rfl) rfl rfl ?_
              refine g_iaload 186 (gd rfl) rfl (n := 480) rfl (in_ix i101 rfl) (fun z185 e185 => ?_)
              have i185 := inv_I hI174 (n := 480) (t := 0) 0 31 rfl (in_ix i101 rfl) rfl e185
              refine g_dup2 187 (gd rfl) rfl rfl rfl ?_
              refine g_laload 188 (gd rfl) rfl (n := 32) rfl (in_ix i185 rfl) (fun z187 e187 => ?_)
              refine g_aload_n 189 (gd rfl) rfl rfl ?_
              refine g_getA (q2 := 147) 192 (gd rfl) rfl rfl rfl rfl ?_
              refine g_iload 194 (gd rfl) rfl rfl ?_
              refine g_laload 195 (gd rfl) rfl (n := 160) rfl (in_ix i92 rfl) (fun z194 e194 => ?_)
              refine g_ladd 196 (gd rfl) rfl (fun z195 e195 => ?_)
              refine g_lastore 197 (gd rfl) rfl (n := 32) rfl (in_ix i185 rfl) ?_
              have hI196 := inv_sL (q := 150) (j := z185.toNatClampNeg) (x := z195) hI174 rfl (l_rng z195)
              refine g_iinc 200 (gd rfl) rfl rfl (Nat.le_of_ble_eq_true rfl) (fun z197 e197 => ?_)
              have i197 := in_add 1 160 e197 i92 (in_c 1 rfl) rfl rfl
              refine g_goto 87 (gd rfl) rfl ?_
              have n87 : IFQ s ((sL (sL (sL sc87 147 y87_4.toNatClampNeg (Int64.ofInt 0)) 150 z163.toNatClampNeg z173) 150 z185.toNatClampNeg z195).2.1 147) (z197).toNatClampNeg := by (rw [show ((sL (sL (sL sc87 147 y87_4.toNatClampNeg (Int64.ofInt 0)) 150 z163.toNatClampNeg z173) 150 z185.toNatClampNeg z195)).2.1 147 = vp_updL (sc87.2.1 147) y87_4.toNatClampNeg (Int64.ofInt 0) from (by simp [sL]), show z197.toNatClampNeg = y87_4.toNatClampNeg + 1 from (by show z197.toInt.toNat = y87_4.toInt.toNat + 1; (first | have a0 := in_u j87_2 | (have a0 := j87_2; unfold In at a0)); (first | have a1 := in_u j87_1 | (have a1 := j87_1; unfold In at a1)); (first | have a2 := in_u ro_109_20 | (have a2 := ro_109_20; unfold In at a2)); (first | have a3 := in_u ro_109_19 | (have a3 := ro_109_19; unfold In at a3)); (first | have a4 := in_u i92 | (have a4 := i92; unfold In at a4)); (first | have a5 := in_u i101 | (have a5 := i101; unfold In at a5)); have a6 := t_add e101 ro_109_19 i92 rfl; (first | have a7 := in_u i197 | (have a7 := i197; unfold In at a7)); have a8 := t_add e197 i92 (in_c 1 rfl) rfl; (first | have a9 := in_u ((in_c 1 rfl)) | (have a9 := (in_c 1 rfl); unfold In at a9)); (first | have a10 := in_u j87_3 | (have a10 := j87_3; unfold In at a10)); have oc := oc_357_109; omega)]; exact ifq_s g87_0 (fun _ => by rw [(bs_x (x := z101) (a := y87_4) e_109_19 (by (first | have a0 := in_u j87_2 | (have a0 := j87_2; unfold In at a0)); (first | have a1 := in_u j87_1 | (have a1 := j87_1; unfold In at a1)); (first | have a2 := in_u ro_109_20 | (have a2 := ro_109_20; unfold In at a2)); (first | have a3 := in_u ro_109_19 | (have a3 := ro_109_19; unfold In at a3)); (first | have a4 := in_u i92 | (have a4 := i92; unfold In at a4)); (first | have a5 := in_u i101 | (have a5 := i101; unfold In at a5)); have a6 := t_add e101 ro_109_19 i92 rfl; (first | have a7 := in_u i197 | (have a7 := i197; unfold In at a7)); have a8 := t_add e197 i92 (in_c 1 rfl) rfl; (first | have a9 := in_u ((in_c 1 rfl)) | (have a9 := (in_c 1 rfl); unfold In at a9)); (first | have a10 := in_u j87_3 | (have a10 := j87_3; unfold In at a10)); have oc := oc_357_109; omega) (by (first | have a0 := in_u j87_2 | (have a0 := j87_2; unfold In at a0)); (first | have a1 := in_u j87_1 | (have a1 := j87_1; unfold In at a1)); (first | have a2 := in_u ro_109_20 | (have a2 := ro_109_20; unfold In at a2)); (first | have a3 := in_u ro_109_19 | (have a3 := ro_109_19; unfold In at a3)); (first | have a4 := in_u i92 | (have a4 := i92; unfold In at a4)); (first | have a5 := in_u i101 | (have a5 := i101; unfold In at a5)); have a6 := t_add e101 ro_109_19 i92 rfl; (first | have a7 := in_u i197 | (have a7 := i197; unfold In at a7)); have a8 := t_add e197 i92 (in_c 1 rfl) rfl; (first | have a9 := in_u ((in_c 1 rfl)) | (have a9 := (in_c 1 rfl); unfold In at a9)); (first | have a10 := in_u j87_3 | (have a10 := j87_3; unfold In at a10)); have oc := oc_357_109; omega) (by (first | have a0 := in_u j87_2 | (have a0 := j87_2; unfold In at a0)); (first | have a1 := in_u j87_1 | (have a1 := j87_1; unfold In at a1)); (first | have a2 := in_u ro_109_20 | (have a2 := ro_109_20; unfold In at a2)); (first | have a3 := in_u ro_109_19 | (have a3 := ro_109_19; unfold In at a3)); (first | have a4 := in_u i92 | (have a4 := i92; unfold In at a4)); (first | have a5 := in_u i101 | (have a5 := i101; unfold In at a5)); have a6 := t_add e101 ro_109_19 i92 rfl; (first | have a7 := in_u i197 | (have a7 := i197; unfold In at a7)); have a8 := t_add e197 i92 (in_c 1 rfl) rfl; (first | have a9 := in_u ((in_c 1 rfl)) | (have a9 := (in_c 1 rfl); unfold In at a9)); (first | have a10 := in_u j87_3 | (have a10 := j87_3; unfold In at a10)); have oc := oc_357_109; omega)), if_neg (by rw [← hFc87.1 115 rfl, ← e126]; have h := c127; omega)]; rfl))
              have n87a : SB (200000000 + 2000000 * (z197).toInt) s ((sL (sL (sL sc87 147 y87_4.toNatClampNeg (Int64.ofInt 0)) 150 z163.toNatClampNeg z173) 150 z185.toNatClampNeg z195).2.1 150) := by (rw [show ((sL (sL (sL sc87 147 y87_4.toNatClampNeg (Int64.ofInt 0)) 150 z163.toNatClampNeg z173) 150 z185.toNatClampNeg z195)).2.1 150 = vp_updL (vp_updL (sc87.2.1 150) z163.toNatClampNeg z173) z185.toNatClampNeg z195 from (by simp [sL]), show ((200000000 + 2000000 * (z197).toInt : Int)) = 200000000 + 2000000 * (y87_4).toInt + 2000000 from (by (first | have a0 := in_u j87_2 | (have a0 := j87_2; unfold In at a0)); (first | have a1 := in_u j87_1 | (have a1 := j87_1; unfold In at a1)); (first | have a2 := in_u ro_109_20 | (have a2 := ro_109_20; unfold In at a2)); (first | have a3 := in_u ro_109_19 | (have a3 := ro_109_19; unfold In at a3)); (first | have a4 := in_u i92 | (have a4 := i92; unfold In at a4)); (first | have a5 := in_u i101 | (have a5 := i101; unfold In at a5)); have a6 := t_add e101 ro_109_19 i92 rfl; (first | have a7 := in_u i197 | (have a7 := i197; unfold In at a7)); have a8 := t_add e197 i92 (in_c 1 rfl) rfl; (first | have a9 := in_u ((in_c 1 rfl)) | (have a9 := (in_c 1 rfl); unfold In at a9)); (first | have a10 := in_u j87_3 | (have a10 := j87_3; unfold In at a10)); have oc := oc_357_109; omega)]; exact sb_2 (w := (Int64.ofInt 0)) g87_1 (by (first | have a0 := in_u j87_2 | (have a0 := j87_2; unfold In at a0)); (first | have a1 := in_u j87_1 | (have a1 := j87_1; unfold In at a1)); (first | have a2 := in_u ro_109_20 | (have a2 := ro_109_20; unfold In at a2)); (first | have a3 := in_u ro_109_19 | (have a3 := ro_109_19; unfold In at a3)); (first | have a4 := in_u i92 | (have a4 := i92; unfold In at a4)); (first | have a5 := in_u i101 | (have a5 := i101; unfold In at a5)); have a6 := t_add e101 ro_109_19 i92 rfl; (first | have a7 := in_u i197 | (have a7 := i197; unfold In at a7)); have a8 := t_add e197 i92 (in_c 1 rfl) rfl; (first | have a9 := in_u ((in_c 1 rfl)) | (have a9 := (in_c 1 rfl); unfold In at a9)); (first | have a10 := in_u j87_3 | (have a10 := j87_3; unfold In at a10)); have oc := oc_357_109; omega) (by (first | have a0 := in_u j87_2 | (have a0 := j87_2; unfold In at a0)); (first | have a1 := in_u j87_1 | (have a1 := j87_1; unfold In at a1)); (first | have a2 := in_u ro_109_20 | (have a2 := ro_109_20; unfold In at a2)); (first | have a3 := in_u ro_109_19 | (have a3 := ro_109_19; unfold In at a3)); (first | have a4 := in_u i92 | (have a4 := i92; unfold In at a4)); (first | have a5 := in_u i101 | (have a5 := i101; unfold In at a5)); have a6 := t_add e101 ro_109_19 i92 rfl; (first | have a7 := in_u i197 | (have a7 := i197; unfold In at a7)); have a8 := t_add e197 i92 (in_c 1 rfl) rfl; (first | have a9 := in_u ((in_c 1 rfl)) | (have a9 := (in_c 1 rfl); unfold In at a9)); (first | have a10 := in_u j87_3 | (have a10 := j87_3; unfold In at a10)); have oc := oc_357_109; omega) ⟨by decide, by decide⟩ (by rw [e165]; simp [sL]) e173 (by rw [e172]; simp [sL, vp_updL]) (by rw [e187]; simp [sL]) e195 (by rw [e194]; simp [sL, vp_updL]))
              have n87b : ZBP s (sL (sL (sL sc87 147 y87_4.toNatClampNeg (Int64.ofInt 0)) 150 z163.toNatClampNeg z173) 150 z185.toNatClampNeg z195) (x1).toNatClampNeg (x2).toNatClampNeg (x3).toInt (z197).toNatClampNeg := by rw [show z197.toNatClampNeg = y87_4.toNatClampNeg + 1 from (by show z197.toInt.toNat = y87_4.toInt.toNat + 1; (first | have a0 := in_u j87_2 | (have a0 := j87_2; unfold In at a0)); (first | have a1 := in_u j87_1 | (have a1 := j87_1; unfold In at a1)); (first | have a2 := in_u ro_109_20 | (have a2 := ro_109_20; unfold In at a2)); (first | have a3 := in_u ro_109_19 | (have a3 := ro_109_19; unfold In at a3)); (first | have a4 := in_u i92 | (have a4 := i92; unfold In at a4)); (first | have a5 := in_u i101 | (have a5 := i101; unfold In at a5)); have a6 := t_add e101 ro_109_19 i92 rfl; (first | have a7 := in_u i197 | (have a7 := i197; unfold In at a7)); have a8 := t_add e197 i92 (in_c 1 rfl) rfl; (first | have a9 := in_u ((in_c 1 rfl)) | (have a9 := (in_c 1 rfl); unfold In at a9)); (first | have a10 := in_u j87_3 | (have a10 := j87_3; unfold In at a10)); have oc := oc_357_109; omega)]; have n9 := arc_n hI (show (y87_4).toNatClampNeg < 160 from (by show (y87_4).toInt.toNat < 160; (first | have a0 := in_u j87_2 | (have a0 := j87_2; unfold In at a0)); (first | have a1 := in_u j87_1 | (have a1 := j87_1; unfold In at a1)); (first | have a2 := in_u ro_109_20 | (have a2 := ro_109_20; unfold In at a2)); (first | have a3 := in_u ro_109_19 | (have a3 := ro_109_19; unfold In at a3)); (first | have a4 := in_u i92 | (have a4 := i92; unfold In at a4)); (first | have a5 := in_u i101 | (have a5 := i101; unfold In at a5)); have a6 := t_add e101 ro_109_19 i92 rfl; (first | have a7 := in_u i197 | (have a7 := i197; unfold In at a7)); have a8 := t_add e197 i92 (in_c 1 rfl) rfl; (first | have a9 := in_u ((in_c 1 rfl)) | (have a9 := (in_c 1 rfl); unfold In at a9)); (first | have a10 := in_u j87_3 | (have a10 := j87_3; unfold In at a10)); have oc := oc_357_109; omega)) (show (s.1 112 (bs s + (y87_4).toNatClampNeg)).toInt ≠ 0 from (by rw [(bs_x (x := z101) (a := y87_4) e_109_19 (by (first | have a0 := in_u j87_2 | (have a0 := j87_2; unfold In at a0)); (first | have a1 := in_u j87_1 | (have a1 := j87_1; unfold In at a1)); (first | have a2 := in_u ro_109_20 | (have a2 := ro_109_20; unfold In at a2)); (first | have a3 := in_u ro_109_19 | (have a3 := ro_109_19; unfold In at a3)); (first | have a4 := in_u i92 | (have a4 := i92; unfold In at a4)); (first | have a5 := in_u i101 | (have a5 := i101; unfold In at a5)); have a6 := t_add e101 ro_109_19 i92 rfl; (first | have a7 := in_u i197 | (have a7 := i197; unfold In at a7)); have a8 := t_add e197 i92 (in_c 1 rfl) rfl; (first | have a9 := in_u ((in_c 1 rfl)) | (have a9 := (in_c 1 rfl); unfold In at a9)); (first | have a10 := in_u j87_3 | (have a10 := j87_3; unfold In at a10)); have oc := oc_357_109; omega) (by (first | have a0 := in_u j87_2 | (have a0 := j87_2; unfold In at a0)); (first | have a1 := in_u j87_1 | (have a1 := j87_1; unfold In at a1)); (first | have a2 := in_u ro_109_20 | (have a2 := ro_109_20; unfold In at a2)); (first | have a3 := in_u ro_109_19 | (have a3 := ro_109_19; unfold In at a3)); (first | have a4 := in_u i92 | (have a4 := i92; unfold In at a4)); (first | have a5 := in_u i101 | (have a5 := i101; unfold In at a5)); have a6 := t_add e101 ro_109_19 i92 rfl; (first | have a7 := in_u i197 | (have a7 := i197; unfold In at a7)); have a8 := t_add e197 i92 (in_c 1 rfl) rfl; (first | have a9 := in_u ((in_c 1 rfl)) | (have a9 := (in_c 1 rfl); unfold In at a9)); (first | have a10 := in_u j87_3 | (have a10 := j87_3; unfold In at a10)); have oc := oc_357_109; omega) (by (first | have a0 := in_u j87_2 | (have a0 := j87_2; unfold In at a0)); (first | have a1 := in_u j87_1 | (have a1 := j87_1; unfold In at a1)); (first | have a2 := in_u ro_109_20 | (have a2 := ro_109_20; unfold In at a2)); (first | have a3 := in_u ro_109_19 | (have a3 := ro_109_19; unfold In at a3)); (first | have a4 := in_u i92 | (have a4 := i92; unfold In at a4)); (first | have a5 := in_u i101 | (have a5 := i101; unfold In at a5)); have a6 := t_add e101 ro_109_19 i92 rfl; (first | have a7 := in_u i197 | (have a7 := i197; unfold In at a7)); have a8 := t_add e197 i92 (in_c 1 rfl) rfl; (first | have a9 := in_u ((in_c 1 rfl)) | (have a9 := (in_c 1 rfl); unfold In at a9)); (first | have a10 := in_u j87_3 | (have a10 := j87_3; unfold In at a10)); have oc := oc_357_109; omega)), ← hFc87.1 112 rfl, ← e116]; exact c117)); have m1 := nat_in n9.1.1 n9.1.2; have m2 := nat_in n9.2.1.1 n9.2.1.2; exact zbp_y (w := (Int64.ofInt 0)) g87_2 g87_1 ⟨by (first | have a0 := in_u j87_2 | (have a0 := j87_2; unfold In at a0)); (first | have a1 := in_u j87_1 | (have a1 := j87_1; unfold In at a1)); (first | have a2 := in_u ro_109_20 | (have a2 := ro_109_20; unfold In at a2)); (first | have a3 := in_u ro_109_19 | (have a3 := ro_109_19; unfold In at a3)); (first | have a4 := in_u i92 | (have a4 := i92; unfold In at a4)); (first | have a5 := in_u i101 | (have a5 := i101; unfold In at a5)); have a6 := t_add e101 ro_109_19 i92 rfl; (first | have a7 := in_u i197 | (have a7 := i197; unfold In at a7)); have a8 := t_add e197 i92 (in_c 1 rfl) rfl; (first | have a9 := in_u ((in_c 1 rfl)) | (have a9 := (in_c 1 rfl); unfold In at a9)); (first | have a10 := in_u j87_3 | (have a10 := j87_3; unfold In at a10)); have oc := oc_357_109; omega, by (first | have a0 := in_u j87_2 | (have a0 := j87_2; unfold In at a0)); (first | have a1 := in_u j87_1 | (have a1 := j87_1; unfold In at a1)); (first | have a2 := in_u ro_109_20 | (have a2 := ro_109_20; unfold In at a2)); (first | have a3 := in_u ro_109_19 | (have a3 := ro_109_19; unfold In at a3)); (first | have a4 := in_u i92 | (have a4 := i92; unfold In at a4)); (first | have a5 := in_u i101 | (have a5 := i101; unfold In at a5)); have a6 := t_add e101 ro_109_19 i92 rfl; (first | have a7 := in_u i197 | (have a7 := i197; unfold In at a7)); have a8 := t_add e197 i92 (in_c 1 rfl) rfl; (first | have a9 := in_u ((in_c 1 rfl)) | (have a9 := (in_c 1 rfl); unfold In at a9)); (first | have a10 := in_u j87_3 | (have a10 := j87_3; unfold In at a10)); have oc := oc_357_109; omega⟩ (show (s.1 112 (bs s + (y87_4).toNatClampNeg)).toInt ≠ 0 from (by rw [(bs_x (x := z101) (a := y87_4) e_109_19 (by (first | have a0 := in_u j87_2 | (have a0 := j87_2; unfold In at a0)); (first | have a1 := in_u j87_1 | (have a1 := j87_1; unfold In at a1)); (first | have a2 := in_u ro_109_20 | (have a2 := ro_109_20; unfold In at a2)); (first | have a3 := in_u ro_109_19 | (have a3 := ro_109_19; unfold In at a3)); (first | have a4 := in_u i92 | (have a4 := i92; unfold In at a4)); (first | have a5 := in_u i101 | (have a5 := i101; unfold In at a5)); have a6 := t_add e101 ro_109_19 i92 rfl; (first | have a7 := in_u i197 | (have a7 := i197; unfold In at a7)); have a8 := t_add e197 i92 (in_c 1 rfl) rfl; (first | have a9 := in_u ((in_c 1 rfl)) | (have a9 := (in_c 1 rfl); unfold In at a9)); (first | have a10 := in_u j87_3 | (have a10 := j87_3; unfold In at a10)); have oc := oc_357_109; omega) (by (first | have a0 := in_u j87_2 | (have a0 := j87_2; unfold In at a0)); (first | have a1 := in_u j87_1 | (have a1 := j87_1; unfold In at a1)); (first | have a2 := in_u ro_109_20 | (have a2 := ro_109_20; unfold In at a2)); (first | have a3 := in_u ro_109_19 | (have a3 := ro_109_19; unfold In at a3)); (first | have a4 := in_u i92 | (have a4 := i92; unfold In at a4)); (first | have a5 := in_u i101 | (have a5 := i101; unfold In at a5)); have a6 := t_add e101 ro_109_19 i92 rfl; (first | have a7 := in_u i197 | (have a7 := i197; unfold In at a7)); have a8 := t_add e197 i92 (in_c 1 rfl) rfl; (first | have a9 := in_u ((in_c 1 rfl)) | (have a9 := (in_c 1 rfl); unfold In at a9)); (first | have a10 := in_u j87_3 | (have a10 := j87_3; unfold In at a10)); have oc := oc_357_109; omega) (by (first | have a0 := in_u j87_2 | (have a0 := j87_2; unfold In at a0)); (first | have a1 := in_u j87_1 | (have a1 := j87_1; unfold In at a1)); (first | have a2 := in_u ro_109_20 | (have a2 := ro_109_20; unfold In at a2)); (first | have a3 := in_u ro_109_19 | (have a3 := ro_109_19; unfold In at a3)); (first | have a4 := in_u i92 | (have a4 := i92; unfold In at a4)); (first | have a5 := in_u i101 | (have a5 := i101; unfold In at a5)); have a6 := t_add e101 ro_109_19 i92 rfl; (first | have a7 := in_u i197 | (have a7 := i197; unfold In at a7)); have a8 := t_add e197 i92 (in_c 1 rfl) rfl; (first | have a9 := in_u ((in_c 1 rfl)) | (have a9 := (in_c 1 rfl); unfold In at a9)); (first | have a10 := in_u j87_3 | (have a10 := j87_3; unfold In at a10)); have oc := oc_357_109; omega)), ← hFc87.1 112 rfl, ← e116]; exact c117)) m1.1 m2.1 m1.2 m2.2 ⟨by decide, by decide⟩ (by simp [sL]) (by rw [(show ztl s (y87_4).toNatClampNeg = z163.toNatClampNeg from (by unfold ztl; rw [(bs_x (x := z101) (a := y87_4) e_109_19 (by (first | have a0 := in_u j87_2 | (have a0 := j87_2; unfold In at a0)); (first | have a1 := in_u j87_1 | (have a1 := j87_1; unfold In at a1)); (first | have a2 := in_u ro_109_20 | (have a2 := ro_109_20; unfold In at a2)); (first | have a3 := in_u ro_109_19 | (have a3 := ro_109_19; unfold In at a3)); (first | have a4 := in_u i92 | (have a4 := i92; unfold In at a4)); (first | have a5 := in_u i101 | (have a5 := i101; unfold In at a5)); have a6 := t_add e101 ro_109_19 i92 rfl; (first | have a7 := in_u i197 | (have a7 := i197; unfold In at a7)); have a8 := t_add e197 i92 (in_c 1 rfl) rfl; (first | have a9 := in_u ((in_c 1 rfl)) | (have a9 := (in_c 1 rfl); unfold In at a9)); (first | have a10 := in_u j87_3 | (have a10 := j87_3; unfold In at a10)); have oc := oc_357_109; omega) (by (first | have a0 := in_u j87_2 | (have a0 := j87_2; unfold In at a0)); (first | have a1 := in_u j87_1 | (have a1 := j87_1; unfold In at a1)); (first | have a2 := in_u ro_109_20 | (have a2 := ro_109_20; unfold In at a2)); (first | have a3 := in_u ro_109_19 | (have a3 := ro_109_19; unfold In at a3)); (first | have a4 := in_u i92 | (have a4 := i92; unfold In at a4)); (first | have a5 := in_u i101 | (have a5 := i101; unfold In at a5)); have a6 := t_add e101 ro_109_19 i92 rfl; (first | have a7 := in_u i197 | (have a7 := i197; unfold In at a7)); have a8 := t_add e197 i92 (in_c 1 rfl) rfl; (first | have a9 := in_u ((in_c 1 rfl)) | (have a9 := (in_c 1 rfl); unfold In at a9)); (first | have a10 := in_u j87_3 | (have a10 := j87_3; unfold In at a10)); have oc := oc_357_109; omega) (by (first | have a0 := in_u j87_2 | (have a0 := j87_2; unfold In at a0)); (first | have a1 := in_u j87_1 | (have a1 := j87_1; unfold In at a1)); (first | have a2 := in_u ro_109_20 | (have a2 := ro_109_20; unfold In at a2)); (first | have a3 := in_u ro_109_19 | (have a3 := ro_109_19; unfold In at a3)); (first | have a4 := in_u i92 | (have a4 := i92; unfold In at a4)); (first | have a5 := in_u i101 | (have a5 := i101; unfold In at a5)); have a6 := t_add e101 ro_109_19 i92 rfl; (first | have a7 := in_u i197 | (have a7 := i197; unfold In at a7)); have a8 := t_add e197 i92 (in_c 1 rfl) rfl; (first | have a9 := in_u ((in_c 1 rfl)) | (have a9 := (in_c 1 rfl); unfold In at a9)); (first | have a10 := in_u j87_3 | (have a10 := j87_3; unfold In at a10)); have oc := oc_357_109; omega)), ← hFc87.1 113 rfl]; exact congrArg Int32.toNatClampNeg e163.symm)), e165]; simp [sL]) (by rw [e172]; simp [sL, vp_updL]) e173 (by rw [(show ztl s (y87_4).toNatClampNeg = z163.toNatClampNeg from (by unfold ztl; rw [(bs_x (x := z101) (a := y87_4) e_109_19 (by (first | have a0 := in_u j87_2 | (have a0 := j87_2; unfold In at a0)); (first | have a1 := in_u j87_1 | (have a1 := j87_1; unfold In at a1)); (first | have a2 := in_u ro_109_20 | (have a2 := ro_109_20; unfold In at a2)); (first | have a3 := in_u ro_109_19 | (have a3 := ro_109_19; unfold In at a3)); (first | have a4 := in_u i92 | (have a4 := i92; unfold In at a4)); (first | have a5 := in_u i101 | (have a5 := i101; unfold In at a5)); have a6 := t_add e101 ro_109_19 i92 rfl; (first | have a7 := in_u i197 | (have a7 := i197; unfold In at a7)); have a8 := t_add e197 i92 (in_c 1 rfl) rfl; (first | have a9 := in_u ((in_c 1 rfl)) | (have a9 := (in_c 1 rfl); unfold In at a9)); (first | have a10 := in_u j87_3 | (have a10 := j87_3; unfold In at a10)); have oc := oc_357_109; omega) (by (first | have a0 := in_u j87_2 | (have a0 := j87_2; unfold In at a0)); (first | have a1 := in_u j87_1 | (have a1 := j87_1; unfold In at a1)); (first | have a2 := in_u ro_109_20 | (have a2 := ro_109_20; unfold In at a2)); (first | have a3 := in_u ro_109_19 | (have a3 := ro_109_19; unfold In at a3)); (first | have a4 := in_u i92 | (have a4 := i92; unfold In at a4)); (first | have a5 := in_u i101 | (have a5 := i101; unfold In at a5)); have a6 := t_add e101 ro_109_19 i92 rfl; (first | have a7 := in_u i197 | (have a7 := i197; unfold In at a7)); have a8 := t_add e197 i92 (in_c 1 rfl) rfl; (first | have a9 := in_u ((in_c 1 rfl)) | (have a9 := (in_c 1 rfl); unfold In at a9)); (first | have a10 := in_u j87_3 | (have a10 := j87_3; unfold In at a10)); have oc := oc_357_109; omega) (by (first | have a0 := in_u j87_2 | (have a0 := j87_2; unfold In at a0)); (first | have a1 := in_u j87_1 | (have a1 := j87_1; unfold In at a1)); (first | have a2 := in_u ro_109_20 | (have a2 := ro_109_20; unfold In at a2)); (first | have a3 := in_u ro_109_19 | (have a3 := ro_109_19; unfold In at a3)); (first | have a4 := in_u i92 | (have a4 := i92; unfold In at a4)); (first | have a5 := in_u i101 | (have a5 := i101; unfold In at a5)); have a6 := t_add e101 ro_109_19 i92 rfl; (first | have a7 := in_u i197 | (have a7 := i197; unfold In at a7)); have a8 := t_add e197 i92 (in_c 1 rfl) rfl; (first | have a9 := in_u ((in_c 1 rfl)) | (have a9 := (in_c 1 rfl); unfold In at a9)); (first | have a10 := in_u j87_3 | (have a10 := j87_3; unfold In at a10)); have oc := oc_357_109; omega)), ← hFc87.1 113 rfl]; exact congrArg Int32.toNatClampNeg e163.symm)), (show zhd s (y87_4).toNatClampNeg = z185.toNatClampNeg from (by unfold zhd; rw [(bs_x (x := z101) (a := y87_4) e_109_19 (by (first | have a0 := in_u j87_2 | (have a0 := j87_2; unfold In at a0)); (first | have a1 := in_u j87_1 | (have a1 := j87_1; unfold In at a1)); (first | have a2 := in_u ro_109_20 | (have a2 := ro_109_20; unfold In at a2)); (first | have a3 := in_u ro_109_19 | (have a3 := ro_109_19; unfold In at a3)); (first | have a4 := in_u i92 | (have a4 := i92; unfold In at a4)); (first | have a5 := in_u i101 | (have a5 := i101; unfold In at a5)); have a6 := t_add e101 ro_109_19 i92 rfl; (first | have a7 := in_u i197 | (have a7 := i197; unfold In at a7)); have a8 := t_add e197 i92 (in_c 1 rfl) rfl; (first | have a9 := in_u ((in_c 1 rfl)) | (have a9 := (in_c 1 rfl); unfold In at a9)); (first | have a10 := in_u j87_3 | (have a10 := j87_3; unfold In at a10)); have oc := oc_357_109; omega) (by (first | have a0 := in_u j87_2 | (have a0 := j87_2; unfold In at a0)); (first | have a1 := in_u j87_1 | (have a1 := j87_1; unfold In at a1)); (first | have a2 := in_u ro_109_20 | (have a2 := ro_109_20; unfold In at a2)); (first | have a3 := in_u ro_109_19 | (have a3 := ro_109_19; unfold In at a3)); (first | have a4 := in_u i92 | (have a4 := i92; unfold In at a4)); (first | have a5 := in_u i101 | (have a5 := i101; unfold In at a5)); have a6 := t_add e101 ro_109_19 i92 rfl; (first | have a7 := in_u i197 | (have a7 := i197; unfold In at a7)); have a8 := t_add e197 i92 (in_c 1 rfl) rfl; (first | have a9 := in_u ((in_c 1 rfl)) | (have a9 := (in_c 1 rfl); unfold In at a9)); (first | have a10 := in_u j87_3 | (have a10 := j87_3; unfold In at a10)); have oc := oc_357_109; omega) (by (first | have a0 := in_u j87_2 | (have a0 := j87_2; unfold In at a0)); (first | have a1 := in_u j87_1 | (have a1 := j87_1; unfold In at a1)); (first | have a2 := in_u ro_109_20 | (have a2 := ro_109_20; unfold In at a2)); (first | have a3 := in_u ro_109_19 | (have a3 := ro_109_19; unfold In at a3)); (first | have a4 := in_u i92 | (have a4 := i92; unfold In at a4)); (first | have a5 := in_u i101 | (have a5 := i101; unfold In at a5)); have a6 := t_add e101 ro_109_19 i92 rfl; (first | have a7 := in_u i197 | (have a7 := i197; unfold In at a7)); have a8 := t_add e197 i92 (in_c 1 rfl) rfl; (first | have a9 := in_u ((in_c 1 rfl)) | (have a9 := (in_c 1 rfl); unfold In at a9)); (first | have a10 := in_u j87_3 | (have a10 := j87_3; unfold In at a10)); have oc := oc_357_109; omega)), ← hFc87.1 114 rfl]; exact congrArg Int32.toNatClampNeg e185.symm)), e187]; simp [sL]) (by rw [e194]; simp [sL, vp_updL]) e195 (by rw [(show ztl s (y87_4).toNatClampNeg = z163.toNatClampNeg from (by unfold ztl; rw [(bs_x (x := z101) (a := y87_4) e_109_19 (by (first | have a0 := in_u j87_2 | (have a0 := j87_2; unfold In at a0)); (first | have a1 := in_u j87_1 | (have a1 := j87_1; unfold In at a1)); (first | have a2 := in_u ro_109_20 | (have a2 := ro_109_20; unfold In at a2)); (first | have a3 := in_u ro_109_19 | (have a3 := ro_109_19; unfold In at a3)); (first | have a4 := in_u i92 | (have a4 := i92; unfold In at a4)); (first | have a5 := in_u i101 | (have a5 := i101; unfold In at a5)); have a6 := t_add e101 ro_109_19 i92 rfl; (first | have a7 := in_u i197 | (have a7 := i197; unfold In at a7)); have a8 := t_add e197 i92 (in_c 1 rfl) rfl; (first | have a9 := in_u ((in_c 1 rfl)) | (have a9 := (in_c 1 rfl); unfold In at a9)); (first | have a10 := in_u j87_3 | (have a10 := j87_3; unfold In at a10)); have oc := oc_357_109; omega) (by (first | have a0 := in_u j87_2 | (have a0 := j87_2; unfold In at a0)); (first | have a1 := in_u j87_1 | (have a1 := j87_1; unfold In at a1)); (first | have a2 := in_u ro_109_20 | (have a2 := ro_109_20; unfold In at a2)); (first | have a3 := in_u ro_109_19 | (have a3 := ro_109_19; unfold In at a3)); (first | have a4 := in_u i92 | (have a4 := i92; unfold In at a4)); (first | have a5 := in_u i101 | (have a5 := i101; unfold In at a5)); have a6 := t_add e101 ro_109_19 i92 rfl; (first | have a7 := in_u i197 | (have a7 := i197; unfold In at a7)); have a8 := t_add e197 i92 (in_c 1 rfl) rfl; (first | have a9 := in_u ((in_c 1 rfl)) | (have a9 := (in_c 1 rfl); unfold In at a9)); (first | have a10 := in_u j87_3 | (have a10 := j87_3; unfold In at a10)); have oc := oc_357_109; omega) (by (first | have a0 := in_u j87_2 | (have a0 := j87_2; unfold In at a0)); (first | have a1 := in_u j87_1 | (have a1 := j87_1; unfold In at a1)); (first | have a2 := in_u ro_109_20 | (have a2 := ro_109_20; unfold In at a2)); (first | have a3 := in_u ro_109_19 | (have a3 := ro_109_19; unfold In at a3)); (first | have a4 := in_u i92 | (have a4 := i92; unfold In at a4)); (first | have a5 := in_u i101 | (have a5 := i101; unfold In at a5)); have a6 := t_add e101 ro_109_19 i92 rfl; (first | have a7 := in_u i197 | (have a7 := i197; unfold In at a7)); have a8 := t_add e197 i92 (in_c 1 rfl) rfl; (first | have a9 := in_u ((in_c 1 rfl)) | (have a9 := (in_c 1 rfl); unfold In at a9)); (first | have a10 := in_u j87_3 | (have a10 := j87_3; unfold In at a10)); have oc := oc_357_109; omega)), ← hFc87.1 113 rfl]; exact congrArg Int32.toNatClampNeg e163.symm)), (show zhd s (y87_4).toNatClampNeg = z185.toNatClampNeg from (by unfold zhd; rw [(bs_x (x := z101) (a := y87_4) e_109_19 (by (first | have a0 := in_u j87_2 | (have a0 := j87_2; unfold In at a0)); (first | have a1 := in_u j87_1 | (have a1 := j87_1; unfold In at a1)); (first | have a2 := in_u ro_109_20 | (have a2 := ro_109_20; unfold In at a2)); (first | have a3 := in_u ro_109_19 | (have a3 := ro_109_19; unfold In at a3)); (first | have a4 := in_u i92 | (have a4 := i92; unfold In at a4)); (first | have a5 := in_u i101 | (have a5 := i101; unfold In at a5)); have a6 := t_add e101 ro_109_19 i92 rfl; (first | have a7 := in_u i197 | (have a7 := i197; unfold In at a7)); have a8 := t_add e197 i92 (in_c 1 rfl) rfl; (first | have a9 := in_u ((in_c 1 rfl)) | (have a9 := (in_c 1 rfl); unfold In at a9)); (first | have a10 := in_u j87_3 | (have a10 := j87_3; unfold In at a10)); have oc := oc_357_109; omega) (by (first | have a0 := in_u j87_2 | (have a0 := j87_2; unfold In at a0)); (first | have a1 := in_u j87_1 | (have a1 := j87_1; unfold In at a1)); (first | have a2 := in_u ro_109_20 | (have a2 := ro_109_20; unfold In at a2)); (first | have a3 := in_u ro_109_19 | (have a3 := ro_109_19; unfold In at a3)); (first | have a4 := in_u i92 | (have a4 := i92; unfold In at a4)); (first | have a5 := in_u i101 | (have a5 := i101; unfold In at a5)); have a6 := t_add e101 ro_109_19 i92 rfl; (first | have a7 := in_u i197 | (have a7 := i197; unfold In at a7)); have a8 := t_add e197 i92 (in_c 1 rfl) rfl; (first | have a9 := in_u ((in_c 1 rfl)) | (have a9 := (in_c 1 rfl); unfold In at a9)); (first | have a10 := in_u j87_3 | (have a10 := j87_3; unfold In at a10)); have oc := oc_357_109; omega) (by (first | have a0 := in_u j87_2 | (have a0 := j87_2; unfold In at a0)); (first | have a1 := in_u j87_1 | (have a1 := j87_1; unfold In at a1)); (first | have a2 := in_u ro_109_20 | (have a2 := ro_109_20; unfold In at a2)); (first | have a3 := in_u ro_109_19 | (have a3 := ro_109_19; unfold In at a3)); (first | have a4 := in_u i92 | (have a4 := i92; unfold In at a4)); (first | have a5 := in_u i101 | (have a5 := i101; unfold In at a5)); have a6 := t_add e101 ro_109_19 i92 rfl; (first | have a7 := in_u i197 | (have a7 := i197; unfold In at a7)); have a8 := t_add e197 i92 (in_c 1 rfl) rfl; (first | have a9 := in_u ((in_c 1 rfl)) | (have a9 := (in_c 1 rfl); unfold In at a9)); (first | have a10 := in_u j87_3 | (have a10 := j87_3; unfold In at a10)); have oc := oc_357_109; omega)), ← hFc87.1 114 rfl]; exact congrArg Int32.toNatClampNeg e185.symm))]; simp [sL])
              have n87c : (((sL (sL (sL sc87 147 y87_4.toNatClampNeg (Int64.ofInt 0)) 150 z163.toNatClampNeg z173) 150 z185.toNatClampNeg z195)).2.2.1 109 0).toInt = 0 := by exact g87_3
              have n87d : (x1).toInt ≠ (x2).toInt ∧ (x1).toInt < (s.2.2.1 109 20).toInt ∧ (x2).toInt < (s.2.2.1 109 20).toInt := by exact g87_4
              exact gg_w (by first | exact Nat.le_add_right _ _ | exact gw2 | exact gw3 | exact gwe rfl | exact gwf rfl | exact gwg rfl | exact gwh rfl | omega) (gg_f (gf_cons rfl (gf_cons rfl (gf_cons rfl (gf_cons rfl (gf_cons rfl gf_nil))))) (ih87 (sL (sL (sL sc87 147 y87_4.toNatClampNeg (Int64.ofInt 0)) 150 z163.toNatClampNeg z173) 150 z185.toNatClampNeg z195) z197 hI196 (fr_sL rfl (fr_sL rfl (fr_sL rfl hFc87))) (in_w 0 31 j87_1 rfl) (in_w 0 31 j87_2 rfl) (in_w 0 200000000 j87_3 rfl) (in_w 0 160 i197 rfl) n87 n87a n87b n87c n87d (m_up mm87 (t_add e197 i92 (in_c 1 rfl) rfl) (in_w 1 1 (in_c 1 rfl) rfl))))
          · skip
            have i127 := z_lt (-1000000) (-1) c127 i126 rfl
            refine g_aload_n 131 (gd rfl) rfl rfl ?_
            refine g_getA (q2 := 116) 134 (gd rfl) rfl rfl rfl rfl ?_
            refine g_iload 136 (gd rfl) rfl rfl ?_
            refine g_iaload 137 (gd rfl) rfl (n := 480) rfl (in_ix i101 rfl) (fun z136 e136 => ?_)
            have i136 := inv_I hIc87 (n := 480) (t := 0) 0 1000000 rfl (in_ix i101 rfl) rfl e136
            refine g_i2l 138 (gd rfl) rfl (fun z137 e137 => ?_)
            have i137 := l_i e137 i136
            refine g_goto 142 (gd rfl) rfl ?_
            refine g_lastore 143 (gd rfl) rfl (n := 160) rfl (in_ix i92 rfl) ?_
            have hI142 := inv_sL (q := 147) (j := y87_4.toNatClampNeg) (x := z137) hIc87 rfl (l_rng z137)
            refine g_aload_n 144 (gd rfl) rfl rfl ?_
            refine g_getA (q2 := 112) 147 (gd rfl) rfl rfl rfl rfl ?_
            refine g_iload 149 (gd rfl) rfl rfl ?_
            refine g_baload 150 (gd rfl) rfl (n := 480) rfl (in_ix i101 rfl) (fun z149 e149 => ?_)
            have q149 : z116 = z149 := (sL_I (e116)).trans e149.symm
            subst q149
            refine g_if_eq 153 197 (gd rfl) rfl rfl (fun c150 => ?_) (fun c150 => ?_)
            · skip
              exact zn_eq c150 i117 rfl
            · skip
              refine g_aload_n 154 (gd rfl) rfl rfl ?_
              refine g_getA (q2 := 150) 157 (gd rfl) rfl rfl rfl rfl ?_
              refine g_aload_n 158 (gd rfl) rfl rfl ?_
              refine g_getA (q2 := 113) 161 (gd rfl) rfl rfl rfl rfl ?_
              refine g_iload 163 (gd rfl) rfl rfl ?_
              refine g_iaload 164 (gd rfl) rfl (n := 480) rfl (in_ix i101 rfl) (fun z163 e163 => ?_)
              have i163 := inv_I hI142 (n := 480) (t := 0) 0 31 rfl (in_ix i101 rfl) rfl e163
              refine g_dup2 165 (gd rfl) rfl rfl rfl ?_
              refine g_laload 166 (gd rfl) rfl (n := 32) rfl (in_ix i163 rfl) (fun z165 e165 => ?_)
              refine g_aload_n 167 (gd rfl) rfl rfl ?_
              refine g_getA (q2 := 147) 170 (gd rfl) rfl rfl rfl rfl ?_
              refine g_iload 172 (gd rfl) rfl rfl ?_
              refine g_laload 173 (gd rfl) rfl (n := 160) rfl (in_ix i92 rfl) (fun z172 e172 => ?_)
              refine g_lsub 174 (gd rfl) rfl (fun z173 e173 => ?_)
              refine g_lastore 175 (gd rfl) rfl (n := 32) rfl (in_ix i163 rfl) ?_
              have hI174 := inv_sL (q := 150) (j := z163.toNatClampNeg) (x := z173) hI142 rfl (l_rng z173)
              refine g_aload_n 176 (gd rfl) rfl rfl ?_
              refine g_getA (q2 := 150) 179 (gd rfl) rfl rfl rfl rfl ?_
              refine g_aload_n 180 (gd rfl) rfl rfl ?_
              refine g_getA (q2 := 114) 183 (gd rfl) rfl rfl rfl rfl ?_
              refine g_iload 185 (gd rfl) rfl rfl ?_
              refine g_iaload 186 (gd rfl) rfl (n := 480) rfl (in_ix i101 rfl) (fun z185 e185 => ?_)
              have i185 := inv_I hI174 (n := 480) (t := 0) 0 31 rfl (in_ix i101 rfl) rfl e185
              refine g_dup2 187 (gd rfl) rfl rfl rfl ?_
              refine g_laload 188 (gd rfl) rfl (n := 32) rfl (in_ix i185 rfl) (fun z187 e187 => ?_)
              refine g_aload_n 189 (gd rfl) rfl rfl ?_
              refine g_getA (q2 := 147) 192 (gd rfl) rfl rfl rfl rfl ?_
              refine g_iload 194 (gd rfl) rfl rfl ?_
              refine g_laload 195 (gd rfl) rfl (n := 160) rfl (in_ix i92 rfl) (fun z194 e194 => ?_)
              refine g_ladd 196 (gd rfl) rfl (fun z195 e195 => ?_)
              refine g_lastore 197 (gd rfl) rfl (n := 32) rfl (in_ix i185 rfl) ?_
              have hI196 := inv_sL (q := 150) (j := z185.toNatClampNeg) (x := z195) hI174 rfl (l_rng z195)
              refine g_iinc 200 (gd rfl) rfl rfl (Nat.le_of_ble_eq_true rfl) (fun z197 e197 => ?_)
              have i197 := in_add 1 160 e197 i92 (in_c 1 rfl) rfl rfl
              refine g_goto 87 (gd rfl) rfl ?_
              have n87 : IFQ s ((sL (sL (sL sc87 147 y87_4.toNatClampNeg z137) 150 z163.toNatClampNeg z173) 150 z185.toNatClampNeg z195).2.1 147) (z197).toNatClampNeg := by (rw [show ((sL (sL (sL sc87 147 y87_4.toNatClampNeg z137) 150 z163.toNatClampNeg z173) 150 z185.toNatClampNeg z195)).2.1 147 = vp_updL (sc87.2.1 147) y87_4.toNatClampNeg z137 from (by simp [sL]), show z197.toNatClampNeg = y87_4.toNatClampNeg + 1 from (by show z197.toInt.toNat = y87_4.toInt.toNat + 1; (first | have a0 := in_u j87_2 | (have a0 := j87_2; unfold In at a0)); (first | have a1 := in_u j87_1 | (have a1 := j87_1; unfold In at a1)); (first | have a2 := in_u ro_109_20 | (have a2 := ro_109_20; unfold In at a2)); (first | have a3 := in_u ro_109_19 | (have a3 := ro_109_19; unfold In at a3)); (first | have a4 := in_u i92 | (have a4 := i92; unfold In at a4)); (first | have a5 := in_u i101 | (have a5 := i101; unfold In at a5)); have a6 := t_add e101 ro_109_19 i92 rfl; (first | have a7 := in_u i197 | (have a7 := i197; unfold In at a7)); have a8 := t_add e197 i92 (in_c 1 rfl) rfl; (first | have a9 := in_u ((in_c 1 rfl)) | (have a9 := (in_c 1 rfl); unfold In at a9)); (first | have a10 := in_u j87_3 | (have a10 := j87_3; unfold In at a10)); have a11 := tx_i2l e137; (first | have a12 := in_u i136 | (have a12 := i136; unfold In at a12)); have oc := oc_357_109; omega)]; exact ifq_s g87_0 (fun _ => by rw [(bs_x (x := z101) (a := y87_4) e_109_19 (by (first | have a0 := in_u j87_2 | (have a0 := j87_2; unfold In at a0)); (first | have a1 := in_u j87_1 | (have a1 := j87_1; unfold In at a1)); (first | have a2 := in_u ro_109_20 | (have a2 := ro_109_20; unfold In at a2)); (first | have a3 := in_u ro_109_19 | (have a3 := ro_109_19; unfold In at a3)); (first | have a4 := in_u i92 | (have a4 := i92; unfold In at a4)); (first | have a5 := in_u i101 | (have a5 := i101; unfold In at a5)); have a6 := t_add e101 ro_109_19 i92 rfl; (first | have a7 := in_u i197 | (have a7 := i197; unfold In at a7)); have a8 := t_add e197 i92 (in_c 1 rfl) rfl; (first | have a9 := in_u ((in_c 1 rfl)) | (have a9 := (in_c 1 rfl); unfold In at a9)); (first | have a10 := in_u j87_3 | (have a10 := j87_3; unfold In at a10)); have a11 := tx_i2l e137; (first | have a12 := in_u i136 | (have a12 := i136; unfold In at a12)); have oc := oc_357_109; omega) (by (first | have a0 := in_u j87_2 | (have a0 := j87_2; unfold In at a0)); (first | have a1 := in_u j87_1 | (have a1 := j87_1; unfold In at a1)); (first | have a2 := in_u ro_109_20 | (have a2 := ro_109_20; unfold In at a2)); (first | have a3 := in_u ro_109_19 | (have a3 := ro_109_19; unfold In at a3)); (first | have a4 := in_u i92 | (have a4 := i92; unfold In at a4)); (first | have a5 := in_u i101 | (have a5 := i101; unfold In at a5)); have a6 := t_add e101 ro_109_19 i92 rfl; (first | have a7 := in_u i197 | (have a7 := i197; unfold In at a7)); have a8 := t_add e197 i92 (in_c 1 rfl) rfl; (first | have a9 := in_u ((in_c 1 rfl)) | (have a9 := (in_c 1 rfl); unfold In at a9)); (first | have a10 := in_u j87_3 | (have a10 := j87_3; unfold In at a10)); have a11 := tx_i2l e137; (first | have a12 := in_u i136 | (have a12 := i136; unfold In at a12)); have oc := oc_357_109; omega) (by (first | have a0 := in_u j87_2 | (have a0 := j87_2; unfold In at a0)); (first | have a1 := in_u j87_1 | (have a1 := j87_1; unfold In at a1)); (first | have a2 := in_u ro_109_20 | (have a2 := ro_109_20; unfold In at a2)); (first | have a3 := in_u ro_109_19 | (have a3 := ro_109_19; unfold In at a3)); (first | have a4 := in_u i92 | (have a4 := i92; unfold In at a4)); (first | have a5 := in_u i101 | (have a5 := i101; unfold In at a5)); have a6 := t_add e101 ro_109_19 i92 rfl; (first | have a7 := in_u i197 | (have a7 := i197; unfold In at a7)); have a8 := t_add e197 i92 (in_c 1 rfl) rfl; (first | have a9 := in_u ((in_c 1 rfl)) | (have a9 := (in_c 1 rfl); unfold In at a9)); (first | have a10 := in_u j87_3 | (have a10 := j87_3; unfold In at a10)); have a11 := tx_i2l e137; (first | have a12 := in_u i136 | (have a12 := i136; unfold In at a12)); have oc := oc_357_109; omega)), if_pos (by rw [← hFc87.1 115 rfl, ← e126]; have h := c127; omega), ← hFc87.1 116 rfl, ← e136]; exact tx_i2l e137))
              have n87a : SB (200000000 + 2000000 * (z197).toInt) s ((sL (sL (sL sc87 147 y87_4.toNatClampNeg z137) 150 z163.toNatClampNeg z173) 150 z185.toNatClampNeg z195).2.1 150) := by (rw [show ((sL (sL (sL sc87 147 y87_4.toNatClampNeg z137) 150 z163.toNatClampNeg z173) 150 z185.toNatClampNeg z195)).2.1 150 = vp_updL (vp_updL (sc87.2.1 150) z163.toNatClampNeg z173) z185.toNatClampNeg z195 from (by simp [sL]), show ((200000000 + 2000000 * (z197).toInt : Int)) = 200000000 + 2000000 * (y87_4).toInt + 2000000 from (by (first | have a0 := in_u j87_2 | (have a0 := j87_2; unfold In at a0)); (first | have a1 := in_u j87_1 | (have a1 := j87_1; unfold In at a1)); (first | have a2 := in_u ro_109_20 | (have a2 := ro_109_20; unfold In at a2)); (first | have a3 := in_u ro_109_19 | (have a3 := ro_109_19; unfold In at a3)); (first | have a4 := in_u i92 | (have a4 := i92; unfold In at a4)); (first | have a5 := in_u i101 | (have a5 := i101; unfold In at a5)); have a6 := t_add e101 ro_109_19 i92 rfl; (first | have a7 := in_u i197 | (have a7 := i197; unfold In at a7)); have a8 := t_add e197 i92 (in_c 1 rfl) rfl; (first | have a9 := in_u ((in_c 1 rfl)) | (have a9 := (in_c 1 rfl); unfold In at a9)); (first | have a10 := in_u j87_3 | (have a10 := j87_3; unfold In at a10)); have a11 := tx_i2l e137; (first | have a12 := in_u i136 | (have a12 := i136; unfold In at a12)); have oc := oc_357_109; omega)]; exact sb_2 (w := z137) g87_1 (by (first | have a0 := in_u j87_2 | (have a0 := j87_2; unfold In at a0)); (first | have a1 := in_u j87_1 | (have a1 := j87_1; unfold In at a1)); (first | have a2 := in_u ro_109_20 | (have a2 := ro_109_20; unfold In at a2)); (first | have a3 := in_u ro_109_19 | (have a3 := ro_109_19; unfold In at a3)); (first | have a4 := in_u i92 | (have a4 := i92; unfold In at a4)); (first | have a5 := in_u i101 | (have a5 := i101; unfold In at a5)); have a6 := t_add e101 ro_109_19 i92 rfl; (first | have a7 := in_u i197 | (have a7 := i197; unfold In at a7)); have a8 := t_add e197 i92 (in_c 1 rfl) rfl; (first | have a9 := in_u ((in_c 1 rfl)) | (have a9 := (in_c 1 rfl); unfold In at a9)); (first | have a10 := in_u j87_3 | (have a10 := j87_3; unfold In at a10)); have a11 := tx_i2l e137; (first | have a12 := in_u i136 | (have a12 := i136; unfold In at a12)); have oc := oc_357_109; omega) (by (first | have a0 := in_u j87_2 | (have a0 := j87_2; unfold In at a0)); (first | have a1 := in_u j87_1 | (have a1 := j87_1; unfold In at a1)); (first | have a2 := in_u ro_109_20 | (have a2 := ro_109_20; unfold In at a2)); (first | have a3 := in_u ro_109_19 | (have a3 := ro_109_19; unfold In at a3)); (first | have a4 := in_u i92 | (have a4 := i92; unfold In at a4)); (first | have a5 := in_u i101 | (have a5 := i101; unfold In at a5)); have a6 := t_add e101 ro_109_19 i92 rfl; (first | have a7 := in_u i197 | (have a7 := i197; unfold In at a7)); have a8 := t_add e197 i92 (in_c 1 rfl) rfl; (first | have a9 := in_u ((in_c 1 rfl)) | (have a9 := (in_c 1 rfl); unfold In at a9)); (first | have a10 := in_u j87_3 | (have a10 := j87_3; unfold In at a10)); have a11 := tx_i2l e137; (first | have a12 := in_u i136 | (have a12 := i136; unfold In at a12)); have oc := oc_357_109; omega) ⟨by have h := i137.1; omega, by have h := i137.2; omega⟩ (by rw [e165]; simp [sL]) e173 (by rw [e172]; simp [sL, vp_updL]) (by rw [e187]; simp [sL]) e195 (by rw [e194]; simp [sL, vp_updL]))
              have n87b : ZBP s (sL (sL (sL sc87 147 y87_4.toNatClampNeg z137) 150 z163.toNatClampNeg z173) 150 z185.toNatClampNeg z195) (x1).toNatClampNeg (x2).toNatClampNeg (x3).toInt (z197).toNatClampNeg := by rw [show z197.toNatClampNeg = y87_4.toNatClampNeg + 1 from (by show z197.toInt.toNat = y87_4.toInt.toNat + 1; (first | have a0 := in_u j87_2 | (have a0 := j87_2; unfold In at a0)); (first | have a1 := in_u j87_1 | (have a1 := j87_1; unfold In at a1)); (first | have a2 := in_u ro_109_20 | (have a2 := ro_109_20; unfold In at a2)); (first | have a3 := in_u ro_109_19 | (have a3 := ro_109_19; unfold In at a3)); (first | have a4 := in_u i92 | (have a4 := i92; unfold In at a4)); (first | have a5 := in_u i101 | (have a5 := i101; unfold In at a5)); have a6 := t_add e101 ro_109_19 i92 rfl; (first | have a7 := in_u i197 | (have a7 := i197; unfold In at a7)); have a8 := t_add e197 i92 (in_c 1 rfl) rfl; (first | have a9 := in_u ((in_c 1 rfl)) | (have a9 := (in_c 1 rfl); unfold In at a9)); (first | have a10 := in_u j87_3 | (have a10 := j87_3; unfold In at a10)); have a11 := tx_i2l e137; (first | have a12 := in_u i136 | (have a12 := i136; unfold In at a12)); have oc := oc_357_109; omega)]; have n9 := arc_n hI (show (y87_4).toNatClampNeg < 160 from (by show (y87_4).toInt.toNat < 160; (first | have a0 := in_u j87_2 | (have a0 := j87_2; unfold In at a0)); (first | have a1 := in_u j87_1 | (have a1 := j87_1; unfold In at a1)); (first | have a2 := in_u ro_109_20 | (have a2 := ro_109_20; unfold In at a2)); (first | have a3 := in_u ro_109_19 | (have a3 := ro_109_19; unfold In at a3)); (first | have a4 := in_u i92 | (have a4 := i92; unfold In at a4)); (first | have a5 := in_u i101 | (have a5 := i101; unfold In at a5)); have a6 := t_add e101 ro_109_19 i92 rfl; (first | have a7 := in_u i197 | (have a7 := i197; unfold In at a7)); have a8 := t_add e197 i92 (in_c 1 rfl) rfl; (first | have a9 := in_u ((in_c 1 rfl)) | (have a9 := (in_c 1 rfl); unfold In at a9)); (first | have a10 := in_u j87_3 | (have a10 := j87_3; unfold In at a10)); have a11 := tx_i2l e137; (first | have a12 := in_u i136 | (have a12 := i136; unfold In at a12)); have oc := oc_357_109; omega)) (show (s.1 112 (bs s + (y87_4).toNatClampNeg)).toInt ≠ 0 from (by rw [(bs_x (x := z101) (a := y87_4) e_109_19 (by (first | have a0 := in_u j87_2 | (have a0 := j87_2; unfold In at a0)); (first | have a1 := in_u j87_1 | (have a1 := j87_1; unfold In at a1)); (first | have a2 := in_u ro_109_20 | (have a2 := ro_109_20; unfold In at a2)); (first | have a3 := in_u ro_109_19 | (have a3 := ro_109_19; unfold In at a3)); (first | have a4 := in_u i92 | (have a4 := i92; unfold In at a4)); (first | have a5 := in_u i101 | (have a5 := i101; unfold In at a5)); have a6 := t_add e101 ro_109_19 i92 rfl; (first | have a7 := in_u i197 | (have a7 := i197; unfold In at a7)); have a8 := t_add e197 i92 (in_c 1 rfl) rfl; (first | have a9 := in_u ((in_c 1 rfl)) | (have a9 := (in_c 1 rfl); unfold In at a9)); (first | have a10 := in_u j87_3 | (have a10 := j87_3; unfold In at a10)); have a11 := tx_i2l e137; (first | have a12 := in_u i136 | (have a12 := i136; unfold In at a12)); have oc := oc_357_109; omega) (by (first | have a0 := in_u j87_2 | (have a0 := j87_2; unfold In at a0)); (first | have a1 := in_u j87_1 | (have a1 := j87_1; unfold In at a1)); (first | have a2 := in_u ro_109_20 | (have a2 := ro_109_20; unfold In at a2)); (first | have a3 := in_u ro_109_19 | (have a3 := ro_109_19; unfold In at a3)); (first | have a4 := in_u i92 | (have a4 := i92; unfold In at a4)); (first | have a5 := in_u i101 | (have a5 := i101; unfold In at a5)); have a6 := t_add e101 ro_109_19 i92 rfl; (first | have a7 := in_u i197 | (have a7 := i197; unfold In at a7)); have a8 := t_add e197 i92 (in_c 1 rfl) rfl; (first | have a9 := in_u ((in_c 1 rfl)) | (have a9 := (in_c 1 rfl); unfold In at a9)); (first | have a10 := in_u j87_3 | (have a10 := j87_3; unfold In at a10)); have a11 := tx_i2l e137; (first | have a12 := in_u i136 | (have a12 := i136; unfold In at a12)); have oc := oc_357_109; omega) (by (first | have a0 := in_u j87_2 | (have a0 := j87_2; unfold In at a0)); (first | have a1 := in_u j87_1 | (have a1 := j87_1; unfold In at a1)); (first | have a2 := in_u ro_109_20 | (have a2 := ro_109_20; unfold In at a2)); (first | have a3 := in_u ro_109_19 | (have a3 := ro_109_19; unfold In at a3)); (first | have a4 := in_u i92 | (have a4 := i92; unfold In at a4)); (first | have a5 := in_u i101 | (have a5 := i101; unfold In at a5)); have a6 := t_add e101 ro_109_19 i92 rfl; (first | have a7 := in_u i197 | (have a7 := i197; unfold In at a7)); have a8 := t_add e197 i92 (in_c 1 rfl) rfl; (first | have a9 := in_u ((in_c 1 rfl)) | (have a9 := (in_c 1 rfl); unfold In at a9)); (first | have a10 := in_u j87_3 | (have a10 := j87_3; unfold In at a10)); have a11 := tx_i2l e137; (first | have a12 := in_u i136 | (have a12 := i136; unfold In at a12)); have oc := oc_357_109; omega)), ← hFc87.1 112 rfl, ← e116]; exact c117)); have m1 := nat_in n9.1.1 n9.1.2; have m2 := nat_in n9.2.1.1 n9.2.1.2; exact zbp_y (w := z137) g87_2 g87_1 ⟨by (first | have a0 := in_u j87_2 | (have a0 := j87_2; unfold In at a0)); (first | have a1 := in_u j87_1 | (have a1 := j87_1; unfold In at a1)); (first | have a2 := in_u ro_109_20 | (have a2 := ro_109_20; unfold In at a2)); (first | have a3 := in_u ro_109_19 | (have a3 := ro_109_19; unfold In at a3)); (first | have a4 := in_u i92 | (have a4 := i92; unfold In at a4)); (first | have a5 := in_u i101 | (have a5 := i101; unfold In at a5)); have a6 := t_add e101 ro_109_19 i92 rfl; (first | have a7 := in_u i197 | (have a7 := i197; unfold In at a7)); have a8 := t_add e197 i92 (in_c 1 rfl) rfl; (first | have a9 := in_u ((in_c 1 rfl)) | (have a9 := (in_c 1 rfl); unfold In at a9)); (first | have a10 := in_u j87_3 | (have a10 := j87_3; unfold In at a10)); have a11 := tx_i2l e137; (first | have a12 := in_u i136 | (have a12 := i136; unfold In at a12)); have oc := oc_357_109; omega, by (first | have a0 := in_u j87_2 | (have a0 := j87_2; unfold In at a0)); (first | have a1 := in_u j87_1 | (have a1 := j87_1; unfold In at a1)); (first | have a2 := in_u ro_109_20 | (have a2 := ro_109_20; unfold In at a2)); (first | have a3 := in_u ro_109_19 | (have a3 := ro_109_19; unfold In at a3)); (first | have a4 := in_u i92 | (have a4 := i92; unfold In at a4)); (first | have a5 := in_u i101 | (have a5 := i101; unfold In at a5)); have a6 := t_add e101 ro_109_19 i92 rfl; (first | have a7 := in_u i197 | (have a7 := i197; unfold In at a7)); have a8 := t_add e197 i92 (in_c 1 rfl) rfl; (first | have a9 := in_u ((in_c 1 rfl)) | (have a9 := (in_c 1 rfl); unfold In at a9)); (first | have a10 := in_u j87_3 | (have a10 := j87_3; unfold In at a10)); have a11 := tx_i2l e137; (first | have a12 := in_u i136 | (have a12 := i136; unfold In at a12)); have oc := oc_357_109; omega⟩ (show (s.1 112 (bs s + (y87_4).toNatClampNeg)).toInt ≠ 0 from (by rw [(bs_x (x := z101) (a := y87_4) e_109_19 (by (first | have a0 := in_u j87_2 | (have a0 := j87_2; unfold In at a0)); (first | have a1 := in_u j87_1 | (have a1 := j87_1; unfold In at a1)); (first | have a2 := in_u ro_109_20 | (have a2 := ro_109_20; unfold In at a2)); (first | have a3 := in_u ro_109_19 | (have a3 := ro_109_19; unfold In at a3)); (first | have a4 := in_u i92 | (have a4 := i92; unfold In at a4)); (first | have a5 := in_u i101 | (have a5 := i101; unfold In at a5)); have a6 := t_add e101 ro_109_19 i92 rfl; (first | have a7 := in_u i197 | (have a7 := i197; unfold In at a7)); have a8 := t_add e197 i92 (in_c 1 rfl) rfl; (first | have a9 := in_u ((in_c 1 rfl)) | (have a9 := (in_c 1 rfl); unfold In at a9)); (first | have a10 := in_u j87_3 | (have a10 := j87_3; unfold In at a10)); have a11 := tx_i2l e137; (first | have a12 := in_u i136 | (have a12 := i136; unfold In at a12)); have oc := oc_357_109; omega) (by (first | have a0 := in_u j87_2 | (have a0 := j87_2; unfold In at a0)); (first | have a1 := in_u j87_1 | (have a1 := j87_1; unfold In at a1)); (first | have a2 := in_u ro_109_20 | (have a2 := ro_109_20; unfold In at a2)); (first | have a3 := in_u ro_109_19 | (have a3 := ro_109_19; unfold In at a3)); (first | have a4 := in_u i92 | (have a4 := i92; unfold In at a4)); (first | have a5 := in_u i101 | (have a5 := i101; unfold In at a5)); have a6 := t_add e101 ro_109_19 i92 rfl; (first | have a7 := in_u i197 | (have a7 := i197; unfold In at a7)); have a8 := t_add e197 i92 (in_c 1 rfl) rfl; (first | have a9 := in_u ((in_c 1 rfl)) | (have a9 := (in_c 1 rfl); unfold In at a9)); (first | have a10 := in_u j87_3 | (have a10 := j87_3; unfold In at a10)); have a11 := tx_i2l e137; (first | have a12 := in_u i136 | (have a12 := i136; unfold In at a12)); have oc := oc_357_109; omega) (by (first | have a0 := in_u j87_2 | (have a0 := j87_2; unfold In at a0)); (first | have a1 := in_u j87_1 | (have a1 := j87_1; unfold In at a1)); (first | have a2 := in_u ro_109_20 | (have a2 := ro_109_20; unfold In at a2)); (first | have a3 := in_u ro_109_19 | (have a3 := ro_109_19; unfold In at a3)); (first | have a4 := in_u i92 | (have a4 := i92; unfold In at a4)); (first | have a5 := in_u i101 | (have a5 := i101; unfold In at a5)); have a6 := t_add e101 ro_109_19 i92 rfl; (first | have a7 := in_u i197 | (have a7 := i197; unfold In at a7)); have a8 := t_add e197 i92 (in_c 1 rfl) rfl; (first | have a9 := in_u ((in_c 1 rfl)) | (have a9 := (in_c 1 rfl); unfold In at a9)); (first | have a10 := in_u j87_3 | (have a10 := j87_3; unfold In at a10)); have a11 := tx_i2l e137; (first | have a12 := in_u i136 | (have a12 := i136; unfold In at a12)); have oc := oc_357_109; omega)), ← hFc87.1 112 rfl, ← e116]; exact c117)) m1.1 m2.1 m1.2 m2.2 ⟨by have h := i137.1; omega, by have h := i137.2; omega⟩ (by simp [sL]) (by rw [(show ztl s (y87_4).toNatClampNeg = z163.toNatClampNeg from (by unfold ztl; rw [(bs_x (x := z101) (a := y87_4) e_109_19 (by (first | have a0 := in_u j87_2 | (have a0 := j87_2; unfold In at a0)); (first | have a1 := in_u j87_1 | (have a1 := j87_1; unfold In at a1)); (first | have a2 := in_u ro_109_20 | (have a2 := ro_109_20; unfold In at a2)); (first | have a3 := in_u ro_109_19 | (have a3 := ro_109_19; unfold In at a3)); (first | have a4 := in_u i92 | (have a4 := i92; unfold In at a4)); (first | have a5 := in_u i101 | (have a5 := i101; unfold In at a5)); have a6 := t_add e101 ro_109_19 i92 rfl; (first | have a7 := in_u i197 | (have a7 := i197; unfold In at a7)); have a8 := t_add e197 i92 (in_c 1 rfl) rfl; (first | have a9 := in_u ((in_c 1 rfl)) | (have a9 := (in_c 1 rfl); unfold In at a9)); (first | have a10 := in_u j87_3 | (have a10 := j87_3; unfold In at a10)); have a11 := tx_i2l e137; (first | have a12 := in_u i136 | (have a12 := i136; unfold In at a12)); have oc := oc_357_109; omega) (by (first | have a0 := in_u j87_2 | (have a0 := j87_2; unfold In at a0)); (first | have a1 := in_u j87_1 | (have a1 := j87_1; unfold In at a1)); (first | have a2 := in_u ro_109_20 | (have a2 := ro_109_20; unfold In at a2)); (first | have a3 := in_u ro_109_19 | (have a3 := ro_109_19; unfold In at a3)); (first | have a4 := in_u i92 | (have a4 := i92; unfold In at a4)); (first | have a5 := in_u i101 | (have a5 := i101; unfold In at a5)); have a6 := t_add e101 ro_109_19 i92 rfl; (first | have a7 := in_u i197 | (have a7 := i197; unfold In at a7)); have a8 := t_add e197 i92 (in_c 1 rfl) rfl; (first | have a9 := in_u ((in_c 1 rfl)) | (have a9 := (in_c 1 rfl); unfold In at a9)); (first | have a10 := in_u j87_3 | (have a10 := j87_3; unfold In at a10)); have a11 := tx_i2l e137; (first | have a12 := in_u i136 | (have a12 := i136; unfold In at a12)); have oc := oc_357_109; omega) (by (first | have a0 := in_u j87_2 | (have a0 := j87_2; unfold In at a0)); (first | have a1 := in_u j87_1 | (have a1 := j87_1; unfold In at a1)); (first | have a2 := in_u ro_109_20 | (have a2 := ro_109_20; unfold In at a2)); (first | have a3 := in_u ro_109_19 | (have a3 := ro_109_19; unfold In at a3)); (first | have a4 := in_u i92 | (have a4 := i92; unfold In at a4)); (first | have a5 := in_u i101 | (have a5 := i101; unfold In at a5)); have a6 := t_add e101 ro_109_19 i92 rfl; (first | have a7 := in_u i197 | (have a7 := i197; unfold In at a7)); have a8 := t_add e197 i92 (in_c 1 rfl) rfl; (first | have a9 := in_u ((in_c 1 rfl)) | (have a9 := (in_c 1 rfl); unfold In at a9)); (first | have a10 := in_u j87_3 | (have a10 := j87_3; unfold In at a10)); have a11 := tx_i2l e137; (first | have a12 := in_u i136 | (have a12 := i136; unfold In at a12)); have oc := oc_357_109; omega)), ← hFc87.1 113 rfl]; exact congrArg Int32.toNatClampNeg e163.symm)), e165]; simp [sL]) (by rw [e172]; simp [sL, vp_updL]) e173 (by rw [(show ztl s (y87_4).toNatClampNeg = z163.toNatClampNeg from (by unfold ztl; rw [(bs_x (x := z101) (a := y87_4) e_109_19 (by (first | have a0 := in_u j87_2 | (have a0 := j87_2; unfold In at a0)); (first | have a1 := in_u j87_1 | (have a1 := j87_1; unfold In at a1)); (first | have a2 := in_u ro_109_20 | (have a2 := ro_109_20; unfold In at a2)); (first | have a3 := in_u ro_109_19 | (have a3 := ro_109_19; unfold In at a3)); (first | have a4 := in_u i92 | (have a4 := i92; unfold In at a4)); (first | have a5 := in_u i101 | (have a5 := i101; unfold In at a5)); have a6 := t_add e101 ro_109_19 i92 rfl; (first | have a7 := in_u i197 | (have a7 := i197; unfold In at a7)); have a8 := t_add e197 i92 (in_c 1 rfl) rfl; (first | have a9 := in_u ((in_c 1 rfl)) | (have a9 := (in_c 1 rfl); unfold In at a9)); (first | have a10 := in_u j87_3 | (have a10 := j87_3; unfold In at a10)); have a11 := tx_i2l e137; (first | have a12 := in_u i136 | (have a12 := i136; unfold In at a12)); have oc := oc_357_109; omega) (by (first | have a0 := in_u j87_2 | (have a0 := j87_2; unfold In at a0)); (first | have a1 := in_u j87_1 | (have a1 := j87_1; unfold In at a1)); (first | have a2 := in_u ro_109_20 | (have a2 := ro_109_20; unfold In at a2)); (first | have a3 := in_u ro_109_19 | (have a3 := ro_109_19; unfold In at a3)); (first | have a4 := in_u i92 | (have a4 := i92; unfold In at a4)); (first | have a5 := in_u i101 | (have a5 := i101; unfold In at a5)); have a6 := t_add e101 ro_109_19 i92 rfl; (first | have a7 := in_u i197 | (have a7 := i197; unfold In at a7)); have a8 := t_add e197 i92 (in_c 1 rfl) rfl; (first | have a9 := in_u ((in_c 1 rfl)) | (have a9 := (in_c 1 rfl); unfold In at a9)); (first | have a10 := in_u j87_3 | (have a10 := j87_3; unfold In at a10)); have a11 := tx_i2l e137; (first | have a12 := in_u i136 | (have a12 := i136; unfold In at a12)); have oc := oc_357_109; omega) (by (first | have a0 := in_u j87_2 | (have a0 := j87_2; unfold In at a0)); (first | have a1 := in_u j87_1 | (have a1 := j87_1; unfold In at a1)); (first | have a2 := in_u ro_109_20 | (have a2 := ro_109_20; unfold In at a2)); (first | have a3 := in_u ro_109_19 | (have a3 := ro_109_19; unfold In at a3)); (first | have a4 := in_u i92 | (have a4 := i92; unfold In at a4)); (first | have a5 := in_u i101 | (have a5 := i101; unfold In at a5)); have a6 := t_add e101 ro_109_19 i92 rfl; (first | have a7 := in_u i197 | (have a7 := i197; unfold In at a7)); have a8 := t_add e197 i92 (in_c 1 rfl) rfl; (first | have a9 := in_u ((in_c 1 rfl)) | (have a9 := (in_c 1 rfl); unfold In at a9)); (first | have a10 := in_u j87_3 | (have a10 := j87_3; unfold In at a10)); have a11 := tx_i2l e137; (first | have a12 := in_u i136 | (have a12 := i136; unfold In at a12)); have oc := oc_357_109; omega)), ← hFc87.1 113 rfl]; exact congrArg Int32.toNatClampNeg e163.symm)), (show zhd s (y87_4).toNatClampNeg = z185.toNatClampNeg from (by unfold zhd; rw [(bs_x (x := z101) (a := y87_4) e_109_19 (by (first | have a0 := in_u j87_2 | (have a0 := j87_2; unfold In at a0)); (first | have a1 := in_u j87_1 | (have a1 := j87_1; unfold In at a1)); (first | have a2 := in_u ro_109_20 | (have a2 := ro_109_20; unfold In at a2)); (first | have a3 := in_u ro_109_19 | (have a3 := ro_109_19; unfold In at a3)); (first | have a4 := in_u i92 | (have a4 := i92; unfold In at a4)); (first | have a5 := in_u i101 | (have a5 := i101; unfold In at a5)); have a6 := t_add e101 ro_109_19 i92 rfl; (first | have a7 := in_u i197 | (have a7 := i197; unfold In at a7)); have a8 := t_add e197 i92 (in_c 1 rfl) rfl; (first | have a9 := in_u ((in_c 1 rfl)) | (have a9 := (in_c 1 rfl); unfold In at a9)); (first | have a10 := in_u j87_3 | (have a10 := j87_3; unfold In at a10)); have a11 := tx_i2l e137; (first | have a12 := in_u i136 | (have a12 := i136; unfold In at a12)); have oc := oc_357_109; omega) (by (first | have a0 := in_u j87_2 | (have a0 := j87_2; unfold In at a0)); (first | have a1 := in_u j87_1 | (have a1 := j87_1; unfold In at a1)); (first | have a2 := in_u ro_109_20 | (have a2 := ro_109_20; unfold In at a2)); (first | have a3 := in_u ro_109_19 | (have a3 := ro_109_19; unfold In at a3)); (first | have a4 := in_u i92 | (have a4 := i92; unfold In at a4)); (first | have a5 := in_u i101 | (have a5 := i101; unfold In at a5)); have a6 := t_add e101 ro_109_19 i92 rfl; (first | have a7 := in_u i197 | (have a7 := i197; unfold In at a7)); have a8 := t_add e197 i92 (in_c 1 rfl) rfl; (first | have a9 := in_u ((in_c 1 rfl)) | (have a9 := (in_c 1 rfl); unfold In at a9)); (first | have a10 := in_u j87_3 | (have a10 := j87_3; unfold In at a10)); have a11 := tx_i2l e137; (first | have a12 := in_u i136 | (have a12 := i136; unfold In at a12)); have oc := oc_357_109; omega) (by (first | have a0 := in_u j87_2 | (have a0 := j87_2; unfold In at a0)); (first | have a1 := in_u j87_1 | (have a1 := j87_1; unfold In at a1)); (first | have a2 := in_u ro_109_20 | (have a2 := ro_109_20; unfold In at a2)); (first | have a3 := in_u ro_109_19 | (have a3 := ro_109_19; unfold In at a3)); (first | have a4 := in_u i92 | (have a4 := i92; unfold In at a4)); (first | have a5 := in_u i101 | (have a5 := i101; unfold In at a5)); have a6 := t_add e101 ro_109_19 i92 rfl; (first | have a7 := in_u i197 | (have a7 := i197; unfold In at a7)); have a8 := t_add e197 i92 (in_c 1 rfl) rfl; (first | have a9 := in_u ((in_c 1 rfl)) | (have a9 := (in_c 1 rfl); unfold In at a9)); (first | have a10 := in_u j87_3 | (have a10 := j87_3; unfold In at a10)); have a11 := tx_i2l e137; (first | have a12 := in_u i136 | (have a12 := i136; unfold In at a12)); have oc := oc_357_109; omega)), ← hFc87.1 114 rfl]; exact congrArg Int32.toNatClampNeg e185.symm)), e187]; simp [sL]) (by rw [e194]; simp [sL, vp_updL]) e195 (by rw [(show ztl s (y87_4).toNatClampNeg = z163.toNatClampNeg from (by unfold ztl; rw [(bs_x (x := z101) (a := y87_4) e_109_19 (by (first | have a0 := in_u j87_2 | (have a0 := j87_2; unfold In at a0)); (first | have a1 := in_u j87_1 | (have a1 := j87_1; unfold In at a1)); (first | have a2 := in_u ro_109_20 | (have a2 := ro_109_20; unfold In at a2)); (first | have a3 := in_u ro_109_19 | (have a3 := ro_109_19; unfold In at a3)); (first | have a4 := in_u i92 | (have a4 := i92; unfold In at a4)); (first | have a5 := in_u i101 | (have a5 := i101; unfold In at a5)); have a6 := t_add e101 ro_109_19 i92 rfl; (first | have a7 := in_u i197 | (have a7 := i197; unfold In at a7)); have a8 := t_add e197 i92 (in_c 1 rfl) rfl; (first | have a9 := in_u ((in_c 1 rfl)) | (have a9 := (in_c 1 rfl); unfold In at a9)); (first | have a10 := in_u j87_3 | (have a10 := j87_3; unfold In at a10)); have a11 := tx_i2l e137; (first | have a12 := in_u i136 | (have a12 := i136; unfold In at a12)); have oc := oc_357_109; omega) (by (first | have a0 := in_u j87_2 | (have a0 := j87_2; unfold In at a0)); (first | have a1 := in_u j87_1 | (have a1 := j87_1; unfold In at a1)); (first | have a2 := in_u ro_109_20 | (have a2 := ro_109_20; unfold In at a2)); (first | have a3 := in_u ro_109_19 | (have a3 := ro_109_19; unfold In at a3)); (first | have a4 := in_u i92 | (have a4 := i92; unfold In at a4)); (first | have a5 := in_u i101 | (have a5 := i101; unfold In at a5)); have a6 := t_add e101 ro_109_19 i92 rfl; (first | have a7 := in_u i197 | (have a7 := i197; unfold In at a7)); have a8 := t_add e197 i92 (in_c 1 rfl) rfl; (first | have a9 := in_u ((in_c 1 rfl)) | (have a9 := (in_c 1 rfl); unfold In at a9)); (first | have a10 := in_u j87_3 | (have a10 := j87_3; unfold In at a10)); have a11 := tx_i2l e137; (first | have a12 := in_u i136 | (have a12 := i136; unfold In at a12)); have oc := oc_357_109; omega) (by (first | have a0 := in_u j87_2 | (have a0 := j87_2; unfold In at a0)); (first | have a1 := in_u j87_1 | (have a1 := j87_1; unfold In at a1)); (first | have a2 := in_u ro_109_20 | (have a2 := ro_109_20; unfold In at a2)); (first | have a3 := in_u ro_109_19 | (have a3 := ro_109_19; unfold In at a3)); (first | have a4 := in_u i92 | (have a4 := i92; unfold In at a4)); (first | have a5 := in_u i101 | (have a5 := i101; unfold In at a5)); have a6 := t_add e101 ro_109_19 i92 rfl; (first | have a7 := in_u i197 | (have a7 := i197; unfold In at a7)); have a8 := t_add e197 i92 (in_c 1 rfl) rfl; (first | have a9 := in_u ((in_c 1 rfl)) | (have a9 := (in_c 1 rfl); unfold In at a9)); (first | have a10 := in_u j87_3 | (have a10 := j87_3; unfold In at a10)); have a11 := tx_i2l e137; (first | have a12 := in_u i136 | (have a12 := i136; unfold In at a12)); have oc := oc_357_109; omega)), ← hFc87.1 113 rfl]; exact congrArg Int32.toNatClampNeg e163.symm)), (show zhd s (y87_4).toNatClampNeg = z185.toNatClampNeg from (by unfold zhd; rw [(bs_x (x := z101) (a := y87_4) e_109_19 (by (first | have a0 := in_u j87_2 | (have a0 := j87_2; unfold In at a0)); (first | have a1 := in_u j87_1 | (have a1 := j87_1; unfold In at a1)); (first | have a2 := in_u ro_109_20 | (have a2 := ro_109_20; unfold In at a2)); (first | have a3 := in_u ro_109_19 | (have a3 := ro_109_19; unfold In at a3)); (first | have a4 := in_u i92 | (have a4 := i92; unfold In at a4)); (first | have a5 := in_u i101 | (have a5 := i101; unfold In at a5)); have a6 := t_add e101 ro_109_19 i92 rfl; (first | have a7 := in_u i197 | (have a7 := i197; unfold In at a7)); have a8 := t_add e197 i92 (in_c 1 rfl) rfl; (first | have a9 := in_u ((in_c 1 rfl)) | (have a9 := (in_c 1 rfl); unfold In at a9)); (first | have a10 := in_u j87_3 | (have a10 := j87_3; unfold In at a10)); have a11 := tx_i2l e137; (first | have a12 := in_u i136 | (have a12 := i136; unfold In at a12)); have oc := oc_357_109; omega) (by (first | have a0 := in_u j87_2 | (have a0 := j87_2; unfold In at a0)); (first | have a1 := in_u j87_1 | (have a1 := j87_1; unfold In at a1)); (first | have a2 := in_u ro_109_20 | (have a2 := ro_109_20; unfold In at a2)); (first | have a3 := in_u ro_109_19 | (have a3 := ro_109_19; unfold In at a3)); (first | have a4 := in_u i92 | (have a4 := i92; unfold In at a4)); (first | have a5 := in_u i101 | (have a5 := i101; unfold In at a5)); have a6 := t_add e101 ro_109_19 i92 rfl; (first | have a7 := in_u i197 | (have a7 := i197; unfold In at a7)); have a8 := t_add e197 i92 (in_c 1 rfl) rfl; (first | have a9 := in_u ((in_c 1 rfl)) | (have a9 := (in_c 1 rfl); unfold In at a9)); (first | have a10 := in_u j87_3 | (have a10 := j87_3; unfold In at a10)); have a11 := tx_i2l e137; (first | have a12 := in_u i136 | (have a12 := i136; unfold In at a12)); have oc := oc_357_109; omega) (by (first | have a0 := in_u j87_2 | (have a0 := j87_2; unfold In at a0)); (first | have a1 := in_u j87_1 | (have a1 := j87_1; unfold In at a1)); (first | have a2 := in_u ro_109_20 | (have a2 := ro_109_20; unfold In at a2)); (first | have a3 := in_u ro_109_19 | (have a3 := ro_109_19; unfold In at a3)); (first | have a4 := in_u i92 | (have a4 := i92; unfold In at a4)); (first | have a5 := in_u i101 | (have a5 := i101; unfold In at a5)); have a6 := t_add e101 ro_109_19 i92 rfl; (first | have a7 := in_u i197 | (have a7 := i197; unfold In at a7)); have a8 := t_add e197 i92 (in_c 1 rfl) rfl; (first | have a9 := in_u ((in_c 1 rfl)) | (have a9 := (in_c 1 rfl); unfold In at a9)); (first | have a10 := in_u j87_3 | (have a10 := j87_3; unfold In at a10)); have a11 := tx_i2l e137; (first | have a12 := in_u i136 | (have a12 := i136; unfold In at a12)); have oc := oc_357_109; omega)), ← hFc87.1 114 rfl]; exact congrArg Int32.toNatClampNeg e185.symm))]; simp [sL])
              have n87c : (((sL (sL (sL sc87 147 y87_4.toNatClampNeg z137) 150 z163.toNatClampNeg z173) 150 z185.toNatClampNeg z195)).2.2.1 109 0).toInt = 0 := by exact g87_3
              have n87d : (x1).toInt ≠ (x2).toInt ∧ (x1).toInt < (s.2.2.1 109 20).toInt ∧ (x2).toInt < (s.2.2.1 109 20).toInt := by exact g87_4
              exact gg_w (by first | exact Nat.le_add_right _ _ | exact gw2 | exact gw3 | exact gwe rfl | exact gwf rfl | exact gwg rfl | exact gwh rfl | omega) (gg_f (gf_cons rfl (gf_cons rfl (gf_cons rfl (gf_cons rfl (gf_cons rfl gf_nil))))) (ih87 (sL (sL (sL sc87 147 y87_4.toNatClampNeg z137) 150 z163.toNatClampNeg z173) 150 z185.toNatClampNeg z195) z197 hI196 (fr_sL rfl (fr_sL rfl (fr_sL rfl hFc87))) (in_w 0 31 j87_1 rfl) (in_w 0 31 j87_2 rfl) (in_w 0 200000000 j87_3 rfl) (in_w 0 160 i197 rfl) n87 n87a n87b n87c n87d (m_up mm87 (t_add e197 i92 (in_c 1 rfl) rfl) (in_w 1 1 (in_c 1 rfl) rfl))))
  have ct38 : ∀ (k38 : Nat) (sc38 : GS) (y38_4 : Int32), Inv sc38 → Fr fm_357 s sc38 → (In x1 0 31) → (In x2 0 31) → (In x3 0 200000000) → (In y38_4 0 32) → (∀ k : Nat, (k : Int) < (y38_4).toInt → -200000000 ≤ (sc38.2.1 150 k).toInt ∧ (sc38.2.1 150 k).toInt ≤ 200000000) → (ZB0 ((sc38).2.1 150) (x1).toNatClampNeg (x2).toNatClampNeg (x3).toInt (y38_4).toNatClampNeg) → (((sc38).2.2.1 109 0).toInt = 0) → ((x1).toInt ≠ (x2).toInt ∧ (x1).toInt < (s.2.2.1 109 20).toInt ∧ (x2).toInt < (s.2.2.1 109 20).toInt) → 32 - (y38_4).toInt < (k38 : Int) → GG Z (d - 1) 357 post (gx xp) (35640000468037 + k38 * 900) 38 (fun j => xlook j [(0, .ref (A 109)), (1, .int x1), (2, .int x2), (3, .int x3), (4, .int y38_4)]) [] (WW Z A sc38 ++ ex) 0 0 := by
    intro k38
    induction k38 with
    | zero => intro sc38 y38_4 hIc38 hFc38 j38_1 j38_2 j38_3 j38_4 g38_0 g38_1 g38_2 g38_3 mm38; exact m_no mm38 j38_4 rfl
    | succ k38 ih38 =>
      intro sc38 y38_4 hIc38 hFc38 j38_1 j38_2 j38_3 j38_4 g38_0 g38_1 g38_2 g38_3 mm38
      refine gg_w (M := 35640000468037 + k38 * 900 + 900) gws ?_
      refine g_iload 40 (gd rfl) rfl rfl ?_
      refine g_aload_n 41 (gd rfl) rfl rfl ?_
      refine g_getI 44 (gd rfl) rfl rfl rfl (fun z41 e41 => ?_)
      have q41 : u_109_20 = z41 := (fr_F e_109_20 hFc38 rfl).trans e41.symm
      subst q41
      refine g_cmp_ge 47 84 (gd rfl) rfl rfl (fun c44 => ?_) (fun c44 => ?_)
      · skip
        refine g_iconst 0 85 (gd rfl) rfl rfl ?_
        refine g_istore 87 (gd rfl) rfl (Nat.le_of_ble_eq_true rfl) ?_
        have n87 : IFQ s (sc38.2.1 147) ((Int32.ofInt 0)).toNatClampNeg := by exact fun a ha => absurd ha (Nat.not_lt_zero _)
        have n87a : SB (200000000 + 2000000 * ((Int32.ofInt 0)).toInt) s (sc38.2.1 150) := by exact sb_w (B := 200000000) (fun v hv hn => g38_0 v (by rw [← e_109_20] at hn; (first | have a0 := in_u j38_2 | (have a0 := j38_2; unfold In at a0)); (first | have a1 := in_u j38_1 | (have a1 := j38_1; unfold In at a1)); (first | have a2 := in_u ro_109_20 | (have a2 := ro_109_20; unfold In at a2)); (first | have a3 := in_u ro_109_19 | (have a3 := ro_109_19; unfold In at a3)); (first | have a4 := in_u j38_4 | (have a4 := j38_4; unfold In at a4)); (first | have a5 := in_u ((in_c 0 rfl)) | (have a5 := (in_c 0 rfl); unfold In at a5)); (first | have a6 := in_u j38_3 | (have a6 := j38_3; unfold In at a6)); have oc := oc_357_109; omega)) (by have h0 : (Int32.ofInt 0).toInt = 0 := rfl; omega)
        have n87b : ZBP s sc38 (x1).toNatClampNeg (x2).toNatClampNeg (x3).toInt ((Int32.ofInt 0)).toNatClampNeg := by intro v hv hn; rw [g38_1 v (by rw [← e_109_20] at hn; show v < (y38_4).toInt.toNat; (first | have a0 := in_u j38_2 | (have a0 := j38_2; unfold In at a0)); (first | have a1 := in_u j38_1 | (have a1 := j38_1; unfold In at a1)); (first | have a2 := in_u ro_109_20 | (have a2 := ro_109_20; unfold In at a2)); (first | have a3 := in_u ro_109_19 | (have a3 := ro_109_19; unfold In at a3)); (first | have a4 := in_u j38_4 | (have a4 := j38_4; unfold In at a4)); (first | have a5 := in_u ((in_c 0 rfl)) | (have a5 := (in_c 0 rfl); unfold In at a5)); (first | have a6 := in_u j38_3 | (have a6 := j38_3; unfold In at a6)); have oc := oc_357_109; omega)]; exact (Int.add_zero _).symm
        have n87c : ((sc38).2.2.1 109 0).toInt = 0 := by exact g38_2
        have n87d : (x1).toInt ≠ (x2).toInt ∧ (x1).toInt < (s.2.2.1 109 20).toInt ∧ (x2).toInt < (s.2.2.1 109 20).toInt := by exact g38_3
        exact gg_w (by first | exact Nat.le_add_right _ _ | exact gw2 | exact gw3 | exact gwe rfl | exact gwf rfl | exact gwg rfl | exact gwh rfl | omega) (gg_f (gf_cons rfl (gf_cons rfl (gf_cons rfl (gf_cons rfl (gf_cons rfl gf_nil))))) (ct87 161 sc38 (Int32.ofInt 0) hIc38 hFc38 (in_w 0 31 j38_1 rfl) (in_w 0 31 j38_2 rfl) (in_w 0 200000000 j38_3 rfl) (in_w 0 160 (in_c 0 rfl) rfl) n87 n87a n87b n87c n87d (m_in 161 (in_w 0 160 (in_c 0 rfl) rfl) rfl)))
      · skip
        have i44 := r_lt1 0 31 c44 j38_4 ro_109_20 rfl
        have i44a := r_lt2 1 32 c44 j38_4 ro_109_20 rfl
        refine g_aload_n 48 (gd rfl) rfl rfl ?_
        refine g_getA (q2 := 150) 51 (gd rfl) rfl rfl rfl rfl ?_
        refine g_iload 53 (gd rfl) rfl rfl ?_
        refine g_iload 55 (gd rfl) rfl rfl ?_
        refine g_iload_n 56 (gd rfl) rfl rfl ?_
        refine g_cmp_ne 59 64 (gd rfl) rfl rfl (fun c56 => ?_) (fun c56 => ?_)
        · skip
          refine g_iload 66 (gd rfl) rfl rfl ?_
          refine g_iload_n 67 (gd rfl) rfl rfl ?_
          refine g_cmp_ne 70 76 (gd rfl) rfl rfl (fun c67 => ?_) (fun c67 => ?_)
          · skip
            refine g_lconst 0 77 (gd rfl) rfl rfl ?_
            refine g_lastore 78 (gd rfl) rfl (n := 32) rfl (in_ix i44 rfl) ?_
            have hI77 := inv_sL (q := 150) (j := y38_4.toNatClampNeg) (x := (Int64.ofInt 0)) hIc38 rfl (l_rng (Int64.ofInt 0))
            refine g_iinc 81 (gd rfl) rfl rfl (Nat.le_of_ble_eq_true rfl) (fun z78 e78 => ?_)
            have i78 := in_add 1 32 e78 i44 (in_c 1 rfl) rfl rfl
            refine g_goto 38 (gd rfl) rfl ?_
            have n38 : ∀ k : Nat, (k : Int) < (z78).toInt → -200000000 ≤ ((sL sc38 150 y38_4.toNatClampNeg (Int64.ofInt 0)).2.1 150 k).toInt ∧ ((sL sc38 150 y38_4.toNatClampNeg (Int64.ofInt 0)).2.1 150 k).toInt ≤ 200000000 := by (intro k hk; have e4 : y38_4.toNatClampNeg = y38_4.toInt.toNat := rfl; rw [show ((sL sc38 150 y38_4.toNatClampNeg (Int64.ofInt 0))).2.1 150 = vp_updL (sc38.2.1 150) y38_4.toNatClampNeg (Int64.ofInt 0) from (by simp [sL])]; by_cases c : k = y38_4.toNatClampNeg; (rw [c, ul_eq]; exact ⟨by decide, by decide⟩); (rw [ul_ne c]; exact g38_0 k (by (first | have a0 := in_u j38_2 | (have a0 := j38_2; unfold In at a0)); (first | have a1 := in_u j38_1 | (have a1 := j38_1; unfold In at a1)); (first | have a2 := in_u i44a | (have a2 := i44a; unfold In at a2)); (first | have a3 := in_u ro_109_19 | (have a3 := ro_109_19; unfold In at a3)); (first | have a4 := in_u i44 | (have a4 := i44; unfold In at a4)); (first | have a5 := in_u i78 | (have a5 := i78; unfold In at a5)); have a6 := t_add e78 i44 (in_c 1 rfl) rfl; (first | have a7 := in_u ((in_c 1 rfl)) | (have a7 := (in_c 1 rfl); unfold In at a7)); (first | have a8 := in_u j38_3 | (have a8 := j38_3; unfold In at a8)); have oc := oc_357_109; omega)))
            have n38a : ZB0 (((sL sc38 150 y38_4.toNatClampNeg (Int64.ofInt 0))).2.1 150) (x1).toNatClampNeg (x2).toNatClampNeg (x3).toInt (z78).toNatClampNeg := by rw [(show (z78).toNatClampNeg = (y38_4).toNatClampNeg + 1 from (by show (z78).toInt.toNat = (y38_4).toInt.toNat + 1; (first | have a0 := in_u j38_2 | (have a0 := j38_2; unfold In at a0)); (first | have a1 := in_u j38_1 | (have a1 := j38_1; unfold In at a1)); (first | have a2 := in_u i44a | (have a2 := i44a; unfold In at a2)); (first | have a3 := in_u ro_109_19 | (have a3 := ro_109_19; unfold In at a3)); (first | have a4 := in_u i44 | (have a4 := i44; unfold In at a4)); (first | have a5 := in_u i78 | (have a5 := i78; unfold In at a5)); have a6 := t_add e78 i44 (in_c 1 rfl) rfl; (first | have a7 := in_u ((in_c 1 rfl)) | (have a7 := (in_c 1 rfl); unfold In at a7)); (first | have a8 := in_u j38_3 | (have a8 := j38_3; unfold In at a8)); have oc := oc_357_109; omega))]; exact zb0_s g38_1 sL_qn (by rw [dl_n (show (x1).toNatClampNeg ≠ (y38_4).toNatClampNeg from (by show (x1).toInt.toNat ≠ (y38_4).toInt.toNat; have h9 := g38_3.1; (first | have a0 := in_u j38_2 | (have a0 := j38_2; unfold In at a0)); (first | have a1 := in_u j38_1 | (have a1 := j38_1; unfold In at a1)); (first | have a2 := in_u i44a | (have a2 := i44a; unfold In at a2)); (first | have a3 := in_u ro_109_19 | (have a3 := ro_109_19; unfold In at a3)); (first | have a4 := in_u i44 | (have a4 := i44; unfold In at a4)); (first | have a5 := in_u i78 | (have a5 := i78; unfold In at a5)); have a6 := t_add e78 i44 (in_c 1 rfl) rfl; (first | have a7 := in_u ((in_c 1 rfl)) | (have a7 := (in_c 1 rfl); unfold In at a7)); (first | have a8 := in_u j38_3 | (have a8 := j38_3; unfold In at a8)); have oc := oc_357_109; omega)), dl_n (show (x2).toNatClampNeg ≠ (y38_4).toNatClampNeg from (by show (x2).toInt.toNat ≠ (y38_4).toInt.toNat; have h9 := g38_3.1; (first | have a0 := in_u j38_2 | (have a0 := j38_2; unfold In at a0)); (first | have a1 := in_u j38_1 | (have a1 := j38_1; unfold In at a1)); (first | have a2 := in_u i44a | (have a2 := i44a; unfold In at a2)); (first | have a3 := in_u ro_109_19 | (have a3 := ro_109_19; unfold In at a3)); (first | have a4 := in_u i44 | (have a4 := i44; unfold In at a4)); (first | have a5 := in_u i78 | (have a5 := i78; unfold In at a5)); have a6 := t_add e78 i44 (in_c 1 rfl) rfl; (first | have a7 := in_u ((in_c 1 rfl)) | (have a7 := (in_c 1 rfl); unfold In at a7)); (first | have a8 := in_u j38_3 | (have a8 := j38_3; unfold In at a8)); have oc := oc_357_109; omega)), Int.mul_zero]; rfl)
            have n38b : (((sL sc38 150 y38_4.toNatClampNeg (Int64.ofInt 0))).2.2.1 109 0).toInt = 0 := by exact g38_2
            have n38c : (x1).toInt ≠ (x2).toInt ∧ (x1).toInt < (s.2.2.1 109 20).toInt ∧ (x2).toInt < (s.2.2.1 109 20).toInt := by exact g38_3
            exact gg_w (by first | exact Nat.le_add_right _ _ | exact gw2 | exact gw3 | exact gwe rfl | exact gwf rfl | exact gwg rfl | exact gwh rfl | omega) (gg_f (gf_cons rfl (gf_cons rfl (gf_cons rfl (gf_cons rfl (gf_cons rfl gf_nil))))) (ih38 (sL sc38 150 y38_4.toNatClampNeg (Int64.ofInt 0)) z78 hI77 (fr_sL rfl hFc38) (in_w 0 31 j38_1 rfl) (in_w 0 31 j38_2 rfl) (in_w 0 200000000 j38_3 rfl) (in_w 0 32 i78 rfl) n38 n38a n38b n38c (m_up mm38 (t_add e78 i44 (in_c 1 rfl) rfl) (in_w 1 1 (in_c 1 rfl) rfl))))
          · skip
            refine g_iload_n 71 (gd rfl) rfl rfl ?_
            refine g_ineg 72 (gd rfl) rfl (fun z71 e71 => ?_)
            have i71 := in_neg (-200000000) 0 e71 j38_3 rfl
            refine g_i2l 73 (gd rfl) rfl (fun z72 e72 => ?_)
            have i72 := l_i e72 i71
            refine g_goto 77 (gd rfl) rfl ?_
            refine g_lastore 78 (gd rfl) rfl (n := 32) rfl (in_ix i44 rfl) ?_
            have hI77 := inv_sL (q := 150) (j := y38_4.toNatClampNeg) (x := z72) hIc38 rfl (l_rng z72)
            refine g_iinc 81 (gd rfl) rfl rfl (Nat.le_of_ble_eq_true rfl) (fun z78 e78 => ?_)
            have i78 := in_add 1 32 e78 i44 (in_c 1 rfl) rfl rfl
            refine g_goto 38 (gd rfl) rfl ?_
            have n38 : ∀ k : Nat, (k : Int) < (z78).toInt → -200000000 ≤ ((sL sc38 150 y38_4.toNatClampNeg z72).2.1 150 k).toInt ∧ ((sL sc38 150 y38_4.toNatClampNeg z72).2.1 150 k).toInt ≤ 200000000 := by (intro k hk; have e4 : y38_4.toNatClampNeg = y38_4.toInt.toNat := rfl; rw [show ((sL sc38 150 y38_4.toNatClampNeg z72)).2.1 150 = vp_updL (sc38.2.1 150) y38_4.toNatClampNeg z72 from (by simp [sL])]; by_cases c : k = y38_4.toNatClampNeg; (rw [c, ul_eq]; exact ⟨by have h := i72.1; omega, by have h := i72.2; omega⟩); (rw [ul_ne c]; exact g38_0 k (by (first | have a0 := in_u j38_2 | (have a0 := j38_2; unfold In at a0)); (first | have a1 := in_u j38_1 | (have a1 := j38_1; unfold In at a1)); (first | have a2 := in_u i44a | (have a2 := i44a; unfold In at a2)); (first | have a3 := in_u ro_109_19 | (have a3 := ro_109_19; unfold In at a3)); (first | have a4 := in_u i44 | (have a4 := i44; unfold In at a4)); (first | have a5 := in_u i78 | (have a5 := i78; unfold In at a5)); have a6 := t_add e78 i44 (in_c 1 rfl) rfl; (first | have a7 := in_u ((in_c 1 rfl)) | (have a7 := (in_c 1 rfl); unfold In at a7)); (first | have a8 := in_u j38_3 | (have a8 := j38_3; unfold In at a8)); have a9 := tx_i2l e72; (first | have a10 := in_u i71 | (have a10 := i71; unfold In at a10)); have oc := oc_357_109; omega)))
            have n38a : ZB0 (((sL sc38 150 y38_4.toNatClampNeg z72)).2.1 150) (x1).toNatClampNeg (x2).toNatClampNeg (x3).toInt (z78).toNatClampNeg := by rw [(show (z78).toNatClampNeg = (y38_4).toNatClampNeg + 1 from (by show (z78).toInt.toNat = (y38_4).toInt.toNat + 1; (first | have a0 := in_u j38_2 | (have a0 := j38_2; unfold In at a0)); (first | have a1 := in_u j38_1 | (have a1 := j38_1; unfold In at a1)); (first | have a2 := in_u i44a | (have a2 := i44a; unfold In at a2)); (first | have a3 := in_u ro_109_19 | (have a3 := ro_109_19; unfold In at a3)); (first | have a4 := in_u i44 | (have a4 := i44; unfold In at a4)); (first | have a5 := in_u i78 | (have a5 := i78; unfold In at a5)); have a6 := t_add e78 i44 (in_c 1 rfl) rfl; (first | have a7 := in_u ((in_c 1 rfl)) | (have a7 := (in_c 1 rfl); unfold In at a7)); (first | have a8 := in_u j38_3 | (have a8 := j38_3; unfold In at a8)); have a9 := tx_i2l e72; (first | have a10 := in_u i71 | (have a10 := i71; unfold In at a10)); have oc := oc_357_109; omega))]; exact zb0_s g38_1 sL_qn (by rw [tx_i2l e72, ineg_v e71 (by (first | have a0 := in_u j38_2 | (have a0 := j38_2; unfold In at a0)); (first | have a1 := in_u j38_1 | (have a1 := j38_1; unfold In at a1)); (first | have a2 := in_u i44a | (have a2 := i44a; unfold In at a2)); (first | have a3 := in_u ro_109_19 | (have a3 := ro_109_19; unfold In at a3)); (first | have a4 := in_u i44 | (have a4 := i44; unfold In at a4)); (first | have a5 := in_u i78 | (have a5 := i78; unfold In at a5)); have a6 := t_add e78 i44 (in_c 1 rfl) rfl; (first | have a7 := in_u ((in_c 1 rfl)) | (have a7 := (in_c 1 rfl); unfold In at a7)); (first | have a8 := in_u j38_3 | (have a8 := j38_3; unfold In at a8)); have a9 := tx_i2l e72; (first | have a10 := in_u i71 | (have a10 := i71; unfold In at a10)); have oc := oc_357_109; omega), (show (y38_4).toNatClampNeg = (x2).toNatClampNeg from (by show (y38_4).toInt.toNat = (x2).toInt.toNat; (first | have a0 := in_u j38_2 | (have a0 := j38_2; unfold In at a0)); (first | have a1 := in_u j38_1 | (have a1 := j38_1; unfold In at a1)); (first | have a2 := in_u i44a | (have a2 := i44a; unfold In at a2)); (first | have a3 := in_u ro_109_19 | (have a3 := ro_109_19; unfold In at a3)); (first | have a4 := in_u i44 | (have a4 := i44; unfold In at a4)); (first | have a5 := in_u i78 | (have a5 := i78; unfold In at a5)); have a6 := t_add e78 i44 (in_c 1 rfl) rfl; (first | have a7 := in_u ((in_c 1 rfl)) | (have a7 := (in_c 1 rfl); unfold In at a7)); (first | have a8 := in_u j38_3 | (have a8 := j38_3; unfold In at a8)); have a9 := tx_i2l e72; (first | have a10 := in_u i71 | (have a10 := i71; unfold In at a10)); have oc := oc_357_109; omega)), dl_e, dl_n (show (x1).toNatClampNeg ≠ (x2).toNatClampNeg from (by show (x1).toInt.toNat ≠ (x2).toInt.toNat; have h9 := g38_3.1; (first | have a0 := in_u j38_2 | (have a0 := j38_2; unfold In at a0)); (first | have a1 := in_u j38_1 | (have a1 := j38_1; unfold In at a1)); (first | have a2 := in_u i44a | (have a2 := i44a; unfold In at a2)); (first | have a3 := in_u ro_109_19 | (have a3 := ro_109_19; unfold In at a3)); (first | have a4 := in_u i44 | (have a4 := i44; unfold In at a4)); (first | have a5 := in_u i78 | (have a5 := i78; unfold In at a5)); have a6 := t_add e78 i44 (in_c 1 rfl) rfl; (first | have a7 := in_u ((in_c 1 rfl)) | (have a7 := (in_c 1 rfl); unfold In at a7)); (first | have a8 := in_u j38_3 | (have a8 := j38_3; unfold In at a8)); have a9 := tx_i2l e72; (first | have a10 := in_u i71 | (have a10 := i71; unfold In at a10)); have oc := oc_357_109; omega))]; omega)
            have n38b : (((sL sc38 150 y38_4.toNatClampNeg z72)).2.2.1 109 0).toInt = 0 := by exact g38_2
            have n38c : (x1).toInt ≠ (x2).toInt ∧ (x1).toInt < (s.2.2.1 109 20).toInt ∧ (x2).toInt < (s.2.2.1 109 20).toInt := by exact g38_3
            exact gg_w (by first | exact Nat.le_add_right _ _ | exact gw2 | exact gw3 | exact gwe rfl | exact gwf rfl | exact gwg rfl | exact gwh rfl | omega) (gg_f (gf_cons rfl (gf_cons rfl (gf_cons rfl (gf_cons rfl (gf_cons rfl gf_nil))))) (ih38 (sL sc38 150 y38_4.toNatClampNeg z72) z78 hI77 (fr_sL rfl hFc38) (in_w 0 31 j38_1 rfl) (in_w 0 31 j38_2 rfl) (in_w 0 200000000 j38_3 rfl) (in_w 0 32 i78 rfl) n38 n38a n38b n38c (m_up mm38 (t_add e78 i44 (in_c 1 rfl) rfl) (in_w 1 1 (in_c 1 rfl) rfl))))
        · skip
          refine g_iload_n 60 (gd rfl) rfl rfl ?_
          refine g_i2l 61 (gd rfl) rfl (fun z60 e60 => ?_)
          have i60 := l_i e60 j38_3
          refine g_goto 77 (gd rfl) rfl ?_
          refine g_lastore 78 (gd rfl) rfl (n := 32) rfl (in_ix i44 rfl) ?_
          have hI77 := inv_sL (q := 150) (j := y38_4.toNatClampNeg) (x := z60) hIc38 rfl (l_rng z60)
          refine g_iinc 81 (gd rfl) rfl rfl (Nat.le_of_ble_eq_true rfl) (fun z78 e78 => ?_)
          have i78 := in_add 1 32 e78 i44 (in_c 1 rfl) rfl rfl
          refine g_goto 38 (gd rfl) rfl ?_
          have n38 : ∀ k : Nat, (k : Int) < (z78).toInt → -200000000 ≤ ((sL sc38 150 y38_4.toNatClampNeg z60).2.1 150 k).toInt ∧ ((sL sc38 150 y38_4.toNatClampNeg z60).2.1 150 k).toInt ≤ 200000000 := by (intro k hk; have e4 : y38_4.toNatClampNeg = y38_4.toInt.toNat := rfl; rw [show ((sL sc38 150 y38_4.toNatClampNeg z60)).2.1 150 = vp_updL (sc38.2.1 150) y38_4.toNatClampNeg z60 from (by simp [sL])]; by_cases c : k = y38_4.toNatClampNeg; (rw [c, ul_eq]; exact ⟨by have h := i60.1; omega, by have h := i60.2; omega⟩); (rw [ul_ne c]; exact g38_0 k (by (first | have a0 := in_u j38_2 | (have a0 := j38_2; unfold In at a0)); (first | have a1 := in_u j38_1 | (have a1 := j38_1; unfold In at a1)); (first | have a2 := in_u i44a | (have a2 := i44a; unfold In at a2)); (first | have a3 := in_u ro_109_19 | (have a3 := ro_109_19; unfold In at a3)); (first | have a4 := in_u i44 | (have a4 := i44; unfold In at a4)); (first | have a5 := in_u i78 | (have a5 := i78; unfold In at a5)); have a6 := t_add e78 i44 (in_c 1 rfl) rfl; (first | have a7 := in_u ((in_c 1 rfl)) | (have a7 := (in_c 1 rfl); unfold In at a7)); (first | have a8 := in_u j38_3 | (have a8 := j38_3; unfold In at a8)); have a9 := tx_i2l e60; have oc := oc_357_109; omega)))
          have n38a : ZB0 (((sL sc38 150 y38_4.toNatClampNeg z60)).2.1 150) (x1).toNatClampNeg (x2).toNatClampNeg (x3).toInt (z78).toNatClampNeg := by rw [(show (z78).toNatClampNeg = (y38_4).toNatClampNeg + 1 from (by show (z78).toInt.toNat = (y38_4).toInt.toNat + 1; (first | have a0 := in_u j38_2 | (have a0 := j38_2; unfold In at a0)); (first | have a1 := in_u j38_1 | (have a1 := j38_1; unfold In at a1)); (first | have a2 := in_u i44a | (have a2 := i44a; unfold In at a2)); (first | have a3 := in_u ro_109_19 | (have a3 := ro_109_19; unfold In at a3)); (first | have a4 := in_u i44 | (have a4 := i44; unfold In at a4)); (first | have a5 := in_u i78 | (have a5 := i78; unfold In at a5)); have a6 := t_add e78 i44 (in_c 1 rfl) rfl; (first | have a7 := in_u ((in_c 1 rfl)) | (have a7 := (in_c 1 rfl); unfold In at a7)); (first | have a8 := in_u j38_3 | (have a8 := j38_3; unfold In at a8)); have a9 := tx_i2l e60; have oc := oc_357_109; omega))]; exact zb0_s g38_1 sL_qn (by rw [tx_i2l e60, (show (y38_4).toNatClampNeg = (x1).toNatClampNeg from (by show (y38_4).toInt.toNat = (x1).toInt.toNat; (first | have a0 := in_u j38_2 | (have a0 := j38_2; unfold In at a0)); (first | have a1 := in_u j38_1 | (have a1 := j38_1; unfold In at a1)); (first | have a2 := in_u i44a | (have a2 := i44a; unfold In at a2)); (first | have a3 := in_u ro_109_19 | (have a3 := ro_109_19; unfold In at a3)); (first | have a4 := in_u i44 | (have a4 := i44; unfold In at a4)); (first | have a5 := in_u i78 | (have a5 := i78; unfold In at a5)); have a6 := t_add e78 i44 (in_c 1 rfl) rfl; (first | have a7 := in_u ((in_c 1 rfl)) | (have a7 := (in_c 1 rfl); unfold In at a7)); (first | have a8 := in_u j38_3 | (have a8 := j38_3; unfold In at a8)); have a9 := tx_i2l e60; have oc := oc_357_109; omega)), dl_e, dl_n (show (x2).toNatClampNeg ≠ (x1).toNatClampNeg from (by show (x2).toInt.toNat ≠ (x1).toInt.toNat; have h9 := g38_3.1; (first | have a0 := in_u j38_2 | (have a0 := j38_2; unfold In at a0)); (first | have a1 := in_u j38_1 | (have a1 := j38_1; unfold In at a1)); (first | have a2 := in_u i44a | (have a2 := i44a; unfold In at a2)); (first | have a3 := in_u ro_109_19 | (have a3 := ro_109_19; unfold In at a3)); (first | have a4 := in_u i44 | (have a4 := i44; unfold In at a4)); (first | have a5 := in_u i78 | (have a5 := i78; unfold In at a5)); have a6 := t_add e78 i44 (in_c 1 rfl) rfl; (first | have a7 := in_u ((in_c 1 rfl)) | (have a7 := (in_c 1 rfl); unfold In at a7)); (first | have a8 := in_u j38_3 | (have a8 := j38_3; unfold In at a8)); have a9 := tx_i2l e60; have oc := oc_357_109; omega))]; omega)
          have n38b : (((sL sc38 150 y38_4.toNatClampNeg z60)).2.2.1 109 0).toInt = 0 := by exact g38_2
          have n38c : (x1).toInt ≠ (x2).toInt ∧ (x1).toInt < (s.2.2.1 109 20).toInt ∧ (x2).toInt < (s.2.2.1 109 20).toInt := by exact g38_3
          exact gg_w (by first | exact Nat.le_add_right _ _ | exact gw2 | exact gw3 | exact gwe rfl | exact gwf rfl | exact gwg rfl | exact gwh rfl | omega) (gg_f (gf_cons rfl (gf_cons rfl (gf_cons rfl (gf_cons rfl (gf_cons rfl gf_nil))))) (ih38 (sL sc38 150 y38_4.toNatClampNeg z60) z78 hI77 (fr_sL rfl hFc38) (in_w 0 31 j38_1 rfl) (in_w 0 31 j38_2 rfl) (in_w 0 200000000 j38_3 rfl) (in_w 0 32 i78 rfl) n38 n38a n38b n38c (m_up mm38 (t_add e78 i44 (in_c 1 rfl) rfl) (in_w 1 1 (in_c 1 rfl) rfl))))
  refine g_enter2 (k := 357) (N := 35640000498637) (by first | exact dq1 hd rfl | exact dq0 hd rfl | exact dq2 hd rfl | exact dq3 hd rfl | omega) rfl (Nat.le_of_ble_eq_true rfl) ?_
  refine g_aload_n 1 (gd rfl) rfl rfl ?_
  refine g_aload_n 2 (gd rfl) rfl rfl ?_
  refine g_iload_n 3 (gd rfl) rfl rfl ?_
  refine g_iload_n 4 (gd rfl) rfl rfl ?_
  refine g_callv (X := _) (As := [.int x1, .int x2]) (r := [.ref (A 109)]) (b := A 109) (q := 109) 7 (gd rfl) rfl rfl rfl rfl rfl (ww_o rfl) (Nat.le_of_ble_eq_true rfl) (mc := 0) (ms := 0) (Nat.zero_le _) (Nat.zero_le _) (P := fun v u => _) ?_ (fun e u h => h) (fun v u h => h)
  intro po4 xx4 hp4 hx4
  refine g_enter2 (k := 353) (N := 300) (by first | exact dq1 hd rfl | exact dq0 hd rfl | exact dq2 hd rfl | exact dq3 hd rfl | omega) rfl (Nat.le_of_ble_eq_true rfl) ?_
  refine g_aload_n 1 (gd rfl) rfl rfl ?_
  refine g_iload_n 2 (gd rfl) rfl rfl ?_
  refine g_callv (X := _) (As := [.int x1]) (r := []) (b := A 109) (q := 109) 5 (gd rfl) rfl rfl rfl rfl rfl (ww_o rfl) (Nat.le_of_ble_eq_true rfl) (mc := 0) (ms := 0) (Nat.zero_le _) (Nat.zero_le _) (P := fun v u => _) ?_ (fun e u h => h) (fun v u h => h)
  intro po4x2 xx4x2 hp4x2 hx4x2
  refine g_enter2 (k := 272) (N := 300) (by first | exact dq1 hd rfl | exact dq0 hd rfl | exact dq2 hd rfl | exact dq3 hd rfl | omega) rfl (Nat.le_of_ble_eq_true rfl) ?_
  refine g_iload_n 1 (gd rfl) rfl rfl ?_
  refine g_if_lt 4 16 (gd rfl) rfl rfl (fun c4x2x1 => ?_) (fun c4x2x1 => ?_)
  · skip
    have i4x2x1 := z_lt (-2147483648) (-1) c4x2x1 (i_rng x1) rfl
    refine g_iconst 0 17 (gd rfl) rfl rfl ?_
    refine g_ireturn (gd rfl) rfl (nb01 (in_w 0 1 (in_c 0 rfl) rfl)) (hp4x2 _ _ ?_)
    show GG _ _ _ _ _ _ _ _ [.int (Int32.ofInt 0)] _ _ _
    refine g_if_eq 8 25 (gd rfl) rfl rfl (fun c4x5 => ?_) (fun c4x5 => ?_)
    · skip
      refine g_iconst 0 26 (gd rfl) rfl rfl ?_
      refine g_ireturn (gd rfl) rfl (nb01 (in_w 0 1 (in_c 0 rfl) rfl)) (hp4 _ _ ?_)
      show GG _ _ _ _ _ _ _ _ [.int (Int32.ofInt 0), .ref (A 109)] _ _ _
      refine g_if_eq 10 26 (gd rfl) rfl rfl (fun c7 => ?_) (fun c7 => ?_)
      · skip
        refine g_iconst 0 27 (gd rfl) rfl rfl ?_
        refine g_callv (X := _) (As := [.int (Int32.ofInt 0)]) (r := []) (b := A 109) (q := 109) 30 (gd rfl) rfl rfl rfl rfl rfl (ww_o rfl) (Nat.le_of_ble_eq_true rfl) (mc := 0) (ms := 0) (Nat.zero_le _) (Nat.zero_le _) (P := fun v u => _) ?_ (fun e u h => h) (fun v u h => h)
        intro po27 xx27 hp27 hx27
        refine g_enter2 (k := 271) (N := 300) (by first | exact dq1 hd rfl | exact dq0 hd rfl | exact dq2 hd rfl | exact dq3 hd rfl | omega) rfl (Nat.le_of_ble_eq_true rfl) ?_
        refine g_aload_n 1 (gd rfl) rfl rfl ?_
        refine g_iload_n 2 (gd rfl) rfl rfl ?_
        refine g_iconst 1 3 (gd rfl) rfl rfl ?_
        refine g_callv (X := _) (As := [.int (Int32.ofInt 0), .int (Int32.ofInt 1)]) (r := []) (b := A 109) (q := 109) 6 (gd rfl) rfl rfl rfl rfl rfl (ww_o rfl) (Nat.le_of_ble_eq_true rfl) (mc := 0) (ms := 0) (Nat.zero_le _) (Nat.zero_le _) (P := fun v u => _) ?_ (fun e u h => h) (fun v u h => h)
        intro po27x3 xx27x3 hp27x3 hx27x3
        refine g_enter2 (k := 270) (N := 300) (by first | exact dq1 hd rfl | exact dq0 hd rfl | exact dq2 hd rfl | exact dq3 hd rfl | omega) rfl (Nat.le_of_ble_eq_true rfl) ?_
        refine g_aload_n 1 (gd rfl) rfl rfl ?_
        refine g_iload_n 2 (gd rfl) rfl rfl ?_
        refine g_if_ne 5 9 (gd rfl) rfl rfl (fun c27x3x2 => ?_) (fun c27x3x2 => ?_)
        · skip
          exact zn_ne c27x3x2 (in_c 0 rfl) rfl
        · skip
          refine g_iconst 1 6 (gd rfl) rfl rfl ?_
          refine g_goto 18 (gd rfl) rfl ?_
          refine g_putI 21 (gd rfl) rfl rfl rfl rfl ?_
          have hI27x3x18 := inv_sF (q := 109) (j := 0) hI rfl (in_w 0 2 (in_c 1 rfl) rfl)
          refine g_aload_n 22 (gd rfl) rfl rfl ?_
          refine g_getI 25 (gd rfl) rfl rfl rfl (fun z27x3x22 e27x3x22 => ?_)
          have q27x3x22 : (Int32.ofInt 1) = z27x3x22 := (sF_get).trans e27x3x22.symm
          subst q27x3x22
          refine g_if_le 28 32 (gd rfl) rfl rfl (fun c27x3x25 => ?_) (fun c27x3x25 => ?_)
          · skip
            exact zn_le c27x3x25 (in_c 1 rfl) rfl
          · skip
            refine g_iconst 1 29 (gd rfl) rfl rfl ?_
            refine g_goto 33 (gd rfl) rfl ?_
            refine g_ireturn (gd rfl) rfl (nb01 (in_w 0 1 (in_c 1 rfl) rfl)) (hp27x3 _ _ ?_)
            show GG _ _ _ _ _ _ _ _ [.int (Int32.ofInt 1)] _ _ _
            refine g_ireturn (gd rfl) rfl (nb01 (in_w 0 1 (in_c 1 rfl) rfl)) (hp27 _ _ ?_)
            show GG _ _ _ _ _ _ _ _ [.int (Int32.ofInt 1)] _ _ _
            refine g_if_eq 33 35 (gd rfl) rfl rfl (fun c30 => ?_) (fun c30 => ?_)
            · skip
              exact zn_eq c30 (in_c 1 rfl) rfl
            · skip
              refine g_lconst 0 34 (gd rfl) rfl rfl ?_
              have n34 : CSR s (sF s 109 0 (Int32.ofInt 1)) x1 x2 x3 (Int64.ofInt 0) := by exact Or.inl ⟨rfl, by rw [← e_109_20]; (first | have a0 := in_u ro_109_20 | (have a0 := ro_109_20; unfold In at a0)); (first | have a1 := in_u ro_109_19 | (have a1 := ro_109_19; unfold In at a1)); (first | have a2 := in_u i4x2x1 | (have a2 := i4x2x1; unfold In at a2)); (first | have a3 := in_u ((in_c 1 rfl)) | (have a3 := (in_c 1 rfl); unfold In at a3)); have oc := oc_357_109; omega⟩
              exact g_lreturn (gd rfl) rfl (hP _ _ ⟨(sF s 109 0 (Int32.ofInt 1)), hI27x3x18, (fr_sF rfl fr_rf), (Int64.ofInt 0), rfl, rfl, n34⟩)
      · skip
        exact zn_ne c7 (in_c 0 rfl) rfl
    · skip
      exact zn_ne c4x5 (in_c 0 rfl) rfl
  · skip
    have i4x2x1 := z_ge 0 2147483647 c4x2x1 (i_rng x1) rfl
    refine g_iload_n 5 (gd rfl) rfl rfl ?_
    refine g_aload_n 6 (gd rfl) rfl rfl ?_
    refine g_getI 9 (gd rfl) rfl rfl rfl (fun z4x2x6 e4x2x6 => ?_)
    have q4x2x6 : u_109_20 = z4x2x6 := (e_109_20).trans e4x2x6.symm
    subst q4x2x6
    refine g_cmp_ge 12 16 (gd rfl) rfl rfl (fun c4x2x9 => ?_) (fun c4x2x9 => ?_)
    · skip
      refine g_iconst 0 17 (gd rfl) rfl rfl ?_
      refine g_ireturn (gd rfl) rfl (nb01 (in_w 0 1 (in_c 0 rfl) rfl)) (hp4x2 _ _ ?_)
      show GG _ _ _ _ _ _ _ _ [.int (Int32.ofInt 0)] _ _ _
      refine g_if_eq 8 25 (gd rfl) rfl rfl (fun c4x5 => ?_) (fun c4x5 => ?_)
      · skip
        refine g_iconst 0 26 (gd rfl) rfl rfl ?_
        refine g_ireturn (gd rfl) rfl (nb01 (in_w 0 1 (in_c 0 rfl) rfl)) (hp4 _ _ ?_)
        show GG _ _ _ _ _ _ _ _ [.int (Int32.ofInt 0), .ref (A 109)] _ _ _
        refine g_if_eq 10 26 (gd rfl) rfl rfl (fun c7 => ?_) (fun c7 => ?_)
        · skip
          refine g_iconst 0 27 (gd rfl) rfl rfl ?_
          refine g_callv (X := _) (As := [.int (Int32.ofInt 0)]) (r := []) (b := A 109) (q := 109) 30 (gd rfl) rfl rfl rfl rfl rfl (ww_o rfl) (Nat.le_of_ble_eq_true rfl) (mc := 0) (ms := 0) (Nat.zero_le _) (Nat.zero_le _) (P := fun v u => _) ?_ (fun e u h => h) (fun v u h => h)
          intro po27 xx27 hp27 hx27
          refine g_enter2 (k := 271) (N := 300) (by first | exact dq1 hd rfl | exact dq0 hd rfl | exact dq2 hd rfl | exact dq3 hd rfl | omega) rfl (Nat.le_of_ble_eq_true rfl) ?_
          refine g_aload_n 1 (gd rfl) rfl rfl ?_
          refine g_iload_n 2 (gd rfl) rfl rfl ?_
          refine g_iconst 1 3 (gd rfl) rfl rfl ?_
          refine g_callv (X := _) (As := [.int (Int32.ofInt 0), .int (Int32.ofInt 1)]) (r := []) (b := A 109) (q := 109) 6 (gd rfl) rfl rfl rfl rfl rfl (ww_o rfl) (Nat.le_of_ble_eq_true rfl) (mc := 0) (ms := 0) (Nat.zero_le _) (Nat.zero_le _) (P := fun v u => _) ?_ (fun e u h => h) (fun v u h => h)
          intro po27x3 xx27x3 hp27x3 hx27x3
          refine g_enter2 (k := 270) (N := 300) (by first | exact dq1 hd rfl | exact dq0 hd rfl | exact dq2 hd rfl | exact dq3 hd rfl | omega) rfl (Nat.le_of_ble_eq_true rfl) ?_
          refine g_aload_n 1 (gd rfl) rfl rfl ?_
          refine g_iload_n 2 (gd rfl) rfl rfl ?_
          refine g_if_ne 5 9 (gd rfl) rfl rfl (fun c27x3x2 => ?_) (fun c27x3x2 => ?_)
          · skip
            exact zn_ne c27x3x2 (in_c 0 rfl) rfl
          · skip
            refine g_iconst 1 6 (gd rfl) rfl rfl ?_
            refine g_goto 18 (gd rfl) rfl ?_
            refine g_putI 21 (gd rfl) rfl rfl rfl rfl ?_
            have hI27x3x18 := inv_sF (q := 109) (j := 0) hI rfl (in_w 0 2 (in_c 1 rfl) rfl)
            refine g_aload_n 22 (gd rfl) rfl rfl ?_
            refine g_getI 25 (gd rfl) rfl rfl rfl (fun z27x3x22 e27x3x22 => ?_)
            have q27x3x22 : (Int32.ofInt 1) = z27x3x22 := (sF_get).trans e27x3x22.symm
            subst q27x3x22
            refine g_if_le 28 32 (gd rfl) rfl rfl (fun c27x3x25 => ?_) (fun c27x3x25 => ?_)
            · skip
              exact zn_le c27x3x25 (in_c 1 rfl) rfl
            · skip
              refine g_iconst 1 29 (gd rfl) rfl rfl ?_
              refine g_goto 33 (gd rfl) rfl ?_
              refine g_ireturn (gd rfl) rfl (nb01 (in_w 0 1 (in_c 1 rfl) rfl)) (hp27x3 _ _ ?_)
              show GG _ _ _ _ _ _ _ _ [.int (Int32.ofInt 1)] _ _ _
              refine g_ireturn (gd rfl) rfl (nb01 (in_w 0 1 (in_c 1 rfl) rfl)) (hp27 _ _ ?_)
              show GG _ _ _ _ _ _ _ _ [.int (Int32.ofInt 1)] _ _ _
              refine g_if_eq 33 35 (gd rfl) rfl rfl (fun c30 => ?_) (fun c30 => ?_)
              · skip
                exact zn_eq c30 (in_c 1 rfl) rfl
              · skip
                refine g_lconst 0 34 (gd rfl) rfl rfl ?_
                have n34 : CSR s (sF s 109 0 (Int32.ofInt 1)) x1 x2 x3 (Int64.ofInt 0) := by exact Or.inl ⟨rfl, by rw [← e_109_20]; (first | have a0 := in_u ro_109_20 | (have a0 := ro_109_20; unfold In at a0)); (first | have a1 := in_u ro_109_19 | (have a1 := ro_109_19; unfold In at a1)); (first | have a2 := in_u i4x2x1 | (have a2 := i4x2x1; unfold In at a2)); (first | have a3 := in_u ((in_c 1 rfl)) | (have a3 := (in_c 1 rfl); unfold In at a3)); have oc := oc_357_109; omega⟩
                exact g_lreturn (gd rfl) rfl (hP _ _ ⟨(sF s 109 0 (Int32.ofInt 1)), hI27x3x18, (fr_sF rfl fr_rf), (Int64.ofInt 0), rfl, rfl, n34⟩)
        · skip
          exact zn_ne c7 (in_c 0 rfl) rfl
      · skip
        exact zn_ne c4x5 (in_c 0 rfl) rfl
    · skip
      have i4x2x9 := r_lt1 0 31 c4x2x9 i4x2x1 ro_109_20 rfl
      have i4x2x9a := r_lt2 1 32 c4x2x9 i4x2x1 ro_109_20 rfl
      refine g_iconst 1 13 (gd rfl) rfl rfl ?_
      refine g_goto 17 (gd rfl) rfl ?_
      refine g_ireturn (gd rfl) rfl (nb01 (in_w 0 1 (in_c 1 rfl) rfl)) (hp4x2 _ _ ?_)
      show GG _ _ _ _ _ _ _ _ [.int (Int32.ofInt 1)] _ _ _
      refine g_if_eq 8 25 (gd rfl) rfl rfl (fun c4x5 => ?_) (fun c4x5 => ?_)
      · skip
        exact zn_eq c4x5 (in_c 1 rfl) rfl
      · skip
        refine g_aload_n 9 (gd rfl) rfl rfl ?_
        refine g_iload_n 10 (gd rfl) rfl rfl ?_
        refine g_callv (X := _) (As := [.int x2]) (r := []) (b := A 109) (q := 109) 13 (gd rfl) rfl rfl rfl rfl rfl (ww_o rfl) (Nat.le_of_ble_eq_true rfl) (mc := 0) (ms := 0) (Nat.zero_le _) (Nat.zero_le _) (P := fun v u => _) ?_ (fun e u h => h) (fun v u h => h)
        intro po4x10 xx4x10 hp4x10 hx4x10
        refine g_enter2 (k := 272) (N := 300) (by first | exact dq1 hd rfl | exact dq0 hd rfl | exact dq2 hd rfl | exact dq3 hd rfl | omega) rfl (Nat.le_of_ble_eq_true rfl) ?_
        refine g_iload_n 1 (gd rfl) rfl rfl ?_
        refine g_if_lt 4 16 (gd rfl) rfl rfl (fun c4x10x1 => ?_) (fun c4x10x1 => ?_)
        · skip
          have i4x10x1 := z_lt (-2147483648) (-1) c4x10x1 (i_rng x2) rfl
          refine g_iconst 0 17 (gd rfl) rfl rfl ?_
          refine g_ireturn (gd rfl) rfl (nb01 (in_w 0 1 (in_c 0 rfl) rfl)) (hp4x10 _ _ ?_)
          show GG _ _ _ _ _ _ _ _ [.int (Int32.ofInt 0)] _ _ _
          refine g_if_eq 16 25 (gd rfl) rfl rfl (fun c4x13 => ?_) (fun c4x13 => ?_)
          · skip
            refine g_iconst 0 26 (gd rfl) rfl rfl ?_
            refine g_ireturn (gd rfl) rfl (nb01 (in_w 0 1 (in_c 0 rfl) rfl)) (hp4 _ _ ?_)
            show GG _ _ _ _ _ _ _ _ [.int (Int32.ofInt 0), .ref (A 109)] _ _ _
            refine g_if_eq 10 26 (gd rfl) rfl rfl (fun c7 => ?_) (fun c7 => ?_)
            · skip
              refine g_iconst 0 27 (gd rfl) rfl rfl ?_
              refine g_callv (X := _) (As := [.int (Int32.ofInt 0)]) (r := []) (b := A 109) (q := 109) 30 (gd rfl) rfl rfl rfl rfl rfl (ww_o rfl) (Nat.le_of_ble_eq_true rfl) (mc := 0) (ms := 0) (Nat.zero_le _) (Nat.zero_le _) (P := fun v u => _) ?_ (fun e u h => h) (fun v u h => h)
              intro po27 xx27 hp27 hx27
              refine g_enter2 (k := 271) (N := 300) (by first | exact dq1 hd rfl | exact dq0 hd rfl | exact dq2 hd rfl | exact dq3 hd rfl | omega) rfl (Nat.le_of_ble_eq_true rfl) ?_
              refine g_aload_n 1 (gd rfl) rfl rfl ?_
              refine g_iload_n 2 (gd rfl) rfl rfl ?_
              refine g_iconst 1 3 (gd rfl) rfl rfl ?_
              refine g_callv (X := _) (As := [.int (Int32.ofInt 0), .int (Int32.ofInt 1)]) (r := []) (b := A 109) (q := 109) 6 (gd rfl) rfl rfl rfl rfl rfl (ww_o rfl) (Nat.le_of_ble_eq_true rfl) (mc := 0) (ms := 0) (Nat.zero_le _) (Nat.zero_le _) (P := fun v u => _) ?_ (fun e u h => h) (fun v u h => h)
              intro po27x3 xx27x3 hp27x3 hx27x3
              refine g_enter2 (k := 270) (N := 300) (by first | exact dq1 hd rfl | exact dq0 hd rfl | exact dq2 hd rfl | exact dq3 hd rfl | omega) rfl (Nat.le_of_ble_eq_true rfl) ?_
              refine g_aload_n 1 (gd rfl) rfl rfl ?_
              refine g_iload_n 2 (gd rfl) rfl rfl ?_
              refine g_if_ne 5 9 (gd rfl) rfl rfl (fun c27x3x2 => ?_) (fun c27x3x2 => ?_)
              · skip
                exact zn_ne c27x3x2 (in_c 0 rfl) rfl
              · skip
                refine g_iconst 1 6 (gd rfl) rfl rfl ?_
                refine g_goto 18 (gd rfl) rfl ?_
                refine g_putI 21 (gd rfl) rfl rfl rfl rfl ?_
                have hI27x3x18 := inv_sF (q := 109) (j := 0) hI rfl (in_w 0 2 (in_c 1 rfl) rfl)
                refine g_aload_n 22 (gd rfl) rfl rfl ?_
                refine g_getI 25 (gd rfl) rfl rfl rfl (fun z27x3x22 e27x3x22 => ?_)
                have q27x3x22 : (Int32.ofInt 1) = z27x3x22 := (sF_get).trans e27x3x22.symm
                subst q27x3x22
                refine g_if_le 28 32 (gd rfl) rfl rfl (fun c27x3x25 => ?_) (fun c27x3x25 => ?_)
                · skip
                  exact zn_le c27x3x25 (in_c 1 rfl) rfl
                · skip
                  refine g_iconst 1 29 (gd rfl) rfl rfl ?_
                  refine g_goto 33 (gd rfl) rfl ?_
                  refine g_ireturn (gd rfl) rfl (nb01 (in_w 0 1 (in_c 1 rfl) rfl)) (hp27x3 _ _ ?_)
                  show GG _ _ _ _ _ _ _ _ [.int (Int32.ofInt 1)] _ _ _
                  refine g_ireturn (gd rfl) rfl (nb01 (in_w 0 1 (in_c 1 rfl) rfl)) (hp27 _ _ ?_)
                  show GG _ _ _ _ _ _ _ _ [.int (Int32.ofInt 1)] _ _ _
                  refine g_if_eq 33 35 (gd rfl) rfl rfl (fun c30 => ?_) (fun c30 => ?_)
                  · skip
                    exact zn_eq c30 (in_c 1 rfl) rfl
                  · skip
                    refine g_lconst 0 34 (gd rfl) rfl rfl ?_
                    have n34 : CSR s (sF s 109 0 (Int32.ofInt 1)) x1 x2 x3 (Int64.ofInt 0) := by exact Or.inl ⟨rfl, by rw [← e_109_20]; (first | have a0 := in_u i4x2x9 | (have a0 := i4x2x9; unfold In at a0)); (first | have a1 := in_u i4x2x9a | (have a1 := i4x2x9a; unfold In at a1)); (first | have a2 := in_u ro_109_19 | (have a2 := ro_109_19; unfold In at a2)); (first | have a3 := in_u i4x10x1 | (have a3 := i4x10x1; unfold In at a3)); (first | have a4 := in_u ((in_c 1 rfl)) | (have a4 := (in_c 1 rfl); unfold In at a4)); have oc := oc_357_109; omega⟩
                    exact g_lreturn (gd rfl) rfl (hP _ _ ⟨(sF s 109 0 (Int32.ofInt 1)), hI27x3x18, (fr_sF rfl fr_rf), (Int64.ofInt 0), rfl, rfl, n34⟩)
            · skip
              exact zn_ne c7 (in_c 0 rfl) rfl
          · skip
            exact zn_ne c4x13 (in_c 0 rfl) rfl
        · skip
          have i4x10x1 := z_ge 0 2147483647 c4x10x1 (i_rng x2) rfl
          refine g_iload_n 5 (gd rfl) rfl rfl ?_
          refine g_aload_n 6 (gd rfl) rfl rfl ?_
          refine g_getI 9 (gd rfl) rfl rfl rfl (fun z4x10x6 e4x10x6 => ?_)
          have q4x10x6 : u_109_20 = z4x10x6 := (e_109_20).trans e4x10x6.symm
          subst q4x10x6
          refine g_cmp_ge 12 16 (gd rfl) rfl rfl (fun c4x10x9 => ?_) (fun c4x10x9 => ?_)
          · skip
            have i4x10x9 := r_le2 1 2147483647 c4x10x9 i4x2x9a i4x10x1 rfl
            refine g_iconst 0 17 (gd rfl) rfl rfl ?_
            refine g_ireturn (gd rfl) rfl (nb01 (in_w 0 1 (in_c 0 rfl) rfl)) (hp4x10 _ _ ?_)
            show GG _ _ _ _ _ _ _ _ [.int (Int32.ofInt 0)] _ _ _
            refine g_if_eq 16 25 (gd rfl) rfl rfl (fun c4x13 => ?_) (fun c4x13 => ?_)
            · skip
              refine g_iconst 0 26 (gd rfl) rfl rfl ?_
              refine g_ireturn (gd rfl) rfl (nb01 (in_w 0 1 (in_c 0 rfl) rfl)) (hp4 _ _ ?_)
              show GG _ _ _ _ _ _ _ _ [.int (Int32.ofInt 0), .ref (A 109)] _ _ _
              refine g_if_eq 10 26 (gd rfl) rfl rfl (fun c7 => ?_) (fun c7 => ?_)
              · skip
                refine g_iconst 0 27 (gd rfl) rfl rfl ?_
                refine g_callv (X := _) (As := [.int (Int32.ofInt 0)]) (r := []) (b := A 109) (q := 109) 30 (gd rfl) rfl rfl rfl rfl rfl (ww_o rfl) (Nat.le_of_ble_eq_true rfl) (mc := 0) (ms := 0) (Nat.zero_le _) (Nat.zero_le _) (P := fun v u => _) ?_ (fun e u h => h) (fun v u h => h)
                intro po27 xx27 hp27 hx27
                refine g_enter2 (k := 271) (N := 300) (by first | exact dq1 hd rfl | exact dq0 hd rfl | exact dq2 hd rfl | exact dq3 hd rfl | omega) rfl (Nat.le_of_ble_eq_true rfl) ?_
                refine g_aload_n 1 (gd rfl) rfl rfl ?_
                refine g_iload_n 2 (gd rfl) rfl rfl ?_
                refine g_iconst 1 3 (gd rfl) rfl rfl ?_
                refine g_callv (X := _) (As := [.int (Int32.ofInt 0), .int (Int32.ofInt 1)]) (r := []) (b := A 109) (q := 109) 6 (gd rfl) rfl rfl rfl rfl rfl (ww_o rfl) (Nat.le_of_ble_eq_true rfl) (mc := 0) (ms := 0) (Nat.zero_le _) (Nat.zero_le _) (P := fun v u => _) ?_ (fun e u h => h) (fun v u h => h)
                intro po27x3 xx27x3 hp27x3 hx27x3
                refine g_enter2 (k := 270) (N := 300) (by first | exact dq1 hd rfl | exact dq0 hd rfl | exact dq2 hd rfl | exact dq3 hd rfl | omega) rfl (Nat.le_of_ble_eq_true rfl) ?_
                refine g_aload_n 1 (gd rfl) rfl rfl ?_
                refine g_iload_n 2 (gd rfl) rfl rfl ?_
                refine g_if_ne 5 9 (gd rfl) rfl rfl (fun c27x3x2 => ?_) (fun c27x3x2 => ?_)
                · skip
                  exact zn_ne c27x3x2 (in_c 0 rfl) rfl
                · skip
                  refine g_iconst 1 6 (gd rfl) rfl rfl ?_
                  refine g_goto 18 (gd rfl) rfl ?_
                  refine g_putI 21 (gd rfl) rfl rfl rfl rfl ?_
                  have hI27x3x18 := inv_sF (q := 109) (j := 0) hI rfl (in_w 0 2 (in_c 1 rfl) rfl)
                  refine g_aload_n 22 (gd rfl) rfl rfl ?_
                  refine g_getI 25 (gd rfl) rfl rfl rfl (fun z27x3x22 e27x3x22 => ?_)
                  have q27x3x22 : (Int32.ofInt 1) = z27x3x22 := (sF_get).trans e27x3x22.symm
                  subst q27x3x22
                  refine g_if_le 28 32 (gd rfl) rfl rfl (fun c27x3x25 => ?_) (fun c27x3x25 => ?_)
                  · skip
                    exact zn_le c27x3x25 (in_c 1 rfl) rfl
                  · skip
                    refine g_iconst 1 29 (gd rfl) rfl rfl ?_
                    refine g_goto 33 (gd rfl) rfl ?_
                    refine g_ireturn (gd rfl) rfl (nb01 (in_w 0 1 (in_c 1 rfl) rfl)) (hp27x3 _ _ ?_)
                    show GG _ _ _ _ _ _ _ _ [.int (Int32.ofInt 1)] _ _ _
                    refine g_ireturn (gd rfl) rfl (nb01 (in_w 0 1 (in_c 1 rfl) rfl)) (hp27 _ _ ?_)
                    show GG _ _ _ _ _ _ _ _ [.int (Int32.ofInt 1)] _ _ _
                    refine g_if_eq 33 35 (gd rfl) rfl rfl (fun c30 => ?_) (fun c30 => ?_)
                    · skip
                      exact zn_eq c30 (in_c 1 rfl) rfl
                    · skip
                      refine g_lconst 0 34 (gd rfl) rfl rfl ?_
                      have n34 : CSR s (sF s 109 0 (Int32.ofInt 1)) x1 x2 x3 (Int64.ofInt 0) := by exact Or.inl ⟨rfl, by rw [← e_109_20]; (first | have a0 := in_u i4x2x9 | (have a0 := i4x2x9; unfold In at a0)); (first | have a1 := in_u i4x2x9a | (have a1 := i4x2x9a; unfold In at a1)); (first | have a2 := in_u ro_109_19 | (have a2 := ro_109_19; unfold In at a2)); (first | have a3 := in_u i4x10x9 | (have a3 := i4x10x9; unfold In at a3)); (first | have a4 := in_u ((in_c 1 rfl)) | (have a4 := (in_c 1 rfl); unfold In at a4)); have oc := oc_357_109; omega⟩
                      exact g_lreturn (gd rfl) rfl (hP _ _ ⟨(sF s 109 0 (Int32.ofInt 1)), hI27x3x18, (fr_sF rfl fr_rf), (Int64.ofInt 0), rfl, rfl, n34⟩)
              · skip
                exact zn_ne c7 (in_c 0 rfl) rfl
            · skip
              exact zn_ne c4x13 (in_c 0 rfl) rfl
          · skip
            have i4x10x9 := r_lt1 0 31 c4x10x9 i4x10x1 i4x2x9a rfl
            refine g_iconst 1 13 (gd rfl) rfl rfl ?_
            refine g_goto 17 (gd rfl) rfl ?_
            refine g_ireturn (gd rfl) rfl (nb01 (in_w 0 1 (in_c 1 rfl) rfl)) (hp4x10 _ _ ?_)
            show GG _ _ _ _ _ _ _ _ [.int (Int32.ofInt 1)] _ _ _
            refine g_if_eq 16 25 (gd rfl) rfl rfl (fun c4x13 => ?_) (fun c4x13 => ?_)
            · skip
              exact zn_eq c4x13 (in_c 1 rfl) rfl
            · skip
              refine g_iload_n 17 (gd rfl) rfl rfl ?_
              refine g_iload_n 18 (gd rfl) rfl rfl ?_
              refine g_cmp_eq 21 25 (gd rfl) rfl rfl (fun c4x18 => ?_) (fun c4x18 => ?_)
              · skip
                refine g_iconst 0 26 (gd rfl) rfl rfl ?_
                refine g_ireturn (gd rfl) rfl (nb01 (in_w 0 1 (in_c 0 rfl) rfl)) (hp4 _ _ ?_)
                show GG _ _ _ _ _ _ _ _ [.int (Int32.ofInt 0), .ref (A 109)] _ _ _
                refine g_if_eq 10 26 (gd rfl) rfl rfl (fun c7 => ?_) (fun c7 => ?_)
                · skip
                  refine g_iconst 0 27 (gd rfl) rfl rfl ?_
                  refine g_callv (X := _) (As := [.int (Int32.ofInt 0)]) (r := []) (b := A 109) (q := 109) 30 (gd rfl) rfl rfl rfl rfl rfl (ww_o rfl) (Nat.le_of_ble_eq_true rfl) (mc := 0) (ms := 0) (Nat.zero_le _) (Nat.zero_le _) (P := fun v u => _) ?_ (fun e u h => h) (fun v u h => h)
                  intro po27 xx27 hp27 hx27
                  refine g_enter2 (k := 271) (N := 300) (by first | exact dq1 hd rfl | exact dq0 hd rfl | exact dq2 hd rfl | exact dq3 hd rfl | omega) rfl (Nat.le_of_ble_eq_true rfl) ?_
                  refine g_aload_n 1 (gd rfl) rfl rfl ?_
                  refine g_iload_n 2 (gd rfl) rfl rfl ?_
                  refine g_iconst 1 3 (gd rfl) rfl rfl ?_
                  refine g_callv (X := _) (As := [.int (Int32.ofInt 0), .int (Int32.ofInt 1)]) (r := []) (b := A 109) (q := 109) 6 (gd rfl) rfl rfl rfl rfl rfl (ww_o rfl) (Nat.le_of_ble_eq_true rfl) (mc := 0) (ms := 0) (Nat.zero_le _) (Nat.zero_le _) (P := fun v u => _) ?_ (fun e u h => h) (fun v u h => h)
                  intro po27x3 xx27x3 hp27x3 hx27x3
                  refine g_enter2 (k := 270) (N := 300) (by first | exact dq1 hd rfl | exact dq0 hd rfl | exact dq2 hd rfl | exact dq3 hd rfl | omega) rfl (Nat.le_of_ble_eq_true rfl) ?_
                  refine g_aload_n 1 (gd rfl) rfl rfl ?_
                  refine g_iload_n 2 (gd rfl) rfl rfl ?_
                  refine g_if_ne 5 9 (gd rfl) rfl rfl (fun c27x3x2 => ?_) (fun c27x3x2 => ?_)
                  · skip
                    exact zn_ne c27x3x2 (in_c 0 rfl) rfl
                  · skip
                    refine g_iconst 1 6 (gd rfl) rfl rfl ?_
                    refine g_goto 18 (gd rfl) rfl ?_
                    refine g_putI 21 (gd rfl) rfl rfl rfl rfl ?_
                    have hI27x3x18 := inv_sF (q := 109) (j := 0) hI rfl (in_w 0 2 (in_c 1 rfl) rfl)
                    refine g_aload_n 22 (gd rfl) rfl rfl ?_
                    refine g_getI 25 (gd rfl) rfl rfl rfl (fun z27x3x22 e27x3x22 => ?_)
                    have q27x3x22 : (Int32.ofInt 1) = z27x3x22 := (sF_get).trans e27x3x22.symm
                    subst q27x3x22
                    refine g_if_le 28 32 (gd rfl) rfl rfl (fun c27x3x25 => ?_) (fun c27x3x25 => ?_)
                    · skip
                      exact zn_le c27x3x25 (in_c 1 rfl) rfl
                    · skip
                      refine g_iconst 1 29 (gd rfl) rfl rfl ?_
                      refine g_goto 33 (gd rfl) rfl ?_
                      refine g_ireturn (gd rfl) rfl (nb01 (in_w 0 1 (in_c 1 rfl) rfl)) (hp27x3 _ _ ?_)
                      show GG _ _ _ _ _ _ _ _ [.int (Int32.ofInt 1)] _ _ _
                      refine g_ireturn (gd rfl) rfl (nb01 (in_w 0 1 (in_c 1 rfl) rfl)) (hp27 _ _ ?_)
                      show GG _ _ _ _ _ _ _ _ [.int (Int32.ofInt 1)] _ _ _
                      refine g_if_eq 33 35 (gd rfl) rfl rfl (fun c30 => ?_) (fun c30 => ?_)
                      · skip
                        exact zn_eq c30 (in_c 1 rfl) rfl
                      · skip
                        refine g_lconst 0 34 (gd rfl) rfl rfl ?_
                        have n34 : CSR s (sF s 109 0 (Int32.ofInt 1)) x1 x2 x3 (Int64.ofInt 0) := by exact Or.inl ⟨rfl, by rw [← e_109_20]; (first | have a0 := in_u i4x10x9 | (have a0 := i4x10x9; unfold In at a0)); (first | have a1 := in_u i4x2x9 | (have a1 := i4x2x9; unfold In at a1)); (first | have a2 := in_u i4x2x9a | (have a2 := i4x2x9a; unfold In at a2)); (first | have a3 := in_u ro_109_19 | (have a3 := ro_109_19; unfold In at a3)); (first | have a4 := in_u ((in_c 1 rfl)) | (have a4 := (in_c 1 rfl); unfold In at a4)); have oc := oc_357_109; omega⟩
                        exact g_lreturn (gd rfl) rfl (hP _ _ ⟨(sF s 109 0 (Int32.ofInt 1)), hI27x3x18, (fr_sF rfl fr_rf), (Int64.ofInt 0), rfl, rfl, n34⟩)
                · skip
                  exact zn_ne c7 (in_c 0 rfl) rfl
              · skip
                refine g_iconst 1 22 (gd rfl) rfl rfl ?_
                refine g_goto 26 (gd rfl) rfl ?_
                refine g_ireturn (gd rfl) rfl (nb01 (in_w 0 1 (in_c 1 rfl) rfl)) (hp4 _ _ ?_)
                show GG _ _ _ _ _ _ _ _ [.int (Int32.ofInt 1), .ref (A 109)] _ _ _
                refine g_if_eq 10 26 (gd rfl) rfl rfl (fun c7 => ?_) (fun c7 => ?_)
                · skip
                  exact zn_eq c7 (in_c 1 rfl) rfl
                · skip
                  refine g_iload_n 11 (gd rfl) rfl rfl ?_
                  refine g_i2l 12 (gd rfl) rfl (fun z11 e11 => ?_)
                  have i11 := l_i e11 (i_rng x3)
                  refine g_lconst 0 13 (gd rfl) rfl rfl ?_
                  refine g_ldc2_w 200000000 16 (gd rfl) rfl rfl ?_
                  refine g_calls (As := [.long z11, .long (Int64.ofInt 0), .long (Int64.ofInt 200000000)]) (r := [.ref (A 109)]) 19 (gd rfl) rfl rfl rfl rfl rfl (Nat.le_of_ble_eq_true rfl) (mc := 0) (ms := 0) (Nat.zero_le _) (Nat.zero_le _) (P := fun v u => _) ?_ (fun v u h => h)
                  intro po16 xx16 hp16 hx16
                  refine g_enter2 (k := 269) (N := 300) (by first | exact dq1 hd rfl | exact dq0 hd rfl | exact dq2 hd rfl | exact dq3 hd rfl | omega) rfl (Nat.le_of_ble_eq_true rfl) ?_
                  refine g_lload_n 1 (gd rfl) rfl rfl ?_
                  refine g_lload_n 2 (gd rfl) rfl rfl ?_
                  refine g_lcmp 3 (gd rfl) rfl (fun z16x2 e16x2 => ?_)
                  have i16x2 := lc_in e16x2
                  refine g_if_lt 6 17 (gd rfl) rfl rfl (fun c16x3 => ?_) (fun c16x3 => ?_)
                  · skip
                    have i16x3 := z_lt (-1) (-1) c16x3 i16x2 rfl
                    have c16x3a := lc_lt e16x2 c16x3
                    have i16x3a := lr_lt1 (-2147483648) (-1) c16x3a i11 (l_c 0 rfl) rfl
                    have i16x3b := l_b e11 i16x3a
                    refine g_iconst 0 18 (gd rfl) rfl rfl ?_
                    refine g_ireturn (gd rfl) rfl (nb01 (in_w 0 1 (in_c 0 rfl) rfl)) (hp16 _ _ ?_)
                    show GG _ _ _ _ _ _ _ _ [.int (Int32.ofInt 0), .ref (A 109)] _ _ _
                    refine g_if_eq 22 26 (gd rfl) rfl rfl (fun c19 => ?_) (fun c19 => ?_)
                    · skip
                      refine g_iconst 0 27 (gd rfl) rfl rfl ?_
                      refine g_callv (X := _) (As := [.int (Int32.ofInt 0)]) (r := []) (b := A 109) (q := 109) 30 (gd rfl) rfl rfl rfl rfl rfl (ww_o rfl) (Nat.le_of_ble_eq_true rfl) (mc := 0) (ms := 0) (Nat.zero_le _) (Nat.zero_le _) (P := fun v u => _) ?_ (fun e u h => h) (fun v u h => h)
                      intro po27 xx27 hp27 hx27
                      refine g_enter2 (k := 271) (N := 300) (by first | exact dq1 hd rfl | exact dq0 hd rfl | exact dq2 hd rfl | exact dq3 hd rfl | omega) rfl (Nat.le_of_ble_eq_true rfl) ?_
                      refine g_aload_n 1 (gd rfl) rfl rfl ?_
                      refine g_iload_n 2 (gd rfl) rfl rfl ?_
                      refine g_iconst 1 3 (gd rfl) rfl rfl ?_
                      refine g_callv (X := _) (As := [.int (Int32.ofInt 0), .int (Int32.ofInt 1)]) (r := []) (b := A 109) (q := 109) 6 (gd rfl) rfl rfl rfl rfl rfl (ww_o rfl) (Nat.le_of_ble_eq_true rfl) (mc := 0) (ms := 0) (Nat.zero_le _) (Nat.zero_le _) (P := fun v u => _) ?_ (fun e u h => h) (fun v u h => h)
                      intro po27x3 xx27x3 hp27x3 hx27x3
                      refine g_enter2 (k := 270) (N := 300) (by first | exact dq1 hd rfl | exact dq0 hd rfl | exact dq2 hd rfl | exact dq3 hd rfl | omega) rfl (Nat.le_of_ble_eq_true rfl) ?_
                      refine g_aload_n 1 (gd rfl) rfl rfl ?_
                      refine g_iload_n 2 (gd rfl) rfl rfl ?_
                      refine g_if_ne 5 9 (gd rfl) rfl rfl (fun c27x3x2 => ?_) (fun c27x3x2 => ?_)
                      · skip
                        exact zn_ne c27x3x2 (in_c 0 rfl) rfl
                      · skip
                        refine g_iconst 1 6 (gd rfl) rfl rfl ?_
                        refine g_goto 18 (gd rfl) rfl ?_
                        refine g_putI 21 (gd rfl) rfl rfl rfl rfl ?_
                        have hI27x3x18 := inv_sF (q := 109) (j := 0) hI rfl (in_w 0 2 (in_c 1 rfl) rfl)
                        refine g_aload_n 22 (gd rfl) rfl rfl ?_
                        refine g_getI 25 (gd rfl) rfl rfl rfl (fun z27x3x22 e27x3x22 => ?_)
                        have q27x3x22 : (Int32.ofInt 1) = z27x3x22 := (sF_get).trans e27x3x22.symm
                        subst q27x3x22
                        refine g_if_le 28 32 (gd rfl) rfl rfl (fun c27x3x25 => ?_) (fun c27x3x25 => ?_)
                        · skip
                          exact zn_le c27x3x25 (in_c 1 rfl) rfl
                        · skip
                          refine g_iconst 1 29 (gd rfl) rfl rfl ?_
                          refine g_goto 33 (gd rfl) rfl ?_
                          refine g_ireturn (gd rfl) rfl (nb01 (in_w 0 1 (in_c 1 rfl) rfl)) (hp27x3 _ _ ?_)
                          show GG _ _ _ _ _ _ _ _ [.int (Int32.ofInt 1)] _ _ _
                          refine g_ireturn (gd rfl) rfl (nb01 (in_w 0 1 (in_c 1 rfl) rfl)) (hp27 _ _ ?_)
                          show GG _ _ _ _ _ _ _ _ [.int (Int32.ofInt 1)] _ _ _
                          refine g_if_eq 33 35 (gd rfl) rfl rfl (fun c30 => ?_) (fun c30 => ?_)
                          · skip
                            exact zn_eq c30 (in_c 1 rfl) rfl
                          · skip
                            refine g_lconst 0 34 (gd rfl) rfl rfl ?_
                            have n34 : CSR s (sF s 109 0 (Int32.ofInt 1)) x1 x2 x3 (Int64.ofInt 0) := by exact Or.inl ⟨rfl, by rw [← e_109_20]; (first | have a0 := in_u i4x10x9 | (have a0 := i4x10x9; unfold In at a0)); (first | have a1 := in_u i4x2x9 | (have a1 := i4x2x9; unfold In at a1)); (first | have a2 := in_u i4x2x9a | (have a2 := i4x2x9a; unfold In at a2)); (first | have a3 := in_u ro_109_19 | (have a3 := ro_109_19; unfold In at a3)); (first | have a4 := in_u i16x3b | (have a4 := i16x3b; unfold In at a4)); (first | have a5 := in_u ((in_c 1 rfl)) | (have a5 := (in_c 1 rfl); unfold In at a5)); have a6 := tx_i2l e11; have oc := oc_357_109; omega⟩
                            exact g_lreturn (gd rfl) rfl (hP _ _ ⟨(sF s 109 0 (Int32.ofInt 1)), hI27x3x18, (fr_sF rfl fr_rf), (Int64.ofInt 0), rfl, rfl, n34⟩)
                    · skip
                      exact zn_ne c19 (in_c 0 rfl) rfl
                  · skip
                    have i16x3 := z_ge 0 1 c16x3 i16x2 rfl
                    have c16x3a := lc_ge e16x2 c16x3
                    have i16x3a := lr_le2 0 2147483647 c16x3a (l_c 0 rfl) i11 rfl
                    have i16x3b := l_b e11 i16x3a
                    refine g_lload_n 7 (gd rfl) rfl rfl ?_
                    refine g_lload 9 (gd rfl) rfl rfl ?_
                    refine g_lcmp 10 (gd rfl) rfl (fun z16x9 e16x9 => ?_)
                    have i16x9 := lc_in e16x9
                    refine g_if_gt 13 17 (gd rfl) rfl rfl (fun c16x10 => ?_) (fun c16x10 => ?_)
                    · skip
                      have i16x10 := z_gt 1 1 c16x10 i16x9 rfl
                      have c16x10a := lc_gt e16x9 c16x10
                      have i16x10a := lr_lt2 200000001 2147483647 c16x10a (l_c 200000000 rfl) i16x3a rfl
                      have i16x10b := l_b e11 i16x10a
                      refine g_iconst 0 18 (gd rfl) rfl rfl ?_
                      refine g_ireturn (gd rfl) rfl (nb01 (in_w 0 1 (in_c 0 rfl) rfl)) (hp16 _ _ ?_)
                      show GG _ _ _ _ _ _ _ _ [.int (Int32.ofInt 0), .ref (A 109)] _ _ _
                      refine g_if_eq 22 26 (gd rfl) rfl rfl (fun c19 => ?_) (fun c19 => ?_)
                      · skip
                        refine g_iconst 0 27 (gd rfl) rfl rfl ?_
                        refine g_callv (X := _) (As := [.int (Int32.ofInt 0)]) (r := []) (b := A 109) (q := 109) 30 (gd rfl) rfl rfl rfl rfl rfl (ww_o rfl) (Nat.le_of_ble_eq_true rfl) (mc := 0) (ms := 0) (Nat.zero_le _) (Nat.zero_le _) (P := fun v u => _) ?_ (fun e u h => h) (fun v u h => h)
                        intro po27 xx27 hp27 hx27
                        refine g_enter2 (k := 271) (N := 300) (by first | exact dq1 hd rfl | exact dq0 hd rfl | exact dq2 hd rfl | exact dq3 hd rfl | omega) rfl (Nat.le_of_ble_eq_true rfl) ?_
                        refine g_aload_n 1 (gd rfl) rfl rfl ?_
                        refine g_iload_n 2 (gd rfl) rfl rfl ?_
                        refine g_iconst 1 3 (gd rfl) rfl rfl ?_
                        refine g_callv (X := _) (As := [.int (Int32.ofInt 0), .int (Int32.ofInt 1)]) (r := []) (b := A 109) (q := 109) 6 (gd rfl) rfl rfl rfl rfl rfl (ww_o rfl) (Nat.le_of_ble_eq_true rfl) (mc := 0) (ms := 0) (Nat.zero_le _) (Nat.zero_le _) (P := fun v u => _) ?_ (fun e u h => h) (fun v u h => h)
                        intro po27x3 xx27x3 hp27x3 hx27x3
                        refine g_enter2 (k := 270) (N := 300) (by first | exact dq1 hd rfl | exact dq0 hd rfl | exact dq2 hd rfl | exact dq3 hd rfl | omega) rfl (Nat.le_of_ble_eq_true rfl) ?_
                        refine g_aload_n 1 (gd rfl) rfl rfl ?_
                        refine g_iload_n 2 (gd rfl) rfl rfl ?_
                        refine g_if_ne 5 9 (gd rfl) rfl rfl (fun c27x3x2 => ?_) (fun c27x3x2 => ?_)
                        · skip
                          exact zn_ne c27x3x2 (in_c 0 rfl) rfl
                        · skip
                          refine g_iconst 1 6 (gd rfl) rfl rfl ?_
                          refine g_goto 18 (gd rfl) rfl ?_
                          refine g_putI 21 (gd rfl) rfl rfl rfl rfl ?_
                          have hI27x3x18 := inv_sF (q := 109) (j := 0) hI rfl (in_w 0 2 (in_c 1 rfl) rfl)
                          refine g_aload_n 22 (gd rfl) rfl rfl ?_
                          refine g_getI 25 (gd rfl) rfl rfl rfl (fun z27x3x22 e27x3x22 => ?_)
                          have q27x3x22 : (Int32.ofInt 1) = z27x3x22 := (sF_get).trans e27x3x22.symm
                          subst q27x3x22
                          refine g_if_le 28 32 (gd rfl) rfl rfl (fun c27x3x25 => ?_) (fun c27x3x25 => ?_)
                          · skip
                            exact zn_le c27x3x25 (in_c 1 rfl) rfl
                          · skip
                            refine g_iconst 1 29 (gd rfl) rfl rfl ?_
                            refine g_goto 33 (gd rfl) rfl ?_
                            refine g_ireturn (gd rfl) rfl (nb01 (in_w 0 1 (in_c 1 rfl) rfl)) (hp27x3 _ _ ?_)
                            show GG _ _ _ _ _ _ _ _ [.int (Int32.ofInt 1)] _ _ _
                            refine g_ireturn (gd rfl) rfl (nb01 (in_w 0 1 (in_c 1 rfl) rfl)) (hp27 _ _ ?_)
                            show GG _ _ _ _ _ _ _ _ [.int (Int32.ofInt 1)] _ _ _
                            refine g_if_eq 33 35 (gd rfl) rfl rfl (fun c30 => ?_) (fun c30 => ?_)
                            · skip
                              exact zn_eq c30 (in_c 1 rfl) rfl
                            · skip
                              refine g_lconst 0 34 (gd rfl) rfl rfl ?_
                              have n34 : CSR s (sF s 109 0 (Int32.ofInt 1)) x1 x2 x3 (Int64.ofInt 0) := by exact Or.inl ⟨rfl, by rw [← e_109_20]; (first | have a0 := in_u i4x10x9 | (have a0 := i4x10x9; unfold In at a0)); (first | have a1 := in_u i4x2x9 | (have a1 := i4x2x9; unfold In at a1)); (first | have a2 := in_u i4x2x9a | (have a2 := i4x2x9a; unfold In at a2)); (first | have a3 := in_u ro_109_19 | (have a3 := ro_109_19; unfold In at a3)); (first | have a4 := in_u i16x10b | (have a4 := i16x10b; unfold In at a4)); (first | have a5 := in_u ((in_c 1 rfl)) | (have a5 := (in_c 1 rfl); unfold In at a5)); have a6 := tx_i2l e11; have oc := oc_357_109; omega⟩
                              exact g_lreturn (gd rfl) rfl (hP _ _ ⟨(sF s 109 0 (Int32.ofInt 1)), hI27x3x18, (fr_sF rfl fr_rf), (Int64.ofInt 0), rfl, rfl, n34⟩)
                      · skip
                        exact zn_ne c19 (in_c 0 rfl) rfl
                    · skip
                      have i16x10 := z_le (-1) 0 c16x10 i16x9 rfl
                      have c16x10a := lc_le e16x9 c16x10
                      have i16x10a := lr_le1 0 200000000 c16x10a i16x3a (l_c 200000000 rfl) rfl
                      have i16x10b := l_b e11 i16x10a
                      refine g_iconst 1 14 (gd rfl) rfl rfl ?_
                      refine g_goto 18 (gd rfl) rfl ?_
                      refine g_ireturn (gd rfl) rfl (nb01 (in_w 0 1 (in_c 1 rfl) rfl)) (hp16 _ _ ?_)
                      show GG _ _ _ _ _ _ _ _ [.int (Int32.ofInt 1), .ref (A 109)] _ _ _
                      refine g_if_eq 22 26 (gd rfl) rfl rfl (fun c19 => ?_) (fun c19 => ?_)
                      · skip
                        exact zn_eq c19 (in_c 1 rfl) rfl
                      · skip
                        refine g_iconst 1 23 (gd rfl) rfl rfl ?_
                        refine g_goto 27 (gd rfl) rfl ?_
                        refine g_callv (X := _) (As := [.int (Int32.ofInt 1)]) (r := []) (b := A 109) (q := 109) 30 (gd rfl) rfl rfl rfl rfl rfl (ww_o rfl) (Nat.le_of_ble_eq_true rfl) (mc := 0) (ms := 0) (Nat.zero_le _) (Nat.zero_le _) (P := fun v u => _) ?_ (fun e u h => h) (fun v u h => h)
                        intro po27 xx27 hp27 hx27
                        refine g_enter2 (k := 271) (N := 300) (by first | exact dq1 hd rfl | exact dq0 hd rfl | exact dq2 hd rfl | exact dq3 hd rfl | omega) rfl (Nat.le_of_ble_eq_true rfl) ?_
                        refine g_aload_n 1 (gd rfl) rfl rfl ?_
                        refine g_iload_n 2 (gd rfl) rfl rfl ?_
                        refine g_iconst 1 3 (gd rfl) rfl rfl ?_
                        refine g_callv (X := _) (As := [.int (Int32.ofInt 1), .int (Int32.ofInt 1)]) (r := []) (b := A 109) (q := 109) 6 (gd rfl) rfl rfl rfl rfl rfl (ww_o rfl) (Nat.le_of_ble_eq_true rfl) (mc := 0) (ms := 0) (Nat.zero_le _) (Nat.zero_le _) (P := fun v u => _) ?_ (fun e u h => h) (fun v u h => h)
                        intro po27x3 xx27x3 hp27x3 hx27x3
                        refine g_enter2 (k := 270) (N := 300) (by first | exact dq1 hd rfl | exact dq0 hd rfl | exact dq2 hd rfl | exact dq3 hd rfl | omega) rfl (Nat.le_of_ble_eq_true rfl) ?_
                        refine g_aload_n 1 (gd rfl) rfl rfl ?_
                        refine g_iload_n 2 (gd rfl) rfl rfl ?_
                        refine g_if_ne 5 9 (gd rfl) rfl rfl (fun c27x3x2 => ?_) (fun c27x3x2 => ?_)
                        · skip
                          refine g_iload_n 10 (gd rfl) rfl rfl ?_
                          refine g_if_ne 13 17 (gd rfl) rfl rfl (fun c27x3x10 => ?_) (fun c27x3x10 => ?_)
                          · skip
                            refine g_iconst 0 18 (gd rfl) rfl rfl ?_
                            refine g_putI 21 (gd rfl) rfl rfl rfl rfl ?_
                            have hI27x3x18 := inv_sF (q := 109) (j := 0) hI rfl (in_w 0 2 (in_c 0 rfl) rfl)
                            refine g_aload_n 22 (gd rfl) rfl rfl ?_
                            refine g_getI 25 (gd rfl) rfl rfl rfl (fun z27x3x22 e27x3x22 => ?_)
                            have q27x3x22 : (Int32.ofInt 0) = z27x3x22 := (sF_get).trans e27x3x22.symm
                            subst q27x3x22
                            refine g_if_le 28 32 (gd rfl) rfl rfl (fun c27x3x25 => ?_) (fun c27x3x25 => ?_)
                            · skip
                              refine g_iconst 0 33 (gd rfl) rfl rfl ?_
                              refine g_ireturn (gd rfl) rfl (nb01 (in_w 0 1 (in_c 0 rfl) rfl)) (hp27x3 _ _ ?_)
                              show GG _ _ _ _ _ _ _ _ [.int (Int32.ofInt 0)] _ _ _
                              refine g_ireturn (gd rfl) rfl (nb01 (in_w 0 1 (in_c 0 rfl) rfl)) (hp27 _ _ ?_)
                              show GG _ _ _ _ _ _ _ _ [.int (Int32.ofInt 0)] _ _ _
                              refine g_if_eq 33 35 (gd rfl) rfl rfl (fun c30 => ?_) (fun c30 => ?_)
                              · skip
                                refine g_iconst 0 36 (gd rfl) rfl rfl ?_
                                refine g_istore 38 (gd rfl) rfl (Nat.le_of_ble_eq_true rfl) ?_
                                have n38 : ∀ k : Nat, (k : Int) < ((Int32.ofInt 0)).toInt → -200000000 ≤ ((sF s 109 0 (Int32.ofInt 0)).2.1 150 k).toInt ∧ ((sF s 109 0 (Int32.ofInt 0)).2.1 150 k).toInt ≤ 200000000 := by (intro k hk; exfalso; have h0 : (Int32.ofInt 0).toInt = 0 := rfl; omega)
                                have n38a : ZB0 (((sF s 109 0 (Int32.ofInt 0))).2.1 150) (x1).toNatClampNeg (x2).toNatClampNeg (x3).toInt ((Int32.ofInt 0)).toNatClampNeg := by intro v hv; exact absurd hv (Nat.not_lt_zero v)
                                have n38b : (((sF s 109 0 (Int32.ofInt 0))).2.2.1 109 0).toInt = 0 := by rfl
                                have n38c : (x1).toInt ≠ (x2).toInt ∧ (x1).toInt < (s.2.2.1 109 20).toInt ∧ (x2).toInt < (s.2.2.1 109 20).toInt := by rw [← e_109_20]; exact ⟨by (first | have a0 := in_u i4x10x9 | (have a0 := i4x10x9; unfold In at a0)); (first | have a1 := in_u i4x2x9 | (have a1 := i4x2x9; unfold In at a1)); (first | have a2 := in_u i4x2x9a | (have a2 := i4x2x9a; unfold In at a2)); (first | have a3 := in_u ro_109_19 | (have a3 := ro_109_19; unfold In at a3)); (first | have a4 := in_u ((in_c 0 rfl)) | (have a4 := (in_c 0 rfl); unfold In at a4)); (first | have a5 := in_u i16x10b | (have a5 := i16x10b; unfold In at a5)); have a6 := tx_i2l e11; have oc := oc_357_109; omega, by (first | have a0 := in_u i4x10x9 | (have a0 := i4x10x9; unfold In at a0)); (first | have a1 := in_u i4x2x9 | (have a1 := i4x2x9; unfold In at a1)); (first | have a2 := in_u i4x2x9a | (have a2 := i4x2x9a; unfold In at a2)); (first | have a3 := in_u ro_109_19 | (have a3 := ro_109_19; unfold In at a3)); (first | have a4 := in_u ((in_c 0 rfl)) | (have a4 := (in_c 0 rfl); unfold In at a4)); (first | have a5 := in_u i16x10b | (have a5 := i16x10b; unfold In at a5)); have a6 := tx_i2l e11; have oc := oc_357_109; omega, by (first | have a0 := in_u i4x10x9 | (have a0 := i4x10x9; unfold In at a0)); (first | have a1 := in_u i4x2x9 | (have a1 := i4x2x9; unfold In at a1)); (first | have a2 := in_u i4x2x9a | (have a2 := i4x2x9a; unfold In at a2)); (first | have a3 := in_u ro_109_19 | (have a3 := ro_109_19; unfold In at a3)); (first | have a4 := in_u ((in_c 0 rfl)) | (have a4 := (in_c 0 rfl); unfold In at a4)); (first | have a5 := in_u i16x10b | (have a5 := i16x10b; unfold In at a5)); have a6 := tx_i2l e11; have oc := oc_357_109; omega⟩
                                exact gg_w (by first | exact Nat.le_of_ble_eq_true rfl | omega) (gg_f (gf_cons rfl (gf_cons rfl (gf_cons rfl (gf_cons rfl (gf_cons rfl gf_nil))))) (ct38 33 (sF s 109 0 (Int32.ofInt 0)) (Int32.ofInt 0) hI27x3x18 (fr_sF rfl fr_rf) (in_w 0 31 i4x2x9 rfl) (in_w 0 31 i4x10x9 rfl) (in_w 0 200000000 i16x10b rfl) (in_w 0 32 (in_c 0 rfl) rfl) n38 n38a n38b n38c (m_in 33 (in_w 0 32 (in_c 0 rfl) rfl) rfl)))
                              · skip
                                exact zn_ne c30 (in_c 0 rfl) rfl
                            · skip
                              exact zn_gt c27x3x25 (in_c 0 rfl) rfl
                          · skip
                            exact zn_eq c27x3x10 (in_c 1 rfl) rfl
                        · skip
                          exact zn_eq c27x3x2 (in_c 1 rfl) rfl
