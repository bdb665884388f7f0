/-! THE LAW'S CASES AND ITS LOOP -/
theorem rm_le {R C C2 k : Nat} (h : (R + 1) * k ≤ C) (h2 : C - k ≤ C2) : R * k ≤ C2 := by
  rw [Nat.succ_mul] at h
  exact Nat.le_trans (Nat.le_sub_of_add_le h) h2
theorem sx_len {z : Int32} {L : Nat} (e : z = Int32.ofNat L - Int32.ofInt 6) (hL : L ≤ 384) : z.toInt = (L : Int) - 6 := by
  have a : (Int32.ofNat L).toInt = (L : Int) := Int32.toInt_ofNat_of_lt (by omega)
  have b : In (Int32.ofNat L) 0 384 := ⟨by rw [a]; omega, by rw [a]; omega⟩
  have t := t_sub e b (in_c 6 rfl) rfl
  rw [a] at t
  exact t

section
variable {Z : AmZ} {d m N pc : Nat} {ret : AmR} {f : Nat → Option Value} {r : List Value} {ws : va_W} {C S : Nat}
theorem g_sldL' {b L : Nat} {xs : Nat → Int32} {j : Int32} (p : Nat) (hd : GD m pc (.iaload) 1) (hp : pc + 1 = p) (hj : vp_in j L) (h : ∀ z, z = xs j.toNatClampNeg → GG Z d m ret (gl Z b L xs) N p f (.int z :: r) ws C S) : GG Z d m ret (gl Z b L xs) (N + 1) pc f (.int j :: .ref b :: r) ws C S := g_sld p hd hp hj h
end
theorem lot_zz {z : Int32} {T : Nat → Int32} {n : Nat} {g h : GVW} {P : Prop} (hl : z.toInt ≠ -4 → LOT T n g z.toInt 0 0 h ∧ P) : -4 ≤ z.toInt ∧ (z.toInt < 0 → z.toInt = -4) := by
  by_cases q : z.toInt = -4
  · exact ⟨by omega, fun _ => q⟩
  · rcases (hl q).1 with ⟨k, a, g1, h1, h2, h3, -⟩ | ⟨k, a, q2, g1, h1, h2, h3, -⟩
    · exact ⟨by omega, fun _ => by omega⟩
    · exact absurd h3 q
theorem lot_b {T : Nat → Int32} {n : Nat} {g h : GVW} {z f p : Int} (hl : LOT T n g z f p h) (hz : z = -4) : GEQ h g := by
  rcases hl with ⟨k, a, g1, h1, h2, h3, -⟩ | ⟨k, a, q2, g1, h1, h2, h3, h4, h5⟩
  · omega
  · exact h5
theorem lg_cmp_self {x : Int64} : (lg_cmp x x).toInt = 0 := by
  have h : ¬ x < x := by rw [Int64.lt_iff_toInt_lt]; omega
  unfold lg_cmp
  rw [if_neg h, if_pos rfl]
  rfl

theorem ndc_of {s : GS} (hI : Inv s) (hR : REL3 s) : NDC s := ndq_e (rel3_sh hI hR) (ndq_z hI)

theorem ext_pre {s : GS} {H : Nat → GVW} (hI : Inv s) (h : HSX s H) : SHBC s := by
  intro e
  obtain ⟨a, b, c⟩ := hsx_sh (hsy_of h) hI
  rcases h.2.2.2.2.2 with q | ⟨-, -, q⟩
  · omega
  · rw [e, shn_e (gew_v a)] at q
    exact q
theorem ext_put {s t : GS} {F : FM} {H : Nat → GVW} (hI : Inv s) (h : HSX s H) (hF : Fr F s t) (hk : KQB F = true) (hx : SHG (shC s) t) : EXK t H := by
  obtain ⟨a, b, c⟩ := hsx_sh (hsy_of h) hI
  obtain ⟨x1, x2⟩ := hx
  have e20 := fr_20 hF (b_and (b_and hk).2).1
  refine Or.inr ⟨by rw [x1]; exact b, by rw [x1, e20]; exact c, ?_⟩
  rw [x1, shn_e (gew_v a)]
  exact x2
theorem ext_kp {s t : GS} {F : FM} {H : Nat → GVW} (hI : Inv s) (h : HSX s H) (hF : Fr F s t) (hk : KQB F = true) (hx : SHG (shC s) t) : EXK t H := ext_put hI h hF hk hx
theorem m_shorts {s t : GS} {c z z2 x y : Int32} (hI : Inv s) (hR : REL3 s) (h1 : QRS c (TWO (shC s).2.2.2.2.2.2.1 x y) (SHV (shC s) x.toNatClampNeg y.toNatClampNeg z.toInt)) (h2 : SHOR s t x y z2) : (t.2.2.1 109 0).toInt = c.toInt ∧ (c.toInt = 0 → z = z2) := by
  have q := rel3_sh hI hR
  have en : (shC s).2.2.2.2.2.2.1 = (s.2.2.1 109 20).toInt := by
    rw [q.2.2.2]
    have k : s.2.2.1 109 20 = s.1 110 (s.2.2.1 109 18).toNatClampNeg := hI.2.2.2.2.2.2.2.2.2.2
    rw [k]
    rfl
  exact qrs_meet (by rw [en]) h1 h2 (fun p r r2 => i_eq.mpr (shv_u q r r2))

theorem wz_18 {Z : AmZ} {A : Nat → Nat} {s : GS} {x1 : Int32} {x2 : Int32} {x3 : Int32} {x4 : Int32} (hI : Inv s) (q : KL s) (hq0 : TQ s) (hq1 : TQD s) (hq2 : NDC s) (hq3 : SHBC s) : WC Z 1300 18 [.ref (A 0), .int x1, .int x2, .int x3, .int x4, .ref (A 195)] (WW Z A s ++ []) 3 18 (fun v u => ∃ (c : Int32) (t : GS) (z : Int32), v = some (.int c) ∧ u = WW Z A t ++ [] ∧ Inv t ∧ Fr (fm_233_0.1, 195 :: fm_233_0.2.1, fm_233_0.2.2) s t ∧ KL t ∧ QRS c ((TWO (shC s).2.2.2.2.2.2.1 x1 x2) ∧ 0 ≤ x3.toInt ∧ 0 ≤ x4.toInt) (True) ∧ (c.toInt = 0 → t.2.1 195 0 = z.toInt64) ∧ ((c.toInt = 1 ∧ Fr ([], [195], [], []) s t) ∨ (c.toInt = 0 ∧ SHG (shC s) t))) := by
  intro post hP xp
  refine w_enter (k := 18) (d := 1299) (N := 60) rfl (Nat.le_of_ble_eq_true rfl) ?_
  refine g_aload 2 (gd rfl) rfl rfl ?_
  refine g_iconst 0 3 (gd rfl) rfl rfl ?_
  refine g_aload_n 4 (gd rfl) rfl rfl ?_
  refine g_iload_n 5 (gd rfl) rfl rfl ?_
  refine g_iload_n 6 (gd rfl) rfl rfl ?_
  refine g_iload_n 7 (gd rfl) rfl rfl ?_
  refine g_iload 9 (gd rfl) rfl rfl ?_
  refine g_callvH (As := [.int x1, .int x2, .int x3, .int x4]) (r := [.int (Int32.ofInt 0), .ref (A 195)]) (b := A 0) (q := 0) 12 (gd rfl) rfl rfl rfl rfl rfl rfl (ww_o rfl) (Nat.le_of_ble_eq_true rfl) (Nat.le_refl _) (Nat.le_refl _) (f_233_0 (by omega) hI  hq0 hq1 hq2 hq3) (fun e u h => ?_) (fun v u h => ?_)
  · obtain ⟨he, t, hI2, hF2, rfl⟩ := h
    rcases he with ⟨rfl, hn⟩ | ⟨rfl, hn⟩
    · refine ⟨0, 17, by decide, rfl, rfl, fun a => ?_⟩
      refine g_astore 19 (gd rfl) rfl (Nat.le_of_ble_eq_true rfl) ?_
      refine g_iconst 1 20 (gd rfl) rfl rfl ?_
      exact g_ireturn (gd rfl) rfl rfl (hP _ _ ⟨_, t, Int32.ofInt 0, rfl, rfl, hI2, fr_195' (fr_up hF2), kl_fr q hF2 rfl, Or.inl ⟨rfl, hn⟩, fun z => absurd z (by decide), Or.inl ⟨rfl, fr_up hF2⟩⟩)
    · exact hn.elim
  · obtain ⟨t, hI2, hF2, z, rfl, rfl, iz, hv, hcp⟩ := h
    show GG _ _ _ _ _ _ _ _ [.int z, .int (Int32.ofInt 0), .ref (A 195)] _ _ _
    refine g_i2l 13 (gd rfl) rfl (fun z12 e12 => ?_)
    refine g_ouS (A := A) 14 (gd rfl) rfl ?_
    refine g_goto 21 (gd rfl) rfl ?_
    refine g_iconst 0 22 (gd rfl) rfl rfl ?_
    refine g_ireturn (gd rfl) rfl rfl (hP _ _ ⟨_, sL t 195 0 z12, z, rfl, rfl, inv_195 hI2, fr_195 hF2, kl_195 (kl_fr q hF2 rfl), Or.inr ⟨rfl, hv⟩, fun _ => ?_, Or.inr ⟨rfl, (by exact hcp)⟩⟩)
    show (if 195 = 195 then vp_updL (t.2.1 195) 0 z12 else t.2.1 195) 0 = z.toInt64
    rw [if_pos rfl, ← e12]
    exact if_pos rfl

theorem lc_509 {Z : AmZ} {b L : Nat} {xs : Nat → Int32} {A : Nat → Nat} {s : GS} {i : Int32} {C S N : Nat} {ret : AmR} (hL : L ≤ 384) (h0 : 0 ≤ i.toInt) (h6 : i.toInt + 6 ≤ (L : Int)) (hC : 4000 ≤ C) (hS : 90000 ≤ S) (hI : Inv s) (hK : KL s) (hR : REL3 s)
    (next : ∀ (A2 : Nat → Nat) (t : GS) (C2 S2 : Nat), A2 0 = A 0 → A2 109 = A 109 → A2 195 = A 195 → Inv t → KL t → REL3 t → C - 4000 ≤ C2 → S - 90000 ≤ S2 → GG Z 1300 0 ret (gl Z b L xs) N 1884 (fun j => xlook j [(0, .ref b), (1, .ref (A 0)), (2, .ref (A 109)), (3, .ref (A 195)), (4, .int i)]) [] (WW Z A2 t ++ []) C2 S2) :
    GG Z 1300 0 ret (gl Z b L xs) (N + 100) 509 (fun j => xlook j [(0, .ref b), (1, .ref (A 0)), (2, .ref (A 109)), (3, .ref (A 195)), (4, .int i)]) [] (WW Z A s ++ []) C S := by
  refine g_aload_n 510 (gd rfl) rfl rfl ?_
  refine g_aload_n 511 (gd rfl) rfl rfl ?_
  refine g_iload 513 (gd rfl) rfl rfl ?_
  refine g_iconst 1 514 (gd rfl) rfl rfl ?_
  refine g_iadd 515 (gd rfl) rfl (fun z514 e514 => ?_)
  refine g_sldL 516 (gd rfl) rfl (sx_in e514 h0 h6 hL rfl) (fun z515 => ?_)
  refine g_aload_n 517 (gd rfl) rfl rfl ?_
  refine g_callW (As := [.ref (A 0), .int z515, .ref (A 195)]) (r := []) 520 (gd rfl) rfl rfl rfl rfl rfl (Nat.le_of_ble_eq_true rfl) (mc := 3) (ms := 18) (by omega) (by omega) (w_7 hI hK) (fun v u h => ?_)
  obtain ⟨c1, A2, t1, rfl, rfl, a0, a1, a3, hI1, hF1, hK1⟩ := h
  have hR1 := rel3_fr hR hF1 rfl rfl
  show GG _ _ _ _ _ _ _ _ [.int c1] _ _ _
  refine g_istore 522 (gd rfl) rfl (Nat.le_of_ble_eq_true rfl) ?_
  refine g_aload_n 523 (gd rfl) rfl rfl ?_
  refine g_aload_n 524 (gd rfl) rfl rfl ?_
  refine g_iload 526 (gd rfl) rfl rfl ?_
  refine g_iconst 1 527 (gd rfl) rfl rfl ?_
  refine g_iadd 528 (gd rfl) rfl (fun z527 e527 => ?_)
  refine g_sldL 529 (gd rfl) rfl (sx_in e527 h0 h6 hL rfl) (fun z528 => ?_)
  have kc2 := k_289 (Z := Z) (A := A2) (s := t1) (ex := []) (d := 1300) (X := g_no) (x1 := z528) (by omega) hI1 
  rw [a1] at kc2
  refine g_callvL (As := [.int z528]) (r := []) (b := A 109) (q := 109) 532 (gd rfl) rfl rfl rfl rfl rfl (by rw [← a1]; exact ww_o rfl) (Nat.le_of_ble_eq_true rfl) (mc := 0) (ms := 0) (by omega) (by omega) kc2 (fun e u h => h) (fun v u h => ?_)
  obtain ⟨t2, hI2, hF2, c2, rfl, rfl, tl⟩ := h
  have hK2 : KL t2 := kl_fr hK1 hF2 rfl
  have hR2 := rel3_fr hR1 hF2 rfl rfl
  show GG _ _ _ _ _ _ _ _ [.int c2] _ _ _
  refine g_istore 534 (gd rfl) rfl (Nat.le_of_ble_eq_true rfl) ?_
  refine g_goto 1884 (gd rfl) rfl ?_
  exact gg_w (by omega) (gg_f (gf_cons rfl (gf_cons rfl (gf_cons rfl (gf_cons rfl (gf_cons rfl gf_nil))))) (next A2 t2 _ _ a0 a1 a3 hI2 hK2 hR2 (by omega) (by omega)))

theorem lc_537 {Z : AmZ} {b L : Nat} {xs : Nat → Int32} {A : Nat → Nat} {s : GS} {i : Int32} {C S N : Nat} {ret : AmR} (hL : L ≤ 384) (h0 : 0 ≤ i.toInt) (h6 : i.toInt + 6 ≤ (L : Int)) (hC : 4000 ≤ C) (hS : 90000 ≤ S) (hI : Inv s) (hK : KL s) (hR : REL3 s)
    (next : ∀ (A2 : Nat → Nat) (t : GS) (C2 S2 : Nat), A2 0 = A 0 → A2 109 = A 109 → A2 195 = A 195 → Inv t → KL t → REL3 t → C - 4000 ≤ C2 → S - 90000 ≤ S2 → GG Z 1300 0 ret (gl Z b L xs) N 1884 (fun j => xlook j [(0, .ref b), (1, .ref (A 0)), (2, .ref (A 109)), (3, .ref (A 195)), (4, .int i)]) [] (WW Z A2 t ++ []) C2 S2) :
    GG Z 1300 0 ret (gl Z b L xs) (N + 100) 537 (fun j => xlook j [(0, .ref b), (1, .ref (A 0)), (2, .ref (A 109)), (3, .ref (A 195)), (4, .int i)]) [] (WW Z A s ++ []) C S := by
  refine g_aload_n 538 (gd rfl) rfl rfl ?_
  refine g_aload_n 539 (gd rfl) rfl rfl ?_
  refine g_iload 541 (gd rfl) rfl rfl ?_
  refine g_iconst 1 542 (gd rfl) rfl rfl ?_
  refine g_iadd 543 (gd rfl) rfl (fun z542 e542 => ?_)
  refine g_sldL 544 (gd rfl) rfl (sx_in e542 h0 h6 hL rfl) (fun z543 => ?_)
  refine g_aload_n 545 (gd rfl) rfl rfl ?_
  refine g_iload 547 (gd rfl) rfl rfl ?_
  refine g_iconst 2 548 (gd rfl) rfl rfl ?_
  refine g_iadd 549 (gd rfl) rfl (fun z548 e548 => ?_)
  refine g_sldL 550 (gd rfl) rfl (sx_in e548 h0 h6 hL rfl) (fun z549 => ?_)
  refine g_aload_n 551 (gd rfl) rfl rfl ?_
  refine g_callW (As := [.ref (A 0), .int z543, .int z549, .ref (A 195)]) (r := []) 554 (gd rfl) rfl rfl rfl rfl rfl (Nat.le_of_ble_eq_true rfl) (mc := 3) (ms := 18) (by omega) (by omega) (w_8 hI hK) (fun v u h => ?_)
  obtain ⟨c1, A2, t1, rfl, rfl, a0, a1, a3, hI1, hF1, hK1⟩ := h
  have hR1 := rel3_fr hR hF1 rfl rfl
  show GG _ _ _ _ _ _ _ _ [.int c1] _ _ _
  refine g_istore 556 (gd rfl) rfl (Nat.le_of_ble_eq_true rfl) ?_
  refine g_aload_n 557 (gd rfl) rfl rfl ?_
  refine g_aload_n 558 (gd rfl) rfl rfl ?_
  refine g_iload 560 (gd rfl) rfl rfl ?_
  refine g_iconst 1 561 (gd rfl) rfl rfl ?_
  refine g_iadd 562 (gd rfl) rfl (fun z561 e561 => ?_)
  refine g_sldL 563 (gd rfl) rfl (sx_in e561 h0 h6 hL rfl) (fun z562 => ?_)
  refine g_aload_n 564 (gd rfl) rfl rfl ?_
  refine g_iload 566 (gd rfl) rfl rfl ?_
  refine g_iconst 2 567 (gd rfl) rfl rfl ?_
  refine g_iadd 568 (gd rfl) rfl (fun z567 e567 => ?_)
  refine g_sldL 569 (gd rfl) rfl (sx_in e567 h0 h6 hL rfl) (fun z568 => ?_)
  have kc2 := k_290 (Z := Z) (A := A2) (s := t1) (ex := []) (d := 1300) (X := g_no) (x1 := z562) (x2 := z568) (by omega) hI1 
  rw [a1] at kc2
  refine g_callvL (As := [.int z562, .int z568]) (r := []) (b := A 109) (q := 109) 572 (gd rfl) rfl rfl rfl rfl rfl (by rw [← a1]; exact ww_o rfl) (Nat.le_of_ble_eq_true rfl) (mc := 0) (ms := 0) (by omega) (by omega) kc2 (fun e u h => h) (fun v u h => ?_)
  obtain ⟨t2, hI2, hF2, c2, rfl, rfl⟩ := h
  have hK2 : KL t2 := kl_fr hK1 hF2 rfl
  have hR2 := rel3_fr hR1 hF2 rfl rfl
  show GG _ _ _ _ _ _ _ _ [.long c2] _ _ _
  refine g_lstore 574 (gd rfl) rfl (Nat.le_of_ble_eq_true rfl) ?_
  refine g_goto 1884 (gd rfl) rfl ?_
  exact gg_w (by omega) (gg_f (gf_cons rfl (gf_cons rfl (gf_cons rfl (gf_cons rfl (gf_cons rfl gf_nil))))) (next A2 t2 _ _ a0 a1 a3 hI2 hK2 hR2 (by omega) (by omega)))

theorem lc_577 {Z : AmZ} {b L : Nat} {xs : Nat → Int32} {A : Nat → Nat} {s : GS} {i : Int32} {C S N : Nat} {ret : AmR} (hL : L ≤ 384) (h0 : 0 ≤ i.toInt) (h6 : i.toInt + 6 ≤ (L : Int)) (hC : 4000 ≤ C) (hS : 90000 ≤ S) (hI : Inv s) (hK : KL s) (hR : REL3 s)
    (next : ∀ (A2 : Nat → Nat) (t : GS) (C2 S2 : Nat), A2 0 = A 0 → A2 109 = A 109 → A2 195 = A 195 → Inv t → KL t → REL3 t → C - 4000 ≤ C2 → S - 90000 ≤ S2 → GG Z 1300 0 ret (gl Z b L xs) N 1884 (fun j => xlook j [(0, .ref b), (1, .ref (A 0)), (2, .ref (A 109)), (3, .ref (A 195)), (4, .int i)]) [] (WW Z A2 t ++ []) C2 S2) :
    GG Z 1300 0 ret (gl Z b L xs) (N + 100) 577 (fun j => xlook j [(0, .ref b), (1, .ref (A 0)), (2, .ref (A 109)), (3, .ref (A 195)), (4, .int i)]) [] (WW Z A s ++ []) C S := by
  refine g_aload_n 578 (gd rfl) rfl rfl ?_
  refine g_aload_n 579 (gd rfl) rfl rfl ?_
  refine g_iload 581 (gd rfl) rfl rfl ?_
  refine g_iconst 1 582 (gd rfl) rfl rfl ?_
  refine g_iadd 583 (gd rfl) rfl (fun z582 e582 => ?_)
  refine g_sldL 584 (gd rfl) rfl (sx_in e582 h0 h6 hL rfl) (fun z583 => ?_)
  refine g_aload_n 585 (gd rfl) rfl rfl ?_
  refine g_callW (As := [.ref (A 0), .int z583, .ref (A 195)]) (r := []) 588 (gd rfl) rfl rfl rfl rfl rfl (Nat.le_of_ble_eq_true rfl) (mc := 3) (ms := 18) (by omega) (by omega) (w_9 hI hK) (fun v u h => ?_)
  obtain ⟨c1, A2, t1, rfl, rfl, a0, a1, a3, hI1, hF1, hK1⟩ := h
  have hR1 := rel3_fr hR hF1 rfl rfl
  show GG _ _ _ _ _ _ _ _ [.int c1] _ _ _
  refine g_istore 590 (gd rfl) rfl (Nat.le_of_ble_eq_true rfl) ?_
  refine g_aload_n 591 (gd rfl) rfl rfl ?_
  refine g_aload_n 592 (gd rfl) rfl rfl ?_
  refine g_iload 594 (gd rfl) rfl rfl ?_
  refine g_iconst 1 595 (gd rfl) rfl rfl ?_
  refine g_iadd 596 (gd rfl) rfl (fun z595 e595 => ?_)
  refine g_sldL 597 (gd rfl) rfl (sx_in e595 h0 h6 hL rfl) (fun z596 => ?_)
  have kc2 := k_291 (Z := Z) (A := A2) (s := t1) (ex := []) (d := 1300) (X := g_no) (x1 := z596) (by omega) hI1 
  rw [a1] at kc2
  refine g_callvL (As := [.int z596]) (r := []) (b := A 109) (q := 109) 600 (gd rfl) rfl rfl rfl rfl rfl (by rw [← a1]; exact ww_o rfl) (Nat.le_of_ble_eq_true rfl) (mc := 0) (ms := 0) (by omega) (by omega) kc2 (fun e u h => h) (fun v u h => ?_)
  obtain ⟨t2, hI2, hF2, c2, rfl, rfl, tl⟩ := h
  have hK2 : KL t2 := kl_fr hK1 hF2 rfl
  have hR2 := rel3_fr hR1 hF2 rfl rfl
  show GG _ _ _ _ _ _ _ _ [.int c2] _ _ _
  refine g_istore 602 (gd rfl) rfl (Nat.le_of_ble_eq_true rfl) ?_
  refine g_goto 1884 (gd rfl) rfl ?_
  exact gg_w (by omega) (gg_f (gf_cons rfl (gf_cons rfl (gf_cons rfl (gf_cons rfl (gf_cons rfl gf_nil))))) (next A2 t2 _ _ a0 a1 a3 hI2 hK2 hR2 (by omega) (by omega)))

theorem lc_605 {Z : AmZ} {b L : Nat} {xs : Nat → Int32} {A : Nat → Nat} {s : GS} {i : Int32} {C S N : Nat} {ret : AmR} (hL : L ≤ 384) (h0 : 0 ≤ i.toInt) (h6 : i.toInt + 6 ≤ (L : Int)) (hC : 4000 ≤ C) (hS : 90000 ≤ S) (hI : Inv s) (hK : KL s) (hR : REL3 s)
    (next : ∀ (A2 : Nat → Nat) (t : GS) (C2 S2 : Nat), A2 0 = A 0 → A2 109 = A 109 → A2 195 = A 195 → Inv t → KL t → REL3 t → C - 4000 ≤ C2 → S - 90000 ≤ S2 → GG Z 1300 0 ret (gl Z b L xs) N 1884 (fun j => xlook j [(0, .ref b), (1, .ref (A 0)), (2, .ref (A 109)), (3, .ref (A 195)), (4, .int i)]) [] (WW Z A2 t ++ []) C2 S2) :
    GG Z 1300 0 ret (gl Z b L xs) (N + 100) 605 (fun j => xlook j [(0, .ref b), (1, .ref (A 0)), (2, .ref (A 109)), (3, .ref (A 195)), (4, .int i)]) [] (WW Z A s ++ []) C S := by
  refine g_aload_n 606 (gd rfl) rfl rfl ?_
  refine g_aload_n 607 (gd rfl) rfl rfl ?_
  refine g_iload 609 (gd rfl) rfl rfl ?_
  refine g_iconst 1 610 (gd rfl) rfl rfl ?_
  refine g_iadd 611 (gd rfl) rfl (fun z610 e610 => ?_)
  refine g_sldL 612 (gd rfl) rfl (sx_in e610 h0 h6 hL rfl) (fun z611 => ?_)
  refine g_aload_n 613 (gd rfl) rfl rfl ?_
  refine g_iload 615 (gd rfl) rfl rfl ?_
  refine g_iconst 2 616 (gd rfl) rfl rfl ?_
  refine g_iadd 617 (gd rfl) rfl (fun z616 e616 => ?_)
  refine g_sldL 618 (gd rfl) rfl (sx_in e616 h0 h6 hL rfl) (fun z617 => ?_)
  refine g_aload_n 619 (gd rfl) rfl rfl ?_
  refine g_iload 621 (gd rfl) rfl rfl ?_
  refine g_iconst 3 622 (gd rfl) rfl rfl ?_
  refine g_iadd 623 (gd rfl) rfl (fun z622 e622 => ?_)
  refine g_sldL 624 (gd rfl) rfl (sx_in e622 h0 h6 hL rfl) (fun z623 => ?_)
  refine g_aload_n 625 (gd rfl) rfl rfl ?_
  refine g_callW (As := [.ref (A 0), .int z611, .int z617, .int z623, .ref (A 195)]) (r := []) 628 (gd rfl) rfl rfl rfl rfl rfl (Nat.le_of_ble_eq_true rfl) (mc := 3) (ms := 18) (by omega) (by omega) (w_10 hI hK) (fun v u h => ?_)
  obtain ⟨c1, A2, t1, rfl, rfl, a0, a1, a3, hI1, hF1, hK1⟩ := h
  have hR1 := rel3_fr hR hF1 rfl rfl
  show GG _ _ _ _ _ _ _ _ [.int c1] _ _ _
  refine g_istore 630 (gd rfl) rfl (Nat.le_of_ble_eq_true rfl) ?_
  refine g_aload_n 631 (gd rfl) rfl rfl ?_
  refine g_aload_n 632 (gd rfl) rfl rfl ?_
  refine g_iload 634 (gd rfl) rfl rfl ?_
  refine g_iconst 1 635 (gd rfl) rfl rfl ?_
  refine g_iadd 636 (gd rfl) rfl (fun z635 e635 => ?_)
  refine g_sldL 637 (gd rfl) rfl (sx_in e635 h0 h6 hL rfl) (fun z636 => ?_)
  refine g_aload_n 638 (gd rfl) rfl rfl ?_
  refine g_iload 640 (gd rfl) rfl rfl ?_
  refine g_iconst 2 641 (gd rfl) rfl rfl ?_
  refine g_iadd 642 (gd rfl) rfl (fun z641 e641 => ?_)
  refine g_sldL 643 (gd rfl) rfl (sx_in e641 h0 h6 hL rfl) (fun z642 => ?_)
  refine g_aload_n 644 (gd rfl) rfl rfl ?_
  refine g_iload 646 (gd rfl) rfl rfl ?_
  refine g_iconst 3 647 (gd rfl) rfl rfl ?_
  refine g_iadd 648 (gd rfl) rfl (fun z647 e647 => ?_)
  refine g_sldL 649 (gd rfl) rfl (sx_in e647 h0 h6 hL rfl) (fun z648 => ?_)
  have kc2 := k_292 (Z := Z) (A := A2) (s := t1) (ex := []) (d := 1300) (X := g_no) (x1 := z636) (x2 := z642) (x3 := z648) (by omega) hI1 
  rw [a1] at kc2
  refine g_callvL (As := [.int z636, .int z642, .int z648]) (r := []) (b := A 109) (q := 109) 652 (gd rfl) rfl rfl rfl rfl rfl (by rw [← a1]; exact ww_o rfl) (Nat.le_of_ble_eq_true rfl) (mc := 0) (ms := 0) (by omega) (by omega) kc2 (fun e u h => h) (fun v u h => ?_)
  obtain ⟨t2, hI2, hF2, c2, rfl, rfl, tl⟩ := h
  have hK2 : KL t2 := kl_fr hK1 hF2 rfl
  have hR2 := rel3_fr hR1 hF2 rfl rfl
  show GG _ _ _ _ _ _ _ _ [.int c2] _ _ _
  refine g_istore 654 (gd rfl) rfl (Nat.le_of_ble_eq_true rfl) ?_
  refine g_goto 1884 (gd rfl) rfl ?_
  exact gg_w (by omega) (gg_f (gf_cons rfl (gf_cons rfl (gf_cons rfl (gf_cons rfl (gf_cons rfl gf_nil))))) (next A2 t2 _ _ a0 a1 a3 hI2 hK2 hR2 (by omega) (by omega)))

theorem lc_711 {Z : AmZ} {b L : Nat} {xs : Nat → Int32} {A : Nat → Nat} {s : GS} {i : Int32} {C S N : Nat} {ret : AmR} (hL : L ≤ 384) (h0 : 0 ≤ i.toInt) (h6 : i.toInt + 6 ≤ (L : Int)) (hC : 4000 ≤ C) (hS : 90000 ≤ S) (hI : Inv s) (hK : KL s) (hR : REL3 s)
    (next : ∀ (A2 : Nat → Nat) (t : GS) (C2 S2 : Nat), A2 0 = A 0 → A2 109 = A 109 → A2 195 = A 195 → Inv t → KL t → REL3 t → C - 4000 ≤ C2 → S - 90000 ≤ S2 → GG Z 1300 0 ret (gl Z b L xs) N 1884 (fun j => xlook j [(0, .ref b), (1, .ref (A 0)), (2, .ref (A 109)), (3, .ref (A 195)), (4, .int i)]) [] (WW Z A2 t ++ []) C2 S2) :
    GG Z 1300 0 ret (gl Z b L xs) (N + 100) 711 (fun j => xlook j [(0, .ref b), (1, .ref (A 0)), (2, .ref (A 109)), (3, .ref (A 195)), (4, .int i)]) [] (WW Z A s ++ []) C S := by
  refine g_aload_n 712 (gd rfl) rfl rfl ?_
  refine g_aload_n 713 (gd rfl) rfl rfl ?_
  refine g_iload 715 (gd rfl) rfl rfl ?_
  refine g_iconst 1 716 (gd rfl) rfl rfl ?_
  refine g_iadd 717 (gd rfl) rfl (fun z716 e716 => ?_)
  refine g_sldL 718 (gd rfl) rfl (sx_in e716 h0 h6 hL rfl) (fun z717 => ?_)
  refine g_aload_n 719 (gd rfl) rfl rfl ?_
  refine g_callW (As := [.ref (A 0), .int z717, .ref (A 195)]) (r := []) 722 (gd rfl) rfl rfl rfl rfl rfl (Nat.le_of_ble_eq_true rfl) (mc := 3) (ms := 18) (by omega) (by omega) (w_12 hI hK) (fun v u h => ?_)
  obtain ⟨c1, A2, t1, rfl, rfl, a0, a1, a3, hI1, hF1, hK1⟩ := h
  have hR1 := rel3_fr hR hF1 rfl rfl
  show GG _ _ _ _ _ _ _ _ [.int c1] _ _ _
  refine g_istore 724 (gd rfl) rfl (Nat.le_of_ble_eq_true rfl) ?_
  refine g_aload_n 725 (gd rfl) rfl rfl ?_
  refine g_aload_n 726 (gd rfl) rfl rfl ?_
  refine g_iload 728 (gd rfl) rfl rfl ?_
  refine g_iconst 1 729 (gd rfl) rfl rfl ?_
  refine g_iadd 730 (gd rfl) rfl (fun z729 e729 => ?_)
  refine g_sldL 731 (gd rfl) rfl (sx_in e729 h0 h6 hL rfl) (fun z730 => ?_)
  have kc2 := k_295 (Z := Z) (A := A2) (s := t1) (ex := []) (d := 1300) (X := g_no) (x1 := z730) (by omega) hI1 
  rw [a1] at kc2
  refine g_callvL (As := [.int z730]) (r := []) (b := A 109) (q := 109) 734 (gd rfl) rfl rfl rfl rfl rfl (by rw [← a1]; exact ww_o rfl) (Nat.le_of_ble_eq_true rfl) (mc := 0) (ms := 0) (by omega) (by omega) kc2 (fun e u h => h) (fun v u h => ?_)
  obtain ⟨t2, hI2, hF2, c2, rfl, rfl, tl⟩ := h
  have hK2 : KL t2 := kl_fr hK1 hF2 rfl
  have hR2 := rel3_fr hR1 hF2 rfl rfl
  show GG _ _ _ _ _ _ _ _ [.int c2] _ _ _
  refine g_istore 736 (gd rfl) rfl (Nat.le_of_ble_eq_true rfl) ?_
  refine g_goto 1884 (gd rfl) rfl ?_
  exact gg_w (by omega) (gg_f (gf_cons rfl (gf_cons rfl (gf_cons rfl (gf_cons rfl (gf_cons rfl gf_nil))))) (next A2 t2 _ _ a0 a1 a3 hI2 hK2 hR2 (by omega) (by omega)))

theorem lc_739 {Z : AmZ} {b L : Nat} {xs : Nat → Int32} {A : Nat → Nat} {s : GS} {i : Int32} {C S N : Nat} {ret : AmR} (hL : L ≤ 384) (h0 : 0 ≤ i.toInt) (h6 : i.toInt + 6 ≤ (L : Int)) (hC : 4000 ≤ C) (hS : 90000 ≤ S) (hI : Inv s) (hK : KL s) (hR : REL3 s)
    (next : ∀ (A2 : Nat → Nat) (t : GS) (C2 S2 : Nat), A2 0 = A 0 → A2 109 = A 109 → A2 195 = A 195 → Inv t → KL t → REL3 t → C - 4000 ≤ C2 → S - 90000 ≤ S2 → GG Z 1300 0 ret (gl Z b L xs) N 1884 (fun j => xlook j [(0, .ref b), (1, .ref (A 0)), (2, .ref (A 109)), (3, .ref (A 195)), (4, .int i)]) [] (WW Z A2 t ++ []) C2 S2) :
    GG Z 1300 0 ret (gl Z b L xs) (N + 100) 739 (fun j => xlook j [(0, .ref b), (1, .ref (A 0)), (2, .ref (A 109)), (3, .ref (A 195)), (4, .int i)]) [] (WW Z A s ++ []) C S := by
  refine g_aload_n 740 (gd rfl) rfl rfl ?_
  have kc1 := k_227_0 (Z := Z) (A := A) (s := s) (ex := []) (d := 1300) (X := g_no)  (by omega) hI 
  refine g_callvL (As := []) (r := []) (b := A 0) (q := 0) 743 (gd rfl) rfl rfl rfl rfl rfl (ww_o rfl) (Nat.le_of_ble_eq_true rfl) (mc := 3) (ms := 18) (by omega) (by omega) kc1 (fun e u h => h) (fun v u h => ?_)
  obtain ⟨t1, hI1, hF1, c1, rfl, rfl, tl⟩ := h
  have hK1 : KL t1 := kl_fr hK hF1 rfl
  have hR1 := rel3_fr hR hF1 rfl rfl
  show GG _ _ _ _ _ _ _ _ [.int c1] _ _ _
  refine g_pop 744 (gd rfl) rfl rfl ?_
  refine g_aload_n 745 (gd rfl) rfl rfl ?_
  have kc2 := k_308 (Z := Z) (A := A) (s := t1) (ex := []) (d := 1300) (X := g_no)  (by omega) hI1 
  refine g_callvL (As := []) (r := []) (b := A 109) (q := 109) 748 (gd rfl) rfl rfl rfl rfl rfl (ww_o rfl) (Nat.le_of_ble_eq_true rfl) (mc := 0) (ms := 0) (by omega) (by omega) kc2 (fun e u h => h) (fun v u h => ?_)
  obtain ⟨t2, hI2, hF2, c2, rfl, rfl, tl⟩ := h
  have hK2 : KL t2 := kl_fr hK1 hF2 rfl
  have hR2 := rel3_fr hR1 hF2 rfl rfl
  show GG _ _ _ _ _ _ _ _ [.int c2] _ _ _
  refine g_pop 749 (gd rfl) rfl rfl ?_
  refine g_goto 1884 (gd rfl) rfl ?_
  exact gg_w (by omega) (gg_f (gf_cons rfl (gf_cons rfl (gf_cons rfl (gf_cons rfl (gf_cons rfl gf_nil))))) (next A t2 _ _ rfl rfl rfl hI2 hK2 hR2 (by omega) (by omega)))

theorem lc_752 {Z : AmZ} {b L : Nat} {xs : Nat → Int32} {A : Nat → Nat} {s : GS} {i : Int32} {C S N : Nat} {ret : AmR} (hL : L ≤ 384) (h0 : 0 ≤ i.toInt) (h6 : i.toInt + 6 ≤ (L : Int)) (hC : 4000 ≤ C) (hS : 90000 ≤ S) (hI : Inv s) (hK : KL s) (hR : REL3 s)
    (next : ∀ (A2 : Nat → Nat) (t : GS) (C2 S2 : Nat), A2 0 = A 0 → A2 109 = A 109 → A2 195 = A 195 → Inv t → KL t → REL3 t → C - 4000 ≤ C2 → S - 90000 ≤ S2 → GG Z 1300 0 ret (gl Z b L xs) N 1884 (fun j => xlook j [(0, .ref b), (1, .ref (A 0)), (2, .ref (A 109)), (3, .ref (A 195)), (4, .int i)]) [] (WW Z A2 t ++ []) C2 S2) :
    GG Z 1300 0 ret (gl Z b L xs) (N + 100) 752 (fun j => xlook j [(0, .ref b), (1, .ref (A 0)), (2, .ref (A 109)), (3, .ref (A 195)), (4, .int i)]) [] (WW Z A s ++ []) C S := by
  refine g_aload_n 753 (gd rfl) rfl rfl ?_
  refine g_aload_n 754 (gd rfl) rfl rfl ?_
  refine g_iload 756 (gd rfl) rfl rfl ?_
  refine g_iconst 1 757 (gd rfl) rfl rfl ?_
  refine g_iadd 758 (gd rfl) rfl (fun z757 e757 => ?_)
  refine g_sldL 759 (gd rfl) rfl (sx_in e757 h0 h6 hL rfl) (fun z758 => ?_)
  refine g_aload_n 760 (gd rfl) rfl rfl ?_
  refine g_callW (As := [.ref (A 0), .int z758, .ref (A 195)]) (r := []) 763 (gd rfl) rfl rfl rfl rfl rfl (Nat.le_of_ble_eq_true rfl) (mc := 3) (ms := 18) (by omega) (by omega) (w_13 hI hK) (fun v u h => ?_)
  obtain ⟨c1, A2, t1, rfl, rfl, a0, a1, a3, hI1, hF1, hK1⟩ := h
  have hR1 := rel3_fr hR hF1 rfl rfl
  show GG _ _ _ _ _ _ _ _ [.int c1] _ _ _
  refine g_istore 765 (gd rfl) rfl (Nat.le_of_ble_eq_true rfl) ?_
  refine g_aload_n 766 (gd rfl) rfl rfl ?_
  refine g_aload_n 767 (gd rfl) rfl rfl ?_
  refine g_iload 769 (gd rfl) rfl rfl ?_
  refine g_iconst 1 770 (gd rfl) rfl rfl ?_
  refine g_iadd 771 (gd rfl) rfl (fun z770 e770 => ?_)
  refine g_sldL 772 (gd rfl) rfl (sx_in e770 h0 h6 hL rfl) (fun z771 => ?_)
  have kc2 := k_309 (Z := Z) (A := A2) (s := t1) (ex := []) (d := 1300) (X := g_no) (x1 := z771) (by omega) hI1 
  rw [a1] at kc2
  refine g_callvL (As := [.int z771]) (r := []) (b := A 109) (q := 109) 775 (gd rfl) rfl rfl rfl rfl rfl (by rw [← a1]; exact ww_o rfl) (Nat.le_of_ble_eq_true rfl) (mc := 0) (ms := 0) (by omega) (by omega) kc2 (fun e u h => h) (fun v u h => ?_)
  obtain ⟨t2, hI2, hF2, c2, rfl, rfl, tl⟩ := h
  have hK2 : KL t2 := kl_fr hK1 hF2 rfl
  have hR2 := rel3_fr hR1 hF2 rfl rfl
  show GG _ _ _ _ _ _ _ _ [.int c2] _ _ _
  refine g_istore 777 (gd rfl) rfl (Nat.le_of_ble_eq_true rfl) ?_
  refine g_goto 1884 (gd rfl) rfl ?_
  exact gg_w (by omega) (gg_f (gf_cons rfl (gf_cons rfl (gf_cons rfl (gf_cons rfl (gf_cons rfl gf_nil))))) (next A2 t2 _ _ a0 a1 a3 hI2 hK2 hR2 (by omega) (by omega)))

theorem lc_780 {Z : AmZ} {b L : Nat} {xs : Nat → Int32} {A : Nat → Nat} {s : GS} {i : Int32} {C S N : Nat} {ret : AmR} (hL : L ≤ 384) (h0 : 0 ≤ i.toInt) (h6 : i.toInt + 6 ≤ (L : Int)) (hC : 4000 ≤ C) (hS : 90000 ≤ S) (hI : Inv s) (hK : KL s) (hR : REL3 s)
    (next : ∀ (A2 : Nat → Nat) (t : GS) (C2 S2 : Nat), A2 0 = A 0 → A2 109 = A 109 → A2 195 = A 195 → Inv t → KL t → REL3 t → C - 4000 ≤ C2 → S - 90000 ≤ S2 → GG Z 1300 0 ret (gl Z b L xs) N 1884 (fun j => xlook j [(0, .ref b), (1, .ref (A 0)), (2, .ref (A 109)), (3, .ref (A 195)), (4, .int i)]) [] (WW Z A2 t ++ []) C2 S2) :
    GG Z 1300 0 ret (gl Z b L xs) (N + 100) 780 (fun j => xlook j [(0, .ref b), (1, .ref (A 0)), (2, .ref (A 109)), (3, .ref (A 195)), (4, .int i)]) [] (WW Z A s ++ []) C S := by
  refine g_aload_n 781 (gd rfl) rfl rfl ?_
  refine g_aload_n 782 (gd rfl) rfl rfl ?_
  refine g_iload 784 (gd rfl) rfl rfl ?_
  refine g_iconst 1 785 (gd rfl) rfl rfl ?_
  refine g_iadd 786 (gd rfl) rfl (fun z785 e785 => ?_)
  refine g_sldL 787 (gd rfl) rfl (sx_in e785 h0 h6 hL rfl) (fun z786 => ?_)
  refine g_aload_n 788 (gd rfl) rfl rfl ?_
  refine g_iload 790 (gd rfl) rfl rfl ?_
  refine g_iconst 2 791 (gd rfl) rfl rfl ?_
  refine g_iadd 792 (gd rfl) rfl (fun z791 e791 => ?_)
  refine g_sldL 793 (gd rfl) rfl (sx_in e791 h0 h6 hL rfl) (fun z792 => ?_)
  refine g_aload_n 794 (gd rfl) rfl rfl ?_
  refine g_callW (As := [.ref (A 0), .int z786, .int z792, .ref (A 195)]) (r := []) 797 (gd rfl) rfl rfl rfl rfl rfl (Nat.le_of_ble_eq_true rfl) (mc := 3) (ms := 18) (by omega) (by omega) (w_14 hI hK) (fun v u h => ?_)
  obtain ⟨c1, A2, t1, rfl, rfl, a0, a1, a3, hI1, hF1, hK1⟩ := h
  have hR1 := rel3_fr hR hF1 rfl rfl
  show GG _ _ _ _ _ _ _ _ [.int c1] _ _ _
  refine g_istore 799 (gd rfl) rfl (Nat.le_of_ble_eq_true rfl) ?_
  refine g_aload_n 800 (gd rfl) rfl rfl ?_
  refine g_aload_n 801 (gd rfl) rfl rfl ?_
  refine g_iload 803 (gd rfl) rfl rfl ?_
  refine g_iconst 1 804 (gd rfl) rfl rfl ?_
  refine g_iadd 805 (gd rfl) rfl (fun z804 e804 => ?_)
  refine g_sldL 806 (gd rfl) rfl (sx_in e804 h0 h6 hL rfl) (fun z805 => ?_)
  refine g_aload_n 807 (gd rfl) rfl rfl ?_
  refine g_iload 809 (gd rfl) rfl rfl ?_
  refine g_iconst 2 810 (gd rfl) rfl rfl ?_
  refine g_iadd 811 (gd rfl) rfl (fun z810 e810 => ?_)
  refine g_sldL 812 (gd rfl) rfl (sx_in e810 h0 h6 hL rfl) (fun z811 => ?_)
  have kc2 := k_315 (Z := Z) (A := A2) (s := t1) (ex := []) (d := 1300) (X := g_no) (x1 := z805) (x2 := z811) (by omega) hI1 
  rw [a1] at kc2
  refine g_callvL (As := [.int z805, .int z811]) (r := []) (b := A 109) (q := 109) 815 (gd rfl) rfl rfl rfl rfl rfl (by rw [← a1]; exact ww_o rfl) (Nat.le_of_ble_eq_true rfl) (mc := 0) (ms := 0) (by omega) (by omega) kc2 (fun e u h => h) (fun v u h => ?_)
  obtain ⟨t2, hI2, hF2, c2, rfl, rfl⟩ := h
  have hK2 : KL t2 := kl_fr hK1 hF2 rfl
  have hR2 := rel3_fr hR1 hF2 rfl rfl
  show GG _ _ _ _ _ _ _ _ [.long c2] _ _ _
  refine g_lstore 817 (gd rfl) rfl (Nat.le_of_ble_eq_true rfl) ?_
  refine g_goto 1884 (gd rfl) rfl ?_
  exact gg_w (by omega) (gg_f (gf_cons rfl (gf_cons rfl (gf_cons rfl (gf_cons rfl (gf_cons rfl gf_nil))))) (next A2 t2 _ _ a0 a1 a3 hI2 hK2 hR2 (by omega) (by omega)))

theorem lc_820 {Z : AmZ} {b L : Nat} {xs : Nat → Int32} {A : Nat → Nat} {s : GS} {i : Int32} {C S N : Nat} {ret : AmR} (hL : L ≤ 384) (h0 : 0 ≤ i.toInt) (h6 : i.toInt + 6 ≤ (L : Int)) (hC : 4000 ≤ C) (hS : 90000 ≤ S) (hI : Inv s) (hK : KL s) (hR : REL3 s)
    (next : ∀ (A2 : Nat → Nat) (t : GS) (C2 S2 : Nat), A2 0 = A 0 → A2 109 = A 109 → A2 195 = A 195 → Inv t → KL t → REL3 t → C - 4000 ≤ C2 → S - 90000 ≤ S2 → GG Z 1300 0 ret (gl Z b L xs) N 1884 (fun j => xlook j [(0, .ref b), (1, .ref (A 0)), (2, .ref (A 109)), (3, .ref (A 195)), (4, .int i)]) [] (WW Z A2 t ++ []) C2 S2) :
    GG Z 1300 0 ret (gl Z b L xs) (N + 100) 820 (fun j => xlook j [(0, .ref b), (1, .ref (A 0)), (2, .ref (A 109)), (3, .ref (A 195)), (4, .int i)]) [] (WW Z A s ++ []) C S := by
  refine g_aload_n 821 (gd rfl) rfl rfl ?_
  refine g_aload_n 822 (gd rfl) rfl rfl ?_
  refine g_iload 824 (gd rfl) rfl rfl ?_
  refine g_iconst 1 825 (gd rfl) rfl rfl ?_
  refine g_iadd 826 (gd rfl) rfl (fun z825 e825 => ?_)
  refine g_sldL 827 (gd rfl) rfl (sx_in e825 h0 h6 hL rfl) (fun z826 => ?_)
  refine g_aload_n 828 (gd rfl) rfl rfl ?_
  refine g_iload 830 (gd rfl) rfl rfl ?_
  refine g_iconst 2 831 (gd rfl) rfl rfl ?_
  refine g_iadd 832 (gd rfl) rfl (fun z831 e831 => ?_)
  refine g_sldL 833 (gd rfl) rfl (sx_in e831 h0 h6 hL rfl) (fun z832 => ?_)
  refine g_aload_n 834 (gd rfl) rfl rfl ?_
  refine g_iload 836 (gd rfl) rfl rfl ?_
  refine g_iconst 3 837 (gd rfl) rfl rfl ?_
  refine g_iadd 838 (gd rfl) rfl (fun z837 e837 => ?_)
  refine g_sldL 839 (gd rfl) rfl (sx_in e837 h0 h6 hL rfl) (fun z838 => ?_)
  refine g_aload_n 840 (gd rfl) rfl rfl ?_
  refine g_callW (As := [.ref (A 0), .int z826, .int z832, .int z838, .ref (A 195)]) (r := []) 843 (gd rfl) rfl rfl rfl rfl rfl (Nat.le_of_ble_eq_true rfl) (mc := 3) (ms := 18) (by omega) (by omega) (w_15 hI hK) (fun v u h => ?_)
  obtain ⟨c1, A2, t1, rfl, rfl, a0, a1, a3, hI1, hF1, hK1⟩ := h
  have hR1 := rel3_fr hR hF1 rfl rfl
  show GG _ _ _ _ _ _ _ _ [.int c1] _ _ _
  refine g_istore 845 (gd rfl) rfl (Nat.le_of_ble_eq_true rfl) ?_
  refine g_aload_n 846 (gd rfl) rfl rfl ?_
  refine g_aload_n 847 (gd rfl) rfl rfl ?_
  refine g_iload 849 (gd rfl) rfl rfl ?_
  refine g_iconst 1 850 (gd rfl) rfl rfl ?_
  refine g_iadd 851 (gd rfl) rfl (fun z850 e850 => ?_)
  refine g_sldL 852 (gd rfl) rfl (sx_in e850 h0 h6 hL rfl) (fun z851 => ?_)
  refine g_aload_n 853 (gd rfl) rfl rfl ?_
  refine g_iload 855 (gd rfl) rfl rfl ?_
  refine g_iconst 2 856 (gd rfl) rfl rfl ?_
  refine g_iadd 857 (gd rfl) rfl (fun z856 e856 => ?_)
  refine g_sldL 858 (gd rfl) rfl (sx_in e856 h0 h6 hL rfl) (fun z857 => ?_)
  refine g_aload_n 859 (gd rfl) rfl rfl ?_
  refine g_iload 861 (gd rfl) rfl rfl ?_
  refine g_iconst 3 862 (gd rfl) rfl rfl ?_
  refine g_iadd 863 (gd rfl) rfl (fun z862 e862 => ?_)
  refine g_sldL 864 (gd rfl) rfl (sx_in e862 h0 h6 hL rfl) (fun z863 => ?_)
  have kc2 := k_316 (Z := Z) (A := A2) (s := t1) (ex := []) (d := 1300) (X := g_no) (x1 := z851) (x2 := z857) (x3 := z863) (by omega) hI1 
  rw [a1] at kc2
  refine g_callvL (As := [.int z851, .int z857, .int z863]) (r := []) (b := A 109) (q := 109) 867 (gd rfl) rfl rfl rfl rfl rfl (by rw [← a1]; exact ww_o rfl) (Nat.le_of_ble_eq_true rfl) (mc := 0) (ms := 0) (by omega) (by omega) kc2 (fun e u h => h) (fun v u h => ?_)
  obtain ⟨t2, hI2, hF2, c2, rfl, rfl, tl⟩ := h
  have hK2 : KL t2 := kl_fr hK1 hF2 rfl
  have hR2 := rel3_fr hR1 hF2 rfl rfl
  show GG _ _ _ _ _ _ _ _ [.int c2] _ _ _
  refine g_istore 869 (gd rfl) rfl (Nat.le_of_ble_eq_true rfl) ?_
  refine g_goto 1884 (gd rfl) rfl ?_
  exact gg_w (by omega) (gg_f (gf_cons rfl (gf_cons rfl (gf_cons rfl (gf_cons rfl (gf_cons rfl gf_nil))))) (next A2 t2 _ _ a0 a1 a3 hI2 hK2 hR2 (by omega) (by omega)))

theorem lc_872 {Z : AmZ} {b L : Nat} {xs : Nat → Int32} {A : Nat → Nat} {s : GS} {i : Int32} {C S N : Nat} {ret : AmR} (hL : L ≤ 384) (h0 : 0 ≤ i.toInt) (h6 : i.toInt + 6 ≤ (L : Int)) (hC : 4000 ≤ C) (hS : 90000 ≤ S) (hI : Inv s) (hK : KL s) (hR : REL3 s)
    (next : ∀ (A2 : Nat → Nat) (t : GS) (C2 S2 : Nat), A2 0 = A 0 → A2 109 = A 109 → A2 195 = A 195 → Inv t → KL t → REL3 t → C - 4000 ≤ C2 → S - 90000 ≤ S2 → GG Z 1300 0 ret (gl Z b L xs) N 1884 (fun j => xlook j [(0, .ref b), (1, .ref (A 0)), (2, .ref (A 109)), (3, .ref (A 195)), (4, .int i)]) [] (WW Z A2 t ++ []) C2 S2) :
    GG Z 1300 0 ret (gl Z b L xs) (N + 100) 872 (fun j => xlook j [(0, .ref b), (1, .ref (A 0)), (2, .ref (A 109)), (3, .ref (A 195)), (4, .int i)]) [] (WW Z A s ++ []) C S := by
  refine g_aload_n 873 (gd rfl) rfl rfl ?_
  refine g_aload_n 874 (gd rfl) rfl rfl ?_
  refine g_iload 876 (gd rfl) rfl rfl ?_
  refine g_iconst 1 877 (gd rfl) rfl rfl ?_
  refine g_iadd 878 (gd rfl) rfl (fun z877 e877 => ?_)
  refine g_sldL 879 (gd rfl) rfl (sx_in e877 h0 h6 hL rfl) (fun z878 => ?_)
  refine g_aload_n 880 (gd rfl) rfl rfl ?_
  refine g_iload 882 (gd rfl) rfl rfl ?_
  refine g_iconst 2 883 (gd rfl) rfl rfl ?_
  refine g_iadd 884 (gd rfl) rfl (fun z883 e883 => ?_)
  refine g_sldL 885 (gd rfl) rfl (sx_in e883 h0 h6 hL rfl) (fun z884 => ?_)
  refine g_aload_n 886 (gd rfl) rfl rfl ?_
  refine g_callW (As := [.ref (A 0), .int z878, .int z884, .ref (A 195)]) (r := []) 889 (gd rfl) rfl rfl rfl rfl rfl (Nat.le_of_ble_eq_true rfl) (mc := 3) (ms := 18) (by omega) (by omega) (w_16 hI hK) (fun v u h => ?_)
  obtain ⟨c1, A2, t1, rfl, rfl, a0, a1, a3, hI1, hF1, hK1⟩ := h
  have hR1 := rel3_fr hR hF1 rfl rfl
  show GG _ _ _ _ _ _ _ _ [.int c1] _ _ _
  refine g_istore 891 (gd rfl) rfl (Nat.le_of_ble_eq_true rfl) ?_
  refine g_aload_n 892 (gd rfl) rfl rfl ?_
  refine g_aload_n 893 (gd rfl) rfl rfl ?_
  refine g_iload 895 (gd rfl) rfl rfl ?_
  refine g_iconst 1 896 (gd rfl) rfl rfl ?_
  refine g_iadd 897 (gd rfl) rfl (fun z896 e896 => ?_)
  refine g_sldL 898 (gd rfl) rfl (sx_in e896 h0 h6 hL rfl) (fun z897 => ?_)
  refine g_aload_n 899 (gd rfl) rfl rfl ?_
  refine g_iload 901 (gd rfl) rfl rfl ?_
  refine g_iconst 2 902 (gd rfl) rfl rfl ?_
  refine g_iadd 903 (gd rfl) rfl (fun z902 e902 => ?_)
  refine g_sldL 904 (gd rfl) rfl (sx_in e902 h0 h6 hL rfl) (fun z903 => ?_)
  have kc2 := k_317 (Z := Z) (A := A2) (s := t1) (ex := []) (d := 1300) (X := g_no) (x1 := z897) (x2 := z903) (by omega) hI1 
  rw [a1] at kc2
  refine g_callvL (As := [.int z897, .int z903]) (r := []) (b := A 109) (q := 109) 907 (gd rfl) rfl rfl rfl rfl rfl (by rw [← a1]; exact ww_o rfl) (Nat.le_of_ble_eq_true rfl) (mc := 0) (ms := 0) (by omega) (by omega) kc2 (fun e u h => h) (fun v u h => ?_)
  obtain ⟨t2, hI2, hF2, c2, rfl, rfl, tl⟩ := h
  have hK2 : KL t2 := kl_fr hK1 hF2 rfl
  have hR2 := rel3_fr hR1 hF2 rfl rfl
  show GG _ _ _ _ _ _ _ _ [.int c2] _ _ _
  refine g_istore 909 (gd rfl) rfl (Nat.le_of_ble_eq_true rfl) ?_
  refine g_goto 1884 (gd rfl) rfl ?_
  exact gg_w (by omega) (gg_f (gf_cons rfl (gf_cons rfl (gf_cons rfl (gf_cons rfl (gf_cons rfl gf_nil))))) (next A2 t2 _ _ a0 a1 a3 hI2 hK2 hR2 (by omega) (by omega)))

theorem lc_980 {Z : AmZ} {b L : Nat} {xs : Nat → Int32} {A : Nat → Nat} {s : GS} {i : Int32} {C S N : Nat} {ret : AmR} (hL : L ≤ 384) (h0 : 0 ≤ i.toInt) (h6 : i.toInt + 6 ≤ (L : Int)) (hC : 4000 ≤ C) (hS : 90000 ≤ S) (hI : Inv s) (hK : KL s) (hR : REL3 s)
    (next : ∀ (A2 : Nat → Nat) (t : GS) (C2 S2 : Nat), A2 0 = A 0 → A2 109 = A 109 → A2 195 = A 195 → Inv t → KL t → REL3 t → C - 4000 ≤ C2 → S - 90000 ≤ S2 → GG Z 1300 0 ret (gl Z b L xs) N 1884 (fun j => xlook j [(0, .ref b), (1, .ref (A 0)), (2, .ref (A 109)), (3, .ref (A 195)), (4, .int i)]) [] (WW Z A2 t ++ []) C2 S2) :
    GG Z 1300 0 ret (gl Z b L xs) (N + 100) 980 (fun j => xlook j [(0, .ref b), (1, .ref (A 0)), (2, .ref (A 109)), (3, .ref (A 195)), (4, .int i)]) [] (WW Z A s ++ []) C S := by
  obtain ⟨H0, hH0⟩ := hR.2
  refine g_aload_n 981 (gd rfl) rfl rfl ?_
  refine g_aload_n 982 (gd rfl) rfl rfl ?_
  refine g_iload 984 (gd rfl) rfl rfl ?_
  refine g_iconst 1 985 (gd rfl) rfl rfl ?_
  refine g_iadd 986 (gd rfl) rfl (fun z985 e985 => ?_)
  refine g_sldL 987 (gd rfl) rfl (sx_in e985 h0 h6 hL rfl) (fun z986 => ?_)
  refine g_aload_n 988 (gd rfl) rfl rfl ?_
  refine g_iload 990 (gd rfl) rfl rfl ?_
  refine g_iconst 2 991 (gd rfl) rfl rfl ?_
  refine g_iadd 992 (gd rfl) rfl (fun z991 e991 => ?_)
  refine g_sldL 993 (gd rfl) rfl (sx_in e991 h0 h6 hL rfl) (fun z992 => ?_)
  refine g_aload_n 994 (gd rfl) rfl rfl ?_
  refine g_iload 996 (gd rfl) rfl rfl ?_
  refine g_iconst 3 997 (gd rfl) rfl rfl ?_
  refine g_iadd 998 (gd rfl) rfl (fun z997 e997 => ?_)
  refine g_sldL 999 (gd rfl) rfl (sx_in e997 h0 h6 hL rfl) (fun z998 => ?_)
  refine g_aload_n 1000 (gd rfl) rfl rfl ?_
  refine g_iload 1002 (gd rfl) rfl rfl ?_
  refine g_iconst 4 1003 (gd rfl) rfl rfl ?_
  refine g_iadd 1004 (gd rfl) rfl (fun z1003 e1003 => ?_)
  refine g_sldL 1005 (gd rfl) rfl (sx_in e1003 h0 h6 hL rfl) (fun z1004 => ?_)
  refine g_aload_n 1006 (gd rfl) rfl rfl ?_
  refine g_callW (As := [.ref (A 0), .int z986, .int z992, .int z998, .int z1004, .ref (A 195)]) (r := []) 1009 (gd rfl) rfl rfl rfl rfl rfl (Nat.le_of_ble_eq_true rfl) (mc := 3) (ms := 18) (by omega) (by omega) (wz_18 hI hK hR.1.2.2.2 hH0.2.2.2.2.1 (ndc_of hI hR) (ext_pre hI hH0)) (fun v u h => ?_)
  obtain ⟨c1, t1, z1k, rfl, rfl, hI1, hF1, hK1, hc1, ho1, hcp⟩ := h
  have hR1 : REL3 t1 := by
    rcases hcp with ⟨-, hx⟩ | ⟨-, hx⟩
    · exact rel3_fr hR hx rfl rfl
    · exact ⟨rel2_fr hR.1 hF1 rfl, H0, hsx_of (hsy_fr (hsy_of hH0) hF1 rfl) (ext_kp hI hH0 hF1 rfl hx)⟩
  show GG _ _ _ _ _ _ _ _ [.int c1] _ _ _
  refine g_istore 1011 (gd rfl) rfl (Nat.le_of_ble_eq_true rfl) ?_
  refine g_aload_n 1012 (gd rfl) rfl rfl ?_
  refine g_aload_n 1013 (gd rfl) rfl rfl ?_
  refine g_iload 1015 (gd rfl) rfl rfl ?_
  refine g_iconst 1 1016 (gd rfl) rfl rfl ?_
  refine g_iadd 1017 (gd rfl) rfl (fun z1016 e1016 => ?_)
  refine g_sldL 1018 (gd rfl) rfl (sx_in e1016 h0 h6 hL rfl) (fun z1017 => ?_)
  refine g_aload_n 1019 (gd rfl) rfl rfl ?_
  refine g_iload 1021 (gd rfl) rfl rfl ?_
  refine g_iconst 2 1022 (gd rfl) rfl rfl ?_
  refine g_iadd 1023 (gd rfl) rfl (fun z1022 e1022 => ?_)
  refine g_sldL 1024 (gd rfl) rfl (sx_in e1022 h0 h6 hL rfl) (fun z1023 => ?_)
  refine g_aload_n 1025 (gd rfl) rfl rfl ?_
  refine g_iload 1027 (gd rfl) rfl rfl ?_
  refine g_iconst 3 1028 (gd rfl) rfl rfl ?_
  refine g_iadd 1029 (gd rfl) rfl (fun z1028 e1028 => ?_)
  refine g_sldL 1030 (gd rfl) rfl (sx_in e1028 h0 h6 hL rfl) (fun z1029 => ?_)
  refine g_aload_n 1031 (gd rfl) rfl rfl ?_
  refine g_iload 1033 (gd rfl) rfl rfl ?_
  refine g_iconst 4 1034 (gd rfl) rfl rfl ?_
  refine g_iadd 1035 (gd rfl) rfl (fun z1034 e1034 => ?_)
  refine g_sldL 1036 (gd rfl) rfl (sx_in e1034 h0 h6 hL rfl) (fun z1035 => ?_)
  have kc2 := k_326 (Z := Z) (A := A) (s := t1) (ex := []) (d := 1300) (X := g_no) (x1 := z1017) (x2 := z1023) (x3 := z1029) (x4 := z1035) (by omega) hI1 
  refine g_callvL (As := [.int z1017, .int z1023, .int z1029, .int z1035]) (r := []) (b := A 109) (q := 109) 1039 (gd rfl) rfl rfl rfl rfl rfl (ww_o rfl) (Nat.le_of_ble_eq_true rfl) (mc := 0) (ms := 0) (by omega) (by omega) kc2 (fun e u h => h) (fun v u h => ?_)
  obtain ⟨t2, hI2, hF2, c2, rfl, rfl, tl⟩ := h
  have hK2 : KL t2 := kl_fr hK1 hF2 rfl
  have hR2 := rel3_fr hR1 hF2 rfl rfl
  show GG _ _ _ _ _ _ _ _ [.int c2] _ _ _
  refine g_istore 1041 (gd rfl) rfl (Nat.le_of_ble_eq_true rfl) ?_
  refine g_goto 1884 (gd rfl) rfl ?_
  exact gg_w (by omega) (gg_f (gf_cons rfl (gf_cons rfl (gf_cons rfl (gf_cons rfl (gf_cons rfl gf_nil))))) (next A t2 _ _ rfl rfl rfl hI2 hK2 hR2 (by omega) (by omega)))

theorem lc_1044 {Z : AmZ} {b L : Nat} {xs : Nat → Int32} {A : Nat → Nat} {s : GS} {i : Int32} {C S N : Nat} {ret : AmR} (hL : L ≤ 384) (h0 : 0 ≤ i.toInt) (h6 : i.toInt + 6 ≤ (L : Int)) (hC : 4000 ≤ C) (hS : 90000 ≤ S) (hI : Inv s) (hK : KL s) (hR : REL3 s)
    (next : ∀ (A2 : Nat → Nat) (t : GS) (C2 S2 : Nat), A2 0 = A 0 → A2 109 = A 109 → A2 195 = A 195 → Inv t → KL t → REL3 t → C - 4000 ≤ C2 → S - 90000 ≤ S2 → GG Z 1300 0 ret (gl Z b L xs) N 1884 (fun j => xlook j [(0, .ref b), (1, .ref (A 0)), (2, .ref (A 109)), (3, .ref (A 195)), (4, .int i)]) [] (WW Z A2 t ++ []) C2 S2) :
    GG Z 1300 0 ret (gl Z b L xs) (N + 100) 1044 (fun j => xlook j [(0, .ref b), (1, .ref (A 0)), (2, .ref (A 109)), (3, .ref (A 195)), (4, .int i)]) [] (WW Z A s ++ []) C S := by
  refine g_aload_n 1045 (gd rfl) rfl rfl ?_
  refine g_aload_n 1046 (gd rfl) rfl rfl ?_
  refine g_iload 1048 (gd rfl) rfl rfl ?_
  refine g_iconst 1 1049 (gd rfl) rfl rfl ?_
  refine g_iadd 1050 (gd rfl) rfl (fun z1049 e1049 => ?_)
  refine g_sldL 1051 (gd rfl) rfl (sx_in e1049 h0 h6 hL rfl) (fun z1050 => ?_)
  refine g_aload_n 1052 (gd rfl) rfl rfl ?_
  refine g_iload 1054 (gd rfl) rfl rfl ?_
  refine g_iconst 2 1055 (gd rfl) rfl rfl ?_
  refine g_iadd 1056 (gd rfl) rfl (fun z1055 e1055 => ?_)
  refine g_sldL 1057 (gd rfl) rfl (sx_in e1055 h0 h6 hL rfl) (fun z1056 => ?_)
  refine g_aload_n 1058 (gd rfl) rfl rfl ?_
  refine g_callW (As := [.ref (A 0), .int z1050, .int z1056, .ref (A 195)]) (r := []) 1061 (gd rfl) rfl rfl rfl rfl rfl (Nat.le_of_ble_eq_true rfl) (mc := 3) (ms := 18) (by omega) (by omega) (w_19 hI hK) (fun v u h => ?_)
  obtain ⟨c1, A2, t1, rfl, rfl, a0, a1, a3, hI1, hF1, hK1⟩ := h
  have hR1 := rel3_fr hR hF1 rfl rfl
  show GG _ _ _ _ _ _ _ _ [.int c1] _ _ _
  refine g_istore 1063 (gd rfl) rfl (Nat.le_of_ble_eq_true rfl) ?_
  refine g_aload_n 1064 (gd rfl) rfl rfl ?_
  refine g_aload_n 1065 (gd rfl) rfl rfl ?_
  refine g_iload 1067 (gd rfl) rfl rfl ?_
  refine g_iconst 1 1068 (gd rfl) rfl rfl ?_
  refine g_iadd 1069 (gd rfl) rfl (fun z1068 e1068 => ?_)
  refine g_sldL 1070 (gd rfl) rfl (sx_in e1068 h0 h6 hL rfl) (fun z1069 => ?_)
  refine g_aload_n 1071 (gd rfl) rfl rfl ?_
  refine g_iload 1073 (gd rfl) rfl rfl ?_
  refine g_iconst 2 1074 (gd rfl) rfl rfl ?_
  refine g_iadd 1075 (gd rfl) rfl (fun z1074 e1074 => ?_)
  refine g_sldL 1076 (gd rfl) rfl (sx_in e1074 h0 h6 hL rfl) (fun z1075 => ?_)
  have kc2 := k_328 (Z := Z) (A := A2) (s := t1) (ex := []) (d := 1300) (X := g_no) (x1 := z1069) (x2 := z1075) (by omega) hI1 
  rw [a1] at kc2
  refine g_callvL (As := [.int z1069, .int z1075]) (r := []) (b := A 109) (q := 109) 1079 (gd rfl) rfl rfl rfl rfl rfl (by rw [← a1]; exact ww_o rfl) (Nat.le_of_ble_eq_true rfl) (mc := 0) (ms := 0) (by omega) (by omega) kc2 (fun e u h => h) (fun v u h => ?_)
  obtain ⟨t2, hI2, hF2, c2, rfl, rfl, tl⟩ := h
  have hK2 : KL t2 := kl_fr hK1 hF2 rfl
  have hR2 := rel3_fr hR1 hF2 rfl rfl
  show GG _ _ _ _ _ _ _ _ [.int c2] _ _ _
  refine g_istore 1081 (gd rfl) rfl (Nat.le_of_ble_eq_true rfl) ?_
  refine g_goto 1884 (gd rfl) rfl ?_
  exact gg_w (by omega) (gg_f (gf_cons rfl (gf_cons rfl (gf_cons rfl (gf_cons rfl (gf_cons rfl gf_nil))))) (next A2 t2 _ _ a0 a1 a3 hI2 hK2 hR2 (by omega) (by omega)))

theorem lc_1084 {Z : AmZ} {b L : Nat} {xs : Nat → Int32} {A : Nat → Nat} {s : GS} {i : Int32} {C S N : Nat} {ret : AmR} (hL : L ≤ 384) (h0 : 0 ≤ i.toInt) (h6 : i.toInt + 6 ≤ (L : Int)) (hC : 4000 ≤ C) (hS : 90000 ≤ S) (hI : Inv s) (hK : KL s) (hR : REL3 s)
    (next : ∀ (A2 : Nat → Nat) (t : GS) (C2 S2 : Nat), A2 0 = A 0 → A2 109 = A 109 → A2 195 = A 195 → Inv t → KL t → REL3 t → C - 4000 ≤ C2 → S - 90000 ≤ S2 → GG Z 1300 0 ret (gl Z b L xs) N 1884 (fun j => xlook j [(0, .ref b), (1, .ref (A 0)), (2, .ref (A 109)), (3, .ref (A 195)), (4, .int i)]) [] (WW Z A2 t ++ []) C2 S2) :
    GG Z 1300 0 ret (gl Z b L xs) (N + 100) 1084 (fun j => xlook j [(0, .ref b), (1, .ref (A 0)), (2, .ref (A 109)), (3, .ref (A 195)), (4, .int i)]) [] (WW Z A s ++ []) C S := by
  refine g_aload_n 1085 (gd rfl) rfl rfl ?_
  refine g_aload_n 1086 (gd rfl) rfl rfl ?_
  refine g_iload 1088 (gd rfl) rfl rfl ?_
  refine g_iconst 1 1089 (gd rfl) rfl rfl ?_
  refine g_iadd 1090 (gd rfl) rfl (fun z1089 e1089 => ?_)
  refine g_sldL 1091 (gd rfl) rfl (sx_in e1089 h0 h6 hL rfl) (fun z1090 => ?_)
  refine g_aload_n 1092 (gd rfl) rfl rfl ?_
  refine g_callW (As := [.ref (A 0), .int z1090, .ref (A 195)]) (r := []) 1095 (gd rfl) rfl rfl rfl rfl rfl (Nat.le_of_ble_eq_true rfl) (mc := 3) (ms := 18) (by omega) (by omega) (w_20 hI hK) (fun v u h => ?_)
  obtain ⟨c1, A2, t1, rfl, rfl, a0, a1, a3, hI1, hF1, hK1⟩ := h
  have hR1 := rel3_fr hR hF1 rfl rfl
  show GG _ _ _ _ _ _ _ _ [.int c1] _ _ _
  refine g_istore 1097 (gd rfl) rfl (Nat.le_of_ble_eq_true rfl) ?_
  refine g_aload_n 1098 (gd rfl) rfl rfl ?_
  refine g_aload_n 1099 (gd rfl) rfl rfl ?_
  refine g_iload 1101 (gd rfl) rfl rfl ?_
  refine g_iconst 1 1102 (gd rfl) rfl rfl ?_
  refine g_iadd 1103 (gd rfl) rfl (fun z1102 e1102 => ?_)
  refine g_sldL 1104 (gd rfl) rfl (sx_in e1102 h0 h6 hL rfl) (fun z1103 => ?_)
  have kc2 := k_330 (Z := Z) (A := A2) (s := t1) (ex := []) (d := 1300) (X := g_no) (x1 := z1103) (by omega) hI1 
  rw [a1] at kc2
  refine g_callvL (As := [.int z1103]) (r := []) (b := A 109) (q := 109) 1107 (gd rfl) rfl rfl rfl rfl rfl (by rw [← a1]; exact ww_o rfl) (Nat.le_of_ble_eq_true rfl) (mc := 0) (ms := 0) (by omega) (by omega) kc2 (fun e u h => h) (fun v u h => ?_)
  obtain ⟨t2, hI2, hF2, c2, rfl, rfl, tl⟩ := h
  have hK2 : KL t2 := kl_fr hK1 hF2 rfl
  have hR2 := rel3_fr hR1 hF2 rfl rfl
  show GG _ _ _ _ _ _ _ _ [.int c2] _ _ _
  refine g_istore 1109 (gd rfl) rfl (Nat.le_of_ble_eq_true rfl) ?_
  refine g_goto 1884 (gd rfl) rfl ?_
  exact gg_w (by omega) (gg_f (gf_cons rfl (gf_cons rfl (gf_cons rfl (gf_cons rfl (gf_cons rfl gf_nil))))) (next A2 t2 _ _ a0 a1 a3 hI2 hK2 hR2 (by omega) (by omega)))

theorem lc_1112 {Z : AmZ} {b L : Nat} {xs : Nat → Int32} {A : Nat → Nat} {s : GS} {i : Int32} {C S N : Nat} {ret : AmR} (hL : L ≤ 384) (h0 : 0 ≤ i.toInt) (h6 : i.toInt + 6 ≤ (L : Int)) (hC : 4000 ≤ C) (hS : 90000 ≤ S) (hI : Inv s) (hK : KL s) (hR : REL3 s)
    (next : ∀ (A2 : Nat → Nat) (t : GS) (C2 S2 : Nat), A2 0 = A 0 → A2 109 = A 109 → A2 195 = A 195 → Inv t → KL t → REL3 t → C - 4000 ≤ C2 → S - 90000 ≤ S2 → GG Z 1300 0 ret (gl Z b L xs) N 1884 (fun j => xlook j [(0, .ref b), (1, .ref (A 0)), (2, .ref (A 109)), (3, .ref (A 195)), (4, .int i)]) [] (WW Z A2 t ++ []) C2 S2) :
    GG Z 1300 0 ret (gl Z b L xs) (N + 100) 1112 (fun j => xlook j [(0, .ref b), (1, .ref (A 0)), (2, .ref (A 109)), (3, .ref (A 195)), (4, .int i)]) [] (WW Z A s ++ []) C S := by
  refine g_aload_n 1113 (gd rfl) rfl rfl ?_
  refine g_aload_n 1114 (gd rfl) rfl rfl ?_
  refine g_iload 1116 (gd rfl) rfl rfl ?_
  refine g_iconst 1 1117 (gd rfl) rfl rfl ?_
  refine g_iadd 1118 (gd rfl) rfl (fun z1117 e1117 => ?_)
  refine g_sldL 1119 (gd rfl) rfl (sx_in e1117 h0 h6 hL rfl) (fun z1118 => ?_)
  refine g_aload_n 1120 (gd rfl) rfl rfl ?_
  refine g_callW (As := [.ref (A 0), .int z1118, .ref (A 195)]) (r := []) 1123 (gd rfl) rfl rfl rfl rfl rfl (Nat.le_of_ble_eq_true rfl) (mc := 3) (ms := 18) (by omega) (by omega) (w_21 hI hK) (fun v u h => ?_)
  obtain ⟨c1, A2, t1, rfl, rfl, a0, a1, a3, hI1, hF1, hK1⟩ := h
  have hR1 := rel3_fr hR hF1 rfl rfl
  show GG _ _ _ _ _ _ _ _ [.int c1] _ _ _
  refine g_istore 1125 (gd rfl) rfl (Nat.le_of_ble_eq_true rfl) ?_
  refine g_aload_n 1126 (gd rfl) rfl rfl ?_
  refine g_aload_n 1127 (gd rfl) rfl rfl ?_
  refine g_iload 1129 (gd rfl) rfl rfl ?_
  refine g_iconst 1 1130 (gd rfl) rfl rfl ?_
  refine g_iadd 1131 (gd rfl) rfl (fun z1130 e1130 => ?_)
  refine g_sldL 1132 (gd rfl) rfl (sx_in e1130 h0 h6 hL rfl) (fun z1131 => ?_)
  have kc2 := k_331 (Z := Z) (A := A2) (s := t1) (ex := []) (d := 1300) (X := g_no) (x1 := z1131) (by omega) hI1 
  rw [a1] at kc2
  refine g_callvL (As := [.int z1131]) (r := []) (b := A 109) (q := 109) 1135 (gd rfl) rfl rfl rfl rfl rfl (by rw [← a1]; exact ww_o rfl) (Nat.le_of_ble_eq_true rfl) (mc := 0) (ms := 0) (by omega) (by omega) kc2 (fun e u h => h) (fun v u h => ?_)
  obtain ⟨t2, hI2, hF2, c2, rfl, rfl, tl⟩ := h
  have hK2 : KL t2 := kl_fr hK1 hF2 rfl
  have hR2 := rel3_fr hR1 hF2 rfl rfl
  show GG _ _ _ _ _ _ _ _ [.int c2] _ _ _
  refine g_istore 1137 (gd rfl) rfl (Nat.le_of_ble_eq_true rfl) ?_
  refine g_goto 1884 (gd rfl) rfl ?_
  exact gg_w (by omega) (gg_f (gf_cons rfl (gf_cons rfl (gf_cons rfl (gf_cons rfl (gf_cons rfl gf_nil))))) (next A2 t2 _ _ a0 a1 a3 hI2 hK2 hR2 (by omega) (by omega)))

theorem lc_1140 {Z : AmZ} {b L : Nat} {xs : Nat → Int32} {A : Nat → Nat} {s : GS} {i : Int32} {C S N : Nat} {ret : AmR} (hL : L ≤ 384) (h0 : 0 ≤ i.toInt) (h6 : i.toInt + 6 ≤ (L : Int)) (hC : 4000 ≤ C) (hS : 90000 ≤ S) (hI : Inv s) (hK : KL s) (hR : REL3 s)
    (next : ∀ (A2 : Nat → Nat) (t : GS) (C2 S2 : Nat), A2 0 = A 0 → A2 109 = A 109 → A2 195 = A 195 → Inv t → KL t → REL3 t → C - 4000 ≤ C2 → S - 90000 ≤ S2 → GG Z 1300 0 ret (gl Z b L xs) N 1884 (fun j => xlook j [(0, .ref b), (1, .ref (A 0)), (2, .ref (A 109)), (3, .ref (A 195)), (4, .int i)]) [] (WW Z A2 t ++ []) C2 S2) :
    GG Z 1300 0 ret (gl Z b L xs) (N + 100) 1140 (fun j => xlook j [(0, .ref b), (1, .ref (A 0)), (2, .ref (A 109)), (3, .ref (A 195)), (4, .int i)]) [] (WW Z A s ++ []) C S := by
  refine g_aload_n 1141 (gd rfl) rfl rfl ?_
  refine g_aload_n 1142 (gd rfl) rfl rfl ?_
  refine g_iload 1144 (gd rfl) rfl rfl ?_
  refine g_iconst 1 1145 (gd rfl) rfl rfl ?_
  refine g_iadd 1146 (gd rfl) rfl (fun z1145 e1145 => ?_)
  refine g_sldL 1147 (gd rfl) rfl (sx_in e1145 h0 h6 hL rfl) (fun z1146 => ?_)
  refine g_aload_n 1148 (gd rfl) rfl rfl ?_
  refine g_callW (As := [.ref (A 0), .int z1146, .ref (A 195)]) (r := []) 1151 (gd rfl) rfl rfl rfl rfl rfl (Nat.le_of_ble_eq_true rfl) (mc := 3) (ms := 18) (by omega) (by omega) (w_22 hI hK) (fun v u h => ?_)
  obtain ⟨c1, A2, t1, rfl, rfl, a0, a1, a3, hI1, hF1, hK1⟩ := h
  have hR1 := rel3_fr hR hF1 rfl rfl
  show GG _ _ _ _ _ _ _ _ [.int c1] _ _ _
  refine g_istore 1153 (gd rfl) rfl (Nat.le_of_ble_eq_true rfl) ?_
  refine g_aload_n 1154 (gd rfl) rfl rfl ?_
  refine g_aload_n 1155 (gd rfl) rfl rfl ?_
  refine g_iload 1157 (gd rfl) rfl rfl ?_
  refine g_iconst 1 1158 (gd rfl) rfl rfl ?_
  refine g_iadd 1159 (gd rfl) rfl (fun z1158 e1158 => ?_)
  refine g_sldL 1160 (gd rfl) rfl (sx_in e1158 h0 h6 hL rfl) (fun z1159 => ?_)
  have kc2 := k_332 (Z := Z) (A := A2) (s := t1) (ex := []) (d := 1300) (X := g_no) (x1 := z1159) (by omega) hI1 
  rw [a1] at kc2
  refine g_callvL (As := [.int z1159]) (r := []) (b := A 109) (q := 109) 1163 (gd rfl) rfl rfl rfl rfl rfl (by rw [← a1]; exact ww_o rfl) (Nat.le_of_ble_eq_true rfl) (mc := 0) (ms := 0) (by omega) (by omega) kc2 (fun e u h => h) (fun v u h => ?_)
  obtain ⟨t2, hI2, hF2, c2, rfl, rfl, tl⟩ := h
  have hK2 : KL t2 := kl_fr hK1 hF2 rfl
  have hR2 := rel3_fr hR1 hF2 rfl rfl
  show GG _ _ _ _ _ _ _ _ [.int c2] _ _ _
  refine g_istore 1165 (gd rfl) rfl (Nat.le_of_ble_eq_true rfl) ?_
  refine g_goto 1884 (gd rfl) rfl ?_
  exact gg_w (by omega) (gg_f (gf_cons rfl (gf_cons rfl (gf_cons rfl (gf_cons rfl (gf_cons rfl gf_nil))))) (next A2 t2 _ _ a0 a1 a3 hI2 hK2 hR2 (by omega) (by omega)))

theorem lc_1168 {Z : AmZ} {b L : Nat} {xs : Nat → Int32} {A : Nat → Nat} {s : GS} {i : Int32} {C S N : Nat} {ret : AmR} (hL : L ≤ 384) (h0 : 0 ≤ i.toInt) (h6 : i.toInt + 6 ≤ (L : Int)) (hC : 4000 ≤ C) (hS : 90000 ≤ S) (hI : Inv s) (hK : KL s) (hR : REL3 s)
    (next : ∀ (A2 : Nat → Nat) (t : GS) (C2 S2 : Nat), A2 0 = A 0 → A2 109 = A 109 → A2 195 = A 195 → Inv t → KL t → REL3 t → C - 4000 ≤ C2 → S - 90000 ≤ S2 → GG Z 1300 0 ret (gl Z b L xs) N 1884 (fun j => xlook j [(0, .ref b), (1, .ref (A 0)), (2, .ref (A 109)), (3, .ref (A 195)), (4, .int i)]) [] (WW Z A2 t ++ []) C2 S2) :
    GG Z 1300 0 ret (gl Z b L xs) (N + 100) 1168 (fun j => xlook j [(0, .ref b), (1, .ref (A 0)), (2, .ref (A 109)), (3, .ref (A 195)), (4, .int i)]) [] (WW Z A s ++ []) C S := by
  refine g_aload_n 1169 (gd rfl) rfl rfl ?_
  refine g_aload_n 1170 (gd rfl) rfl rfl ?_
  refine g_iload 1172 (gd rfl) rfl rfl ?_
  refine g_iconst 1 1173 (gd rfl) rfl rfl ?_
  refine g_iadd 1174 (gd rfl) rfl (fun z1173 e1173 => ?_)
  refine g_sldL 1175 (gd rfl) rfl (sx_in e1173 h0 h6 hL rfl) (fun z1174 => ?_)
  refine g_aload_n 1176 (gd rfl) rfl rfl ?_
  refine g_callW (As := [.ref (A 0), .int z1174, .ref (A 195)]) (r := []) 1179 (gd rfl) rfl rfl rfl rfl rfl (Nat.le_of_ble_eq_true rfl) (mc := 3) (ms := 18) (by omega) (by omega) (w_23 hI hK) (fun v u h => ?_)
  obtain ⟨c1, A2, t1, rfl, rfl, a0, a1, a3, hI1, hF1, hK1⟩ := h
  have hR1 := rel3_fr hR hF1 rfl rfl
  show GG _ _ _ _ _ _ _ _ [.int c1] _ _ _
  refine g_istore 1181 (gd rfl) rfl (Nat.le_of_ble_eq_true rfl) ?_
  refine g_aload_n 1182 (gd rfl) rfl rfl ?_
  refine g_aload_n 1183 (gd rfl) rfl rfl ?_
  refine g_iload 1185 (gd rfl) rfl rfl ?_
  refine g_iconst 1 1186 (gd rfl) rfl rfl ?_
  refine g_iadd 1187 (gd rfl) rfl (fun z1186 e1186 => ?_)
  refine g_sldL 1188 (gd rfl) rfl (sx_in e1186 h0 h6 hL rfl) (fun z1187 => ?_)
  have kc2 := k_334 (Z := Z) (A := A2) (s := t1) (ex := []) (d := 1300) (X := g_no) (x1 := z1187) (by omega) hI1 
  rw [a1] at kc2
  refine g_callvL (As := [.int z1187]) (r := []) (b := A 109) (q := 109) 1191 (gd rfl) rfl rfl rfl rfl rfl (by rw [← a1]; exact ww_o rfl) (Nat.le_of_ble_eq_true rfl) (mc := 0) (ms := 0) (by omega) (by omega) kc2 (fun e u h => h) (fun v u h => ?_)
  obtain ⟨t2, hI2, hF2, c2, rfl, rfl, tl⟩ := h
  have hK2 : KL t2 := kl_fr hK1 hF2 rfl
  have hR2 := rel3_fr hR1 hF2 rfl rfl
  show GG _ _ _ _ _ _ _ _ [.int c2] _ _ _
  refine g_istore 1193 (gd rfl) rfl (Nat.le_of_ble_eq_true rfl) ?_
  refine g_goto 1884 (gd rfl) rfl ?_
  exact gg_w (by omega) (gg_f (gf_cons rfl (gf_cons rfl (gf_cons rfl (gf_cons rfl (gf_cons rfl gf_nil))))) (next A2 t2 _ _ a0 a1 a3 hI2 hK2 hR2 (by omega) (by omega)))

theorem lc_1196 {Z : AmZ} {b L : Nat} {xs : Nat → Int32} {A : Nat → Nat} {s : GS} {i : Int32} {C S N : Nat} {ret : AmR} (hL : L ≤ 384) (h0 : 0 ≤ i.toInt) (h6 : i.toInt + 6 ≤ (L : Int)) (hC : 4000 ≤ C) (hS : 90000 ≤ S) (hI : Inv s) (hK : KL s) (hR : REL3 s)
    (next : ∀ (A2 : Nat → Nat) (t : GS) (C2 S2 : Nat), A2 0 = A 0 → A2 109 = A 109 → A2 195 = A 195 → Inv t → KL t → REL3 t → C - 4000 ≤ C2 → S - 90000 ≤ S2 → GG Z 1300 0 ret (gl Z b L xs) N 1884 (fun j => xlook j [(0, .ref b), (1, .ref (A 0)), (2, .ref (A 109)), (3, .ref (A 195)), (4, .int i)]) [] (WW Z A2 t ++ []) C2 S2) :
    GG Z 1300 0 ret (gl Z b L xs) (N + 100) 1196 (fun j => xlook j [(0, .ref b), (1, .ref (A 0)), (2, .ref (A 109)), (3, .ref (A 195)), (4, .int i)]) [] (WW Z A s ++ []) C S := by
  refine g_aload_n 1197 (gd rfl) rfl rfl ?_
  refine g_aload_n 1198 (gd rfl) rfl rfl ?_
  refine g_iload 1200 (gd rfl) rfl rfl ?_
  refine g_iconst 1 1201 (gd rfl) rfl rfl ?_
  refine g_iadd 1202 (gd rfl) rfl (fun z1201 e1201 => ?_)
  refine g_sldL 1203 (gd rfl) rfl (sx_in e1201 h0 h6 hL rfl) (fun z1202 => ?_)
  refine g_aload_n 1204 (gd rfl) rfl rfl ?_
  refine g_callW (As := [.ref (A 0), .int z1202, .ref (A 195)]) (r := []) 1207 (gd rfl) rfl rfl rfl rfl rfl (Nat.le_of_ble_eq_true rfl) (mc := 3) (ms := 18) (by omega) (by omega) (w_24 hI hK) (fun v u h => ?_)
  obtain ⟨c1, A2, t1, rfl, rfl, a0, a1, a3, hI1, hF1, hK1⟩ := h
  have hR1 := rel3_fr hR hF1 rfl rfl
  show GG _ _ _ _ _ _ _ _ [.int c1] _ _ _
  refine g_istore 1209 (gd rfl) rfl (Nat.le_of_ble_eq_true rfl) ?_
  refine g_aload_n 1210 (gd rfl) rfl rfl ?_
  refine g_aload_n 1211 (gd rfl) rfl rfl ?_
  refine g_iload 1213 (gd rfl) rfl rfl ?_
  refine g_iconst 1 1214 (gd rfl) rfl rfl ?_
  refine g_iadd 1215 (gd rfl) rfl (fun z1214 e1214 => ?_)
  refine g_sldL 1216 (gd rfl) rfl (sx_in e1214 h0 h6 hL rfl) (fun z1215 => ?_)
  have kc2 := k_338 (Z := Z) (A := A2) (s := t1) (ex := []) (d := 1300) (X := g_no) (x1 := z1215) (by omega) hI1 
  rw [a1] at kc2
  refine g_callvL (As := [.int z1215]) (r := []) (b := A 109) (q := 109) 1219 (gd rfl) rfl rfl rfl rfl rfl (by rw [← a1]; exact ww_o rfl) (Nat.le_of_ble_eq_true rfl) (mc := 0) (ms := 0) (by omega) (by omega) kc2 (fun e u h => h) (fun v u h => ?_)
  obtain ⟨t2, hI2, hF2, c2, rfl, rfl, tl⟩ := h
  have hK2 : KL t2 := kl_fr hK1 hF2 rfl
  have hR2 := rel3_fr hR1 hF2 rfl rfl
  show GG _ _ _ _ _ _ _ _ [.int c2] _ _ _
  refine g_istore 1221 (gd rfl) rfl (Nat.le_of_ble_eq_true rfl) ?_
  refine g_goto 1884 (gd rfl) rfl ?_
  exact gg_w (by omega) (gg_f (gf_cons rfl (gf_cons rfl (gf_cons rfl (gf_cons rfl (gf_cons rfl gf_nil))))) (next A2 t2 _ _ a0 a1 a3 hI2 hK2 hR2 (by omega) (by omega)))

theorem lc_1224 {Z : AmZ} {b L : Nat} {xs : Nat → Int32} {A : Nat → Nat} {s : GS} {i : Int32} {C S N : Nat} {ret : AmR} (hL : L ≤ 384) (h0 : 0 ≤ i.toInt) (h6 : i.toInt + 6 ≤ (L : Int)) (hC : 4000 ≤ C) (hS : 90000 ≤ S) (hI : Inv s) (hK : KL s) (hR : REL3 s)
    (next : ∀ (A2 : Nat → Nat) (t : GS) (C2 S2 : Nat), A2 0 = A 0 → A2 109 = A 109 → A2 195 = A 195 → Inv t → KL t → REL3 t → C - 4000 ≤ C2 → S - 90000 ≤ S2 → GG Z 1300 0 ret (gl Z b L xs) N 1884 (fun j => xlook j [(0, .ref b), (1, .ref (A 0)), (2, .ref (A 109)), (3, .ref (A 195)), (4, .int i)]) [] (WW Z A2 t ++ []) C2 S2) :
    GG Z 1300 0 ret (gl Z b L xs) (N + 100) 1224 (fun j => xlook j [(0, .ref b), (1, .ref (A 0)), (2, .ref (A 109)), (3, .ref (A 195)), (4, .int i)]) [] (WW Z A s ++ []) C S := by
  refine g_aload_n 1225 (gd rfl) rfl rfl ?_
  refine g_aload_n 1226 (gd rfl) rfl rfl ?_
  refine g_iload 1228 (gd rfl) rfl rfl ?_
  refine g_iconst 1 1229 (gd rfl) rfl rfl ?_
  refine g_iadd 1230 (gd rfl) rfl (fun z1229 e1229 => ?_)
  refine g_sldL 1231 (gd rfl) rfl (sx_in e1229 h0 h6 hL rfl) (fun z1230 => ?_)
  refine g_aload_n 1232 (gd rfl) rfl rfl ?_
  refine g_callW (As := [.ref (A 0), .int z1230, .ref (A 195)]) (r := []) 1235 (gd rfl) rfl rfl rfl rfl rfl (Nat.le_of_ble_eq_true rfl) (mc := 3) (ms := 18) (by omega) (by omega) (w_25 hI hK) (fun v u h => ?_)
  obtain ⟨c1, A2, t1, rfl, rfl, a0, a1, a3, hI1, hF1, hK1⟩ := h
  have hR1 := rel3_fr hR hF1 rfl rfl
  show GG _ _ _ _ _ _ _ _ [.int c1] _ _ _
  refine g_istore 1237 (gd rfl) rfl (Nat.le_of_ble_eq_true rfl) ?_
  refine g_aload_n 1238 (gd rfl) rfl rfl ?_
  refine g_aload_n 1239 (gd rfl) rfl rfl ?_
  refine g_iload 1241 (gd rfl) rfl rfl ?_
  refine g_iconst 1 1242 (gd rfl) rfl rfl ?_
  refine g_iadd 1243 (gd rfl) rfl (fun z1242 e1242 => ?_)
  refine g_sldL 1244 (gd rfl) rfl (sx_in e1242 h0 h6 hL rfl) (fun z1243 => ?_)
  have kc2 := k_347 (Z := Z) (A := A2) (s := t1) (ex := []) (d := 1300) (X := g_no) (x1 := z1243) (by omega) hI1 
  rw [a1] at kc2
  refine g_callvL (As := [.int z1243]) (r := []) (b := A 109) (q := 109) 1247 (gd rfl) rfl rfl rfl rfl rfl (by rw [← a1]; exact ww_o rfl) (Nat.le_of_ble_eq_true rfl) (mc := 0) (ms := 0) (by omega) (by omega) kc2 (fun e u h => h) (fun v u h => ?_)
  obtain ⟨t2, hI2, hF2, c2, rfl, rfl, tl⟩ := h
  have hK2 : KL t2 := kl_fr hK1 hF2 rfl
  have hR2 := rel3_fr hR1 hF2 rfl rfl
  show GG _ _ _ _ _ _ _ _ [.int c2] _ _ _
  refine g_istore 1249 (gd rfl) rfl (Nat.le_of_ble_eq_true rfl) ?_
  refine g_goto 1884 (gd rfl) rfl ?_
  exact gg_w (by omega) (gg_f (gf_cons rfl (gf_cons rfl (gf_cons rfl (gf_cons rfl (gf_cons rfl gf_nil))))) (next A2 t2 _ _ a0 a1 a3 hI2 hK2 hR2 (by omega) (by omega)))

theorem lc_1252 {Z : AmZ} {b L : Nat} {xs : Nat → Int32} {A : Nat → Nat} {s : GS} {i : Int32} {C S N : Nat} {ret : AmR} (hL : L ≤ 384) (h0 : 0 ≤ i.toInt) (h6 : i.toInt + 6 ≤ (L : Int)) (hC : 4000 ≤ C) (hS : 90000 ≤ S) (hI : Inv s) (hK : KL s) (hR : REL3 s)
    (next : ∀ (A2 : Nat → Nat) (t : GS) (C2 S2 : Nat), A2 0 = A 0 → A2 109 = A 109 → A2 195 = A 195 → Inv t → KL t → REL3 t → C - 4000 ≤ C2 → S - 90000 ≤ S2 → GG Z 1300 0 ret (gl Z b L xs) N 1884 (fun j => xlook j [(0, .ref b), (1, .ref (A 0)), (2, .ref (A 109)), (3, .ref (A 195)), (4, .int i)]) [] (WW Z A2 t ++ []) C2 S2) :
    GG Z 1300 0 ret (gl Z b L xs) (N + 100) 1252 (fun j => xlook j [(0, .ref b), (1, .ref (A 0)), (2, .ref (A 109)), (3, .ref (A 195)), (4, .int i)]) [] (WW Z A s ++ []) C S := by
  refine g_aload_n 1253 (gd rfl) rfl rfl ?_
  refine g_aload_n 1254 (gd rfl) rfl rfl ?_
  refine g_iload 1256 (gd rfl) rfl rfl ?_
  refine g_iconst 1 1257 (gd rfl) rfl rfl ?_
  refine g_iadd 1258 (gd rfl) rfl (fun z1257 e1257 => ?_)
  refine g_sldL 1259 (gd rfl) rfl (sx_in e1257 h0 h6 hL rfl) (fun z1258 => ?_)
  refine g_aload_n 1260 (gd rfl) rfl rfl ?_
  refine g_iload 1262 (gd rfl) rfl rfl ?_
  refine g_iconst 2 1263 (gd rfl) rfl rfl ?_
  refine g_iadd 1264 (gd rfl) rfl (fun z1263 e1263 => ?_)
  refine g_sldL 1265 (gd rfl) rfl (sx_in e1263 h0 h6 hL rfl) (fun z1264 => ?_)
  refine g_aload_n 1266 (gd rfl) rfl rfl ?_
  refine g_callW (As := [.ref (A 0), .int z1258, .int z1264, .ref (A 195)]) (r := []) 1269 (gd rfl) rfl rfl rfl rfl rfl (Nat.le_of_ble_eq_true rfl) (mc := 3) (ms := 18) (by omega) (by omega) (w_26 hI hK) (fun v u h => ?_)
  obtain ⟨c1, A2, t1, rfl, rfl, a0, a1, a3, hI1, hF1, hK1⟩ := h
  have hR1 := rel3_fr hR hF1 rfl rfl
  show GG _ _ _ _ _ _ _ _ [.int c1] _ _ _
  refine g_istore 1271 (gd rfl) rfl (Nat.le_of_ble_eq_true rfl) ?_
  refine g_aload_n 1272 (gd rfl) rfl rfl ?_
  refine g_aload_n 1273 (gd rfl) rfl rfl ?_
  refine g_iload 1275 (gd rfl) rfl rfl ?_
  refine g_iconst 1 1276 (gd rfl) rfl rfl ?_
  refine g_iadd 1277 (gd rfl) rfl (fun z1276 e1276 => ?_)
  refine g_sldL 1278 (gd rfl) rfl (sx_in e1276 h0 h6 hL rfl) (fun z1277 => ?_)
  refine g_aload_n 1279 (gd rfl) rfl rfl ?_
  refine g_iload 1281 (gd rfl) rfl rfl ?_
  refine g_iconst 2 1282 (gd rfl) rfl rfl ?_
  refine g_iadd 1283 (gd rfl) rfl (fun z1282 e1282 => ?_)
  refine g_sldL 1284 (gd rfl) rfl (sx_in e1282 h0 h6 hL rfl) (fun z1283 => ?_)
  have kc2 := k_354 (Z := Z) (A := A2) (s := t1) (ex := []) (d := 1300) (X := g_no) (x1 := z1277) (x2 := z1283) (by omega) hI1 
  rw [a1] at kc2
  refine g_callvL (As := [.int z1277, .int z1283]) (r := []) (b := A 109) (q := 109) 1287 (gd rfl) rfl rfl rfl rfl rfl (by rw [← a1]; exact ww_o rfl) (Nat.le_of_ble_eq_true rfl) (mc := 0) (ms := 0) (by omega) (by omega) kc2 (fun e u h => h) (fun v u h => ?_)
  obtain ⟨t2, hI2, hF2, c2, rfl, rfl⟩ := h
  have hK2 : KL t2 := kl_fr hK1 hF2 rfl
  have hR2 := rel3_fr hR1 hF2 rfl rfl
  show GG _ _ _ _ _ _ _ _ [.long c2] _ _ _
  refine g_lstore 1289 (gd rfl) rfl (Nat.le_of_ble_eq_true rfl) ?_
  refine g_goto 1884 (gd rfl) rfl ?_
  exact gg_w (by omega) (gg_f (gf_cons rfl (gf_cons rfl (gf_cons rfl (gf_cons rfl (gf_cons rfl gf_nil))))) (next A2 t2 _ _ a0 a1 a3 hI2 hK2 hR2 (by omega) (by omega)))

theorem lc_1292 {Z : AmZ} {b L : Nat} {xs : Nat → Int32} {A : Nat → Nat} {s : GS} {i : Int32} {C S N : Nat} {ret : AmR} (hL : L ≤ 384) (h0 : 0 ≤ i.toInt) (h6 : i.toInt + 6 ≤ (L : Int)) (hC : 4000 ≤ C) (hS : 90000 ≤ S) (hI : Inv s) (hK : KL s) (hR : REL3 s)
    (next : ∀ (A2 : Nat → Nat) (t : GS) (C2 S2 : Nat), A2 0 = A 0 → A2 109 = A 109 → A2 195 = A 195 → Inv t → KL t → REL3 t → C - 4000 ≤ C2 → S - 90000 ≤ S2 → GG Z 1300 0 ret (gl Z b L xs) N 1884 (fun j => xlook j [(0, .ref b), (1, .ref (A 0)), (2, .ref (A 109)), (3, .ref (A 195)), (4, .int i)]) [] (WW Z A2 t ++ []) C2 S2) :
    GG Z 1300 0 ret (gl Z b L xs) (N + 100) 1292 (fun j => xlook j [(0, .ref b), (1, .ref (A 0)), (2, .ref (A 109)), (3, .ref (A 195)), (4, .int i)]) [] (WW Z A s ++ []) C S := by
  refine g_aload_n 1293 (gd rfl) rfl rfl ?_
  refine g_aload_n 1294 (gd rfl) rfl rfl ?_
  refine g_iload 1296 (gd rfl) rfl rfl ?_
  refine g_iconst 1 1297 (gd rfl) rfl rfl ?_
  refine g_iadd 1298 (gd rfl) rfl (fun z1297 e1297 => ?_)
  refine g_sldL 1299 (gd rfl) rfl (sx_in e1297 h0 h6 hL rfl) (fun z1298 => ?_)
  refine g_aload_n 1300 (gd rfl) rfl rfl ?_
  refine g_iload 1302 (gd rfl) rfl rfl ?_
  refine g_iconst 2 1303 (gd rfl) rfl rfl ?_
  refine g_iadd 1304 (gd rfl) rfl (fun z1303 e1303 => ?_)
  refine g_sldL 1305 (gd rfl) rfl (sx_in e1303 h0 h6 hL rfl) (fun z1304 => ?_)
  refine g_aload_n 1306 (gd rfl) rfl rfl ?_
  refine g_iload 1308 (gd rfl) rfl rfl ?_
  refine g_iconst 3 1309 (gd rfl) rfl rfl ?_
  refine g_iadd 1310 (gd rfl) rfl (fun z1309 e1309 => ?_)
  refine g_sldL 1311 (gd rfl) rfl (sx_in e1309 h0 h6 hL rfl) (fun z1310 => ?_)
  refine g_aload_n 1312 (gd rfl) rfl rfl ?_
  refine g_callW (As := [.ref (A 0), .int z1298, .int z1304, .int z1310, .ref (A 195)]) (r := []) 1315 (gd rfl) rfl rfl rfl rfl rfl (Nat.le_of_ble_eq_true rfl) (mc := 3) (ms := 18) (by omega) (by omega) (w_27 hI hK) (fun v u h => ?_)
  obtain ⟨c1, A2, t1, rfl, rfl, a0, a1, a3, hI1, hF1, hK1⟩ := h
  have hR1 := rel3_fr hR hF1 rfl rfl
  show GG _ _ _ _ _ _ _ _ [.int c1] _ _ _
  refine g_istore 1317 (gd rfl) rfl (Nat.le_of_ble_eq_true rfl) ?_
  refine g_aload_n 1318 (gd rfl) rfl rfl ?_
  refine g_aload_n 1319 (gd rfl) rfl rfl ?_
  refine g_iload 1321 (gd rfl) rfl rfl ?_
  refine g_iconst 1 1322 (gd rfl) rfl rfl ?_
  refine g_iadd 1323 (gd rfl) rfl (fun z1322 e1322 => ?_)
  refine g_sldL 1324 (gd rfl) rfl (sx_in e1322 h0 h6 hL rfl) (fun z1323 => ?_)
  refine g_aload_n 1325 (gd rfl) rfl rfl ?_
  refine g_iload 1327 (gd rfl) rfl rfl ?_
  refine g_iconst 2 1328 (gd rfl) rfl rfl ?_
  refine g_iadd 1329 (gd rfl) rfl (fun z1328 e1328 => ?_)
  refine g_sldL 1330 (gd rfl) rfl (sx_in e1328 h0 h6 hL rfl) (fun z1329 => ?_)
  refine g_aload_n 1331 (gd rfl) rfl rfl ?_
  refine g_iload 1333 (gd rfl) rfl rfl ?_
  refine g_iconst 3 1334 (gd rfl) rfl rfl ?_
  refine g_iadd 1335 (gd rfl) rfl (fun z1334 e1334 => ?_)
  refine g_sldL 1336 (gd rfl) rfl (sx_in e1334 h0 h6 hL rfl) (fun z1335 => ?_)
  have kc2 := k_355 (Z := Z) (A := A2) (s := t1) (ex := []) (d := 1300) (X := g_no) (x1 := z1323) (x2 := z1329) (x3 := z1335) (by omega) hI1 
  rw [a1] at kc2
  refine g_callvL (As := [.int z1323, .int z1329, .int z1335]) (r := []) (b := A 109) (q := 109) 1339 (gd rfl) rfl rfl rfl rfl rfl (by rw [← a1]; exact ww_o rfl) (Nat.le_of_ble_eq_true rfl) (mc := 0) (ms := 0) (by omega) (by omega) kc2 (fun e u h => h) (fun v u h => ?_)
  obtain ⟨t2, hI2, hF2, c2, rfl, rfl, tl⟩ := h
  have hK2 : KL t2 := kl_fr hK1 hF2 rfl
  have hR2 := rel3_fr hR1 hF2 rfl rfl
  show GG _ _ _ _ _ _ _ _ [.int c2] _ _ _
  refine g_istore 1341 (gd rfl) rfl (Nat.le_of_ble_eq_true rfl) ?_
  refine g_goto 1884 (gd rfl) rfl ?_
  exact gg_w (by omega) (gg_f (gf_cons rfl (gf_cons rfl (gf_cons rfl (gf_cons rfl (gf_cons rfl gf_nil))))) (next A2 t2 _ _ a0 a1 a3 hI2 hK2 hR2 (by omega) (by omega)))

theorem lc_1344 {Z : AmZ} {b L : Nat} {xs : Nat → Int32} {A : Nat → Nat} {s : GS} {i : Int32} {C S N : Nat} {ret : AmR} (hL : L ≤ 384) (h0 : 0 ≤ i.toInt) (h6 : i.toInt + 6 ≤ (L : Int)) (hC : 4000 ≤ C) (hS : 90000 ≤ S) (hI : Inv s) (hK : KL s) (hR : REL3 s)
    (next : ∀ (A2 : Nat → Nat) (t : GS) (C2 S2 : Nat), A2 0 = A 0 → A2 109 = A 109 → A2 195 = A 195 → Inv t → KL t → REL3 t → C - 4000 ≤ C2 → S - 90000 ≤ S2 → GG Z 1300 0 ret (gl Z b L xs) N 1884 (fun j => xlook j [(0, .ref b), (1, .ref (A 0)), (2, .ref (A 109)), (3, .ref (A 195)), (4, .int i)]) [] (WW Z A2 t ++ []) C2 S2) :
    GG Z 1300 0 ret (gl Z b L xs) (N + 100) 1344 (fun j => xlook j [(0, .ref b), (1, .ref (A 0)), (2, .ref (A 109)), (3, .ref (A 195)), (4, .int i)]) [] (WW Z A s ++ []) C S := by
  refine g_aload_n 1345 (gd rfl) rfl rfl ?_
  refine g_aload_n 1346 (gd rfl) rfl rfl ?_
  refine g_iload 1348 (gd rfl) rfl rfl ?_
  refine g_iconst 1 1349 (gd rfl) rfl rfl ?_
  refine g_iadd 1350 (gd rfl) rfl (fun z1349 e1349 => ?_)
  refine g_sldL 1351 (gd rfl) rfl (sx_in e1349 h0 h6 hL rfl) (fun z1350 => ?_)
  refine g_aload_n 1352 (gd rfl) rfl rfl ?_
  refine g_iload 1354 (gd rfl) rfl rfl ?_
  refine g_iconst 2 1355 (gd rfl) rfl rfl ?_
  refine g_iadd 1356 (gd rfl) rfl (fun z1355 e1355 => ?_)
  refine g_sldL 1357 (gd rfl) rfl (sx_in e1355 h0 h6 hL rfl) (fun z1356 => ?_)
  refine g_aload_n 1358 (gd rfl) rfl rfl ?_
  refine g_iload 1360 (gd rfl) rfl rfl ?_
  refine g_iconst 3 1361 (gd rfl) rfl rfl ?_
  refine g_iadd 1362 (gd rfl) rfl (fun z1361 e1361 => ?_)
  refine g_sldL 1363 (gd rfl) rfl (sx_in e1361 h0 h6 hL rfl) (fun z1362 => ?_)
  refine g_aload_n 1364 (gd rfl) rfl rfl ?_
  refine g_callW (As := [.ref (A 0), .int z1350, .int z1356, .int z1362, .ref (A 195)]) (r := []) 1367 (gd rfl) rfl rfl rfl rfl rfl (Nat.le_of_ble_eq_true rfl) (mc := 3) (ms := 18) (by omega) (by omega) (w_28 hI hK) (fun v u h => ?_)
  obtain ⟨c1, A2, t1, rfl, rfl, a0, a1, a3, hI1, hF1, hK1⟩ := h
  have hR1 := rel3_fr hR hF1 rfl rfl
  show GG _ _ _ _ _ _ _ _ [.int c1] _ _ _
  refine g_istore 1369 (gd rfl) rfl (Nat.le_of_ble_eq_true rfl) ?_
  refine g_aload_n 1370 (gd rfl) rfl rfl ?_
  refine g_aload_n 1371 (gd rfl) rfl rfl ?_
  refine g_iload 1373 (gd rfl) rfl rfl ?_
  refine g_iconst 1 1374 (gd rfl) rfl rfl ?_
  refine g_iadd 1375 (gd rfl) rfl (fun z1374 e1374 => ?_)
  refine g_sldL 1376 (gd rfl) rfl (sx_in e1374 h0 h6 hL rfl) (fun z1375 => ?_)
  refine g_aload_n 1377 (gd rfl) rfl rfl ?_
  refine g_iload 1379 (gd rfl) rfl rfl ?_
  refine g_iconst 2 1380 (gd rfl) rfl rfl ?_
  refine g_iadd 1381 (gd rfl) rfl (fun z1380 e1380 => ?_)
  refine g_sldL 1382 (gd rfl) rfl (sx_in e1380 h0 h6 hL rfl) (fun z1381 => ?_)
  refine g_aload_n 1383 (gd rfl) rfl rfl ?_
  refine g_iload 1385 (gd rfl) rfl rfl ?_
  refine g_iconst 3 1386 (gd rfl) rfl rfl ?_
  refine g_iadd 1387 (gd rfl) rfl (fun z1386 e1386 => ?_)
  refine g_sldL 1388 (gd rfl) rfl (sx_in e1386 h0 h6 hL rfl) (fun z1387 => ?_)
  have kc2 := k_357 (Z := Z) (A := A2) (s := t1) (ex := []) (d := 1300) (X := g_no) (x1 := z1375) (x2 := z1381) (x3 := z1387) (by omega) hI1 
  rw [a1] at kc2
  refine g_callvL (As := [.int z1375, .int z1381, .int z1387]) (r := []) (b := A 109) (q := 109) 1391 (gd rfl) rfl rfl rfl rfl rfl (by rw [← a1]; exact ww_o rfl) (Nat.le_of_ble_eq_true rfl) (mc := 0) (ms := 0) (by omega) (by omega) kc2 (fun e u h => h) (fun v u h => ?_)
  obtain ⟨t2, hI2, hF2, c2, rfl, rfl⟩ := h
  have hK2 : KL t2 := kl_fr hK1 hF2 rfl
  have hR2 := rel3_fr hR1 hF2 rfl rfl
  show GG _ _ _ _ _ _ _ _ [.long c2] _ _ _
  refine g_lstore 1393 (gd rfl) rfl (Nat.le_of_ble_eq_true rfl) ?_
  refine g_goto 1884 (gd rfl) rfl ?_
  exact gg_w (by omega) (gg_f (gf_cons rfl (gf_cons rfl (gf_cons rfl (gf_cons rfl (gf_cons rfl gf_nil))))) (next A2 t2 _ _ a0 a1 a3 hI2 hK2 hR2 (by omega) (by omega)))

theorem lc_1396 {Z : AmZ} {b L : Nat} {xs : Nat → Int32} {A : Nat → Nat} {s : GS} {i : Int32} {C S N : Nat} {ret : AmR} (hL : L ≤ 384) (h0 : 0 ≤ i.toInt) (h6 : i.toInt + 6 ≤ (L : Int)) (hC : 4000 ≤ C) (hS : 90000 ≤ S) (hI : Inv s) (hK : KL s) (hR : REL3 s)
    (next : ∀ (A2 : Nat → Nat) (t : GS) (C2 S2 : Nat), A2 0 = A 0 → A2 109 = A 109 → A2 195 = A 195 → Inv t → KL t → REL3 t → C - 4000 ≤ C2 → S - 90000 ≤ S2 → GG Z 1300 0 ret (gl Z b L xs) N 1884 (fun j => xlook j [(0, .ref b), (1, .ref (A 0)), (2, .ref (A 109)), (3, .ref (A 195)), (4, .int i)]) [] (WW Z A2 t ++ []) C2 S2) :
    GG Z 1300 0 ret (gl Z b L xs) (N + 100) 1396 (fun j => xlook j [(0, .ref b), (1, .ref (A 0)), (2, .ref (A 109)), (3, .ref (A 195)), (4, .int i)]) [] (WW Z A s ++ []) C S := by
  refine g_aload_n 1397 (gd rfl) rfl rfl ?_
  refine g_aload_n 1398 (gd rfl) rfl rfl ?_
  refine g_iload 1400 (gd rfl) rfl rfl ?_
  refine g_iconst 1 1401 (gd rfl) rfl rfl ?_
  refine g_iadd 1402 (gd rfl) rfl (fun z1401 e1401 => ?_)
  refine g_sldL 1403 (gd rfl) rfl (sx_in e1401 h0 h6 hL rfl) (fun z1402 => ?_)
  refine g_aload_n 1404 (gd rfl) rfl rfl ?_
  refine g_callW (As := [.ref (A 0), .int z1402, .ref (A 195)]) (r := []) 1407 (gd rfl) rfl rfl rfl rfl rfl (Nat.le_of_ble_eq_true rfl) (mc := 3) (ms := 18) (by omega) (by omega) (w_29 hI hK) (fun v u h => ?_)
  obtain ⟨c1, A2, t1, rfl, rfl, a0, a1, a3, hI1, hF1, hK1⟩ := h
  have hR1 := rel3_fr hR hF1 rfl rfl
  show GG _ _ _ _ _ _ _ _ [.int c1] _ _ _
  refine g_istore 1409 (gd rfl) rfl (Nat.le_of_ble_eq_true rfl) ?_
  refine g_aload_n 1410 (gd rfl) rfl rfl ?_
  refine g_aload_n 1411 (gd rfl) rfl rfl ?_
  refine g_iload 1413 (gd rfl) rfl rfl ?_
  refine g_iconst 1 1414 (gd rfl) rfl rfl ?_
  refine g_iadd 1415 (gd rfl) rfl (fun z1414 e1414 => ?_)
  refine g_sldL 1416 (gd rfl) rfl (sx_in e1414 h0 h6 hL rfl) (fun z1415 => ?_)
  have kc2 := k_362 (Z := Z) (A := A2) (s := t1) (ex := []) (d := 1300) (X := g_no) (x1 := z1415) (by omega) hI1 
  rw [a1] at kc2
  refine g_callvL (As := [.int z1415]) (r := []) (b := A 109) (q := 109) 1419 (gd rfl) rfl rfl rfl rfl rfl (by rw [← a1]; exact ww_o rfl) (Nat.le_of_ble_eq_true rfl) (mc := 0) (ms := 0) (by omega) (by omega) kc2 (fun e u h => h) (fun v u h => ?_)
  obtain ⟨t2, hI2, hF2, c2, rfl, rfl⟩ := h
  have hK2 : KL t2 := kl_fr hK1 hF2 rfl
  have hR2 := rel3_fr hR1 hF2 rfl rfl
  show GG _ _ _ _ _ _ _ _ [.long c2] _ _ _
  refine g_lstore 1421 (gd rfl) rfl (Nat.le_of_ble_eq_true rfl) ?_
  refine g_goto 1884 (gd rfl) rfl ?_
  exact gg_w (by omega) (gg_f (gf_cons rfl (gf_cons rfl (gf_cons rfl (gf_cons rfl (gf_cons rfl gf_nil))))) (next A2 t2 _ _ a0 a1 a3 hI2 hK2 hR2 (by omega) (by omega)))

theorem lc_1424 {Z : AmZ} {b L : Nat} {xs : Nat → Int32} {A : Nat → Nat} {s : GS} {i : Int32} {C S N : Nat} {ret : AmR} (hL : L ≤ 384) (h0 : 0 ≤ i.toInt) (h6 : i.toInt + 6 ≤ (L : Int)) (hC : 4000 ≤ C) (hS : 90000 ≤ S) (hI : Inv s) (hK : KL s) (hR : REL3 s)
    (next : ∀ (A2 : Nat → Nat) (t : GS) (C2 S2 : Nat), A2 0 = A 0 → A2 109 = A 109 → A2 195 = A 195 → Inv t → KL t → REL3 t → C - 4000 ≤ C2 → S - 90000 ≤ S2 → GG Z 1300 0 ret (gl Z b L xs) N 1884 (fun j => xlook j [(0, .ref b), (1, .ref (A 0)), (2, .ref (A 109)), (3, .ref (A 195)), (4, .int i)]) [] (WW Z A2 t ++ []) C2 S2) :
    GG Z 1300 0 ret (gl Z b L xs) (N + 100) 1424 (fun j => xlook j [(0, .ref b), (1, .ref (A 0)), (2, .ref (A 109)), (3, .ref (A 195)), (4, .int i)]) [] (WW Z A s ++ []) C S := by
  refine g_aload_n 1425 (gd rfl) rfl rfl ?_
  refine g_aload_n 1426 (gd rfl) rfl rfl ?_
  refine g_iload 1428 (gd rfl) rfl rfl ?_
  refine g_iconst 1 1429 (gd rfl) rfl rfl ?_
  refine g_iadd 1430 (gd rfl) rfl (fun z1429 e1429 => ?_)
  refine g_sldL 1431 (gd rfl) rfl (sx_in e1429 h0 h6 hL rfl) (fun z1430 => ?_)
  refine g_aload_n 1432 (gd rfl) rfl rfl ?_
  refine g_callW (As := [.ref (A 0), .int z1430, .ref (A 195)]) (r := []) 1435 (gd rfl) rfl rfl rfl rfl rfl (Nat.le_of_ble_eq_true rfl) (mc := 3) (ms := 18) (by omega) (by omega) (w_30 hI hK) (fun v u h => ?_)
  obtain ⟨c1, A2, t1, rfl, rfl, a0, a1, a3, hI1, hF1, hK1⟩ := h
  have hR1 := rel3_fr hR hF1 rfl rfl
  show GG _ _ _ _ _ _ _ _ [.int c1] _ _ _
  refine g_istore 1437 (gd rfl) rfl (Nat.le_of_ble_eq_true rfl) ?_
  refine g_aload_n 1438 (gd rfl) rfl rfl ?_
  refine g_aload_n 1439 (gd rfl) rfl rfl ?_
  refine g_iload 1441 (gd rfl) rfl rfl ?_
  refine g_iconst 1 1442 (gd rfl) rfl rfl ?_
  refine g_iadd 1443 (gd rfl) rfl (fun z1442 e1442 => ?_)
  refine g_sldL 1444 (gd rfl) rfl (sx_in e1442 h0 h6 hL rfl) (fun z1443 => ?_)
  have kc2 := k_363 (Z := Z) (A := A2) (s := t1) (ex := []) (d := 1300) (X := g_no) (x1 := z1443) (by omega) hI1 
  rw [a1] at kc2
  refine g_callvL (As := [.int z1443]) (r := []) (b := A 109) (q := 109) 1447 (gd rfl) rfl rfl rfl rfl rfl (by rw [← a1]; exact ww_o rfl) (Nat.le_of_ble_eq_true rfl) (mc := 0) (ms := 0) (by omega) (by omega) kc2 (fun e u h => h) (fun v u h => ?_)
  obtain ⟨t2, hI2, hF2, c2, rfl, rfl⟩ := h
  have hK2 : KL t2 := kl_fr hK1 hF2 rfl
  have hR2 := rel3_fr hR1 hF2 rfl rfl
  show GG _ _ _ _ _ _ _ _ [.long c2] _ _ _
  refine g_lstore 1449 (gd rfl) rfl (Nat.le_of_ble_eq_true rfl) ?_
  refine g_goto 1884 (gd rfl) rfl ?_
  exact gg_w (by omega) (gg_f (gf_cons rfl (gf_cons rfl (gf_cons rfl (gf_cons rfl (gf_cons rfl gf_nil))))) (next A2 t2 _ _ a0 a1 a3 hI2 hK2 hR2 (by omega) (by omega)))

theorem lc_1452 {Z : AmZ} {b L : Nat} {xs : Nat → Int32} {A : Nat → Nat} {s : GS} {i : Int32} {C S N : Nat} {ret : AmR} (hL : L ≤ 384) (h0 : 0 ≤ i.toInt) (h6 : i.toInt + 6 ≤ (L : Int)) (hC : 4000 ≤ C) (hS : 90000 ≤ S) (hI : Inv s) (hK : KL s) (hR : REL3 s)
    (next : ∀ (A2 : Nat → Nat) (t : GS) (C2 S2 : Nat), A2 0 = A 0 → A2 109 = A 109 → A2 195 = A 195 → Inv t → KL t → REL3 t → C - 4000 ≤ C2 → S - 90000 ≤ S2 → GG Z 1300 0 ret (gl Z b L xs) N 1884 (fun j => xlook j [(0, .ref b), (1, .ref (A 0)), (2, .ref (A 109)), (3, .ref (A 195)), (4, .int i)]) [] (WW Z A2 t ++ []) C2 S2) :
    GG Z 1300 0 ret (gl Z b L xs) (N + 100) 1452 (fun j => xlook j [(0, .ref b), (1, .ref (A 0)), (2, .ref (A 109)), (3, .ref (A 195)), (4, .int i)]) [] (WW Z A s ++ []) C S := by
  refine g_aload_n 1453 (gd rfl) rfl rfl ?_
  refine g_aload_n 1454 (gd rfl) rfl rfl ?_
  refine g_iload 1456 (gd rfl) rfl rfl ?_
  refine g_iconst 1 1457 (gd rfl) rfl rfl ?_
  refine g_iadd 1458 (gd rfl) rfl (fun z1457 e1457 => ?_)
  refine g_sldL 1459 (gd rfl) rfl (sx_in e1457 h0 h6 hL rfl) (fun z1458 => ?_)
  refine g_aload_n 1460 (gd rfl) rfl rfl ?_
  refine g_callW (As := [.ref (A 0), .int z1458, .ref (A 195)]) (r := []) 1463 (gd rfl) rfl rfl rfl rfl rfl (Nat.le_of_ble_eq_true rfl) (mc := 3) (ms := 18) (by omega) (by omega) (w_31 hI hK) (fun v u h => ?_)
  obtain ⟨c1, A2, t1, rfl, rfl, a0, a1, a3, hI1, hF1, hK1⟩ := h
  have hR1 := rel3_fr hR hF1 rfl rfl
  show GG _ _ _ _ _ _ _ _ [.int c1] _ _ _
  refine g_istore 1465 (gd rfl) rfl (Nat.le_of_ble_eq_true rfl) ?_
  refine g_aload_n 1466 (gd rfl) rfl rfl ?_
  refine g_aload_n 1467 (gd rfl) rfl rfl ?_
  refine g_iload 1469 (gd rfl) rfl rfl ?_
  refine g_iconst 1 1470 (gd rfl) rfl rfl ?_
  refine g_iadd 1471 (gd rfl) rfl (fun z1470 e1470 => ?_)
  refine g_sldL 1472 (gd rfl) rfl (sx_in e1470 h0 h6 hL rfl) (fun z1471 => ?_)
  have kc2 := k_365 (Z := Z) (A := A2) (s := t1) (ex := []) (d := 1300) (X := g_no) (x1 := z1471) (by omega) hI1 
  rw [a1] at kc2
  refine g_callvL (As := [.int z1471]) (r := []) (b := A 109) (q := 109) 1475 (gd rfl) rfl rfl rfl rfl rfl (by rw [← a1]; exact ww_o rfl) (Nat.le_of_ble_eq_true rfl) (mc := 0) (ms := 0) (by omega) (by omega) kc2 (fun e u h => h) (fun v u h => ?_)
  obtain ⟨t2, hI2, hF2, c2, rfl, rfl, tl⟩ := h
  have hK2 : KL t2 := kl_fr hK1 hF2 rfl
  have hR2 := rel3_fr hR1 hF2 rfl rfl
  show GG _ _ _ _ _ _ _ _ [.int c2] _ _ _
  refine g_istore 1477 (gd rfl) rfl (Nat.le_of_ble_eq_true rfl) ?_
  refine g_goto 1884 (gd rfl) rfl ?_
  exact gg_w (by omega) (gg_f (gf_cons rfl (gf_cons rfl (gf_cons rfl (gf_cons rfl (gf_cons rfl gf_nil))))) (next A2 t2 _ _ a0 a1 a3 hI2 hK2 hR2 (by omega) (by omega)))

theorem lc_1480 {Z : AmZ} {b L : Nat} {xs : Nat → Int32} {A : Nat → Nat} {s : GS} {i : Int32} {C S N : Nat} {ret : AmR} (hL : L ≤ 384) (h0 : 0 ≤ i.toInt) (h6 : i.toInt + 6 ≤ (L : Int)) (hC : 4000 ≤ C) (hS : 90000 ≤ S) (hI : Inv s) (hK : KL s) (hR : REL3 s)
    (next : ∀ (A2 : Nat → Nat) (t : GS) (C2 S2 : Nat), A2 0 = A 0 → A2 109 = A 109 → A2 195 = A 195 → Inv t → KL t → REL3 t → C - 4000 ≤ C2 → S - 90000 ≤ S2 → GG Z 1300 0 ret (gl Z b L xs) N 1884 (fun j => xlook j [(0, .ref b), (1, .ref (A 0)), (2, .ref (A 109)), (3, .ref (A 195)), (4, .int i)]) [] (WW Z A2 t ++ []) C2 S2) :
    GG Z 1300 0 ret (gl Z b L xs) (N + 100) 1480 (fun j => xlook j [(0, .ref b), (1, .ref (A 0)), (2, .ref (A 109)), (3, .ref (A 195)), (4, .int i)]) [] (WW Z A s ++ []) C S := by
  refine g_aload_n 1481 (gd rfl) rfl rfl ?_
  have kc1 := k_247_0 (Z := Z) (A := A) (s := s) (ex := []) (d := 1300) (X := g_no)  (by omega) hI 
  refine g_callvL (As := []) (r := []) (b := A 0) (q := 0) 1484 (gd rfl) rfl rfl rfl rfl rfl (ww_o rfl) (Nat.le_of_ble_eq_true rfl) (mc := 3) (ms := 18) (by omega) (by omega) kc1 (fun e u h => h) (fun v u h => ?_)
  obtain ⟨t1, hI1, hF1, c1, rfl, rfl, tl⟩ := h
  have hK1 : KL t1 := kl_fr hK hF1 rfl
  have hR1 := rel3_fr hR hF1 rfl rfl
  show GG _ _ _ _ _ _ _ _ [.int c1] _ _ _
  refine g_pop 1485 (gd rfl) rfl rfl ?_
  refine g_aload_n 1486 (gd rfl) rfl rfl ?_
  have kc2 := k_368 (Z := Z) (A := A) (s := t1) (ex := []) (d := 1300) (X := g_no)  (by omega) hI1 
  refine g_callvL (As := []) (r := []) (b := A 109) (q := 109) 1489 (gd rfl) rfl rfl rfl rfl rfl (ww_o rfl) (Nat.le_of_ble_eq_true rfl) (mc := 0) (ms := 0) (by omega) (by omega) kc2 (fun e u h => h) (fun v u h => ?_)
  obtain ⟨t2, hI2, hF2, c2, rfl, rfl, tl⟩ := h
  have hK2 : KL t2 := kl_fr hK1 hF2 rfl
  have hR2 := rel3_fr hR1 hF2 rfl rfl
  show GG _ _ _ _ _ _ _ _ [.int c2] _ _ _
  refine g_pop 1490 (gd rfl) rfl rfl ?_
  refine g_goto 1884 (gd rfl) rfl ?_
  exact gg_w (by omega) (gg_f (gf_cons rfl (gf_cons rfl (gf_cons rfl (gf_cons rfl (gf_cons rfl gf_nil))))) (next A t2 _ _ rfl rfl rfl hI2 hK2 hR2 (by omega) (by omega)))

theorem lc_1493 {Z : AmZ} {b L : Nat} {xs : Nat → Int32} {A : Nat → Nat} {s : GS} {i : Int32} {C S N : Nat} {ret : AmR} (hL : L ≤ 384) (h0 : 0 ≤ i.toInt) (h6 : i.toInt + 6 ≤ (L : Int)) (hC : 4000 ≤ C) (hS : 90000 ≤ S) (hI : Inv s) (hK : KL s) (hR : REL3 s)
    (next : ∀ (A2 : Nat → Nat) (t : GS) (C2 S2 : Nat), A2 0 = A 0 → A2 109 = A 109 → A2 195 = A 195 → Inv t → KL t → REL3 t → C - 4000 ≤ C2 → S - 90000 ≤ S2 → GG Z 1300 0 ret (gl Z b L xs) N 1884 (fun j => xlook j [(0, .ref b), (1, .ref (A 0)), (2, .ref (A 109)), (3, .ref (A 195)), (4, .int i)]) [] (WW Z A2 t ++ []) C2 S2) :
    GG Z 1300 0 ret (gl Z b L xs) (N + 100) 1493 (fun j => xlook j [(0, .ref b), (1, .ref (A 0)), (2, .ref (A 109)), (3, .ref (A 195)), (4, .int i)]) [] (WW Z A s ++ []) C S := by
  refine g_aload_n 1494 (gd rfl) rfl rfl ?_
  refine g_aload_n 1495 (gd rfl) rfl rfl ?_
  refine g_iload 1497 (gd rfl) rfl rfl ?_
  refine g_iconst 1 1498 (gd rfl) rfl rfl ?_
  refine g_iadd 1499 (gd rfl) rfl (fun z1498 e1498 => ?_)
  refine g_sldL 1500 (gd rfl) rfl (sx_in e1498 h0 h6 hL rfl) (fun z1499 => ?_)
  refine g_aload_n 1501 (gd rfl) rfl rfl ?_
  refine g_iload 1503 (gd rfl) rfl rfl ?_
  refine g_iconst 2 1504 (gd rfl) rfl rfl ?_
  refine g_iadd 1505 (gd rfl) rfl (fun z1504 e1504 => ?_)
  refine g_sldL 1506 (gd rfl) rfl (sx_in e1504 h0 h6 hL rfl) (fun z1505 => ?_)
  refine g_aload_n 1507 (gd rfl) rfl rfl ?_
  refine g_callW (As := [.ref (A 0), .int z1499, .int z1505, .ref (A 195)]) (r := []) 1510 (gd rfl) rfl rfl rfl rfl rfl (Nat.le_of_ble_eq_true rfl) (mc := 3) (ms := 18) (by omega) (by omega) (w_32 hI hK) (fun v u h => ?_)
  obtain ⟨c1, A2, t1, rfl, rfl, a0, a1, a3, hI1, hF1, hK1⟩ := h
  have hR1 := rel3_fr hR hF1 rfl rfl
  show GG _ _ _ _ _ _ _ _ [.int c1] _ _ _
  refine g_istore 1512 (gd rfl) rfl (Nat.le_of_ble_eq_true rfl) ?_
  refine g_aload_n 1513 (gd rfl) rfl rfl ?_
  refine g_aload_n 1514 (gd rfl) rfl rfl ?_
  refine g_iload 1516 (gd rfl) rfl rfl ?_
  refine g_iconst 1 1517 (gd rfl) rfl rfl ?_
  refine g_iadd 1518 (gd rfl) rfl (fun z1517 e1517 => ?_)
  refine g_sldL 1519 (gd rfl) rfl (sx_in e1517 h0 h6 hL rfl) (fun z1518 => ?_)
  refine g_aload_n 1520 (gd rfl) rfl rfl ?_
  refine g_iload 1522 (gd rfl) rfl rfl ?_
  refine g_iconst 2 1523 (gd rfl) rfl rfl ?_
  refine g_iadd 1524 (gd rfl) rfl (fun z1523 e1523 => ?_)
  refine g_sldL 1525 (gd rfl) rfl (sx_in e1523 h0 h6 hL rfl) (fun z1524 => ?_)
  have kc2 := k_369 (Z := Z) (A := A2) (s := t1) (ex := []) (d := 1300) (X := g_no) (x1 := z1518) (x2 := z1524) (by omega) hI1 
  rw [a1] at kc2
  refine g_callvL (As := [.int z1518, .int z1524]) (r := []) (b := A 109) (q := 109) 1528 (gd rfl) rfl rfl rfl rfl rfl (by rw [← a1]; exact ww_o rfl) (Nat.le_of_ble_eq_true rfl) (mc := 0) (ms := 0) (by omega) (by omega) kc2 (fun e u h => h) (fun v u h => ?_)
  obtain ⟨t2, hI2, hF2, c2, rfl, rfl⟩ := h
  have hK2 : KL t2 := kl_fr hK1 hF2 rfl
  have hR2 := rel3_fr hR1 hF2 rfl rfl
  show GG _ _ _ _ _ _ _ _ [.long c2] _ _ _
  refine g_lstore 1530 (gd rfl) rfl (Nat.le_of_ble_eq_true rfl) ?_
  refine g_goto 1884 (gd rfl) rfl ?_
  exact gg_w (by omega) (gg_f (gf_cons rfl (gf_cons rfl (gf_cons rfl (gf_cons rfl (gf_cons rfl gf_nil))))) (next A2 t2 _ _ a0 a1 a3 hI2 hK2 hR2 (by omega) (by omega)))

theorem lc_1533 {Z : AmZ} {b L : Nat} {xs : Nat → Int32} {A : Nat → Nat} {s : GS} {i : Int32} {C S N : Nat} {ret : AmR} (hL : L ≤ 384) (h0 : 0 ≤ i.toInt) (h6 : i.toInt + 6 ≤ (L : Int)) (hC : 4000 ≤ C) (hS : 90000 ≤ S) (hI : Inv s) (hK : KL s) (hR : REL3 s)
    (next : ∀ (A2 : Nat → Nat) (t : GS) (C2 S2 : Nat), A2 0 = A 0 → A2 109 = A 109 → A2 195 = A 195 → Inv t → KL t → REL3 t → C - 4000 ≤ C2 → S - 90000 ≤ S2 → GG Z 1300 0 ret (gl Z b L xs) N 1884 (fun j => xlook j [(0, .ref b), (1, .ref (A 0)), (2, .ref (A 109)), (3, .ref (A 195)), (4, .int i)]) [] (WW Z A2 t ++ []) C2 S2) :
    GG Z 1300 0 ret (gl Z b L xs) (N + 100) 1533 (fun j => xlook j [(0, .ref b), (1, .ref (A 0)), (2, .ref (A 109)), (3, .ref (A 195)), (4, .int i)]) [] (WW Z A s ++ []) C S := by
  refine g_aload_n 1534 (gd rfl) rfl rfl ?_
  refine g_aload_n 1535 (gd rfl) rfl rfl ?_
  refine g_iload 1537 (gd rfl) rfl rfl ?_
  refine g_iconst 1 1538 (gd rfl) rfl rfl ?_
  refine g_iadd 1539 (gd rfl) rfl (fun z1538 e1538 => ?_)
  refine g_sldL 1540 (gd rfl) rfl (sx_in e1538 h0 h6 hL rfl) (fun z1539 => ?_)
  refine g_aload_n 1541 (gd rfl) rfl rfl ?_
  refine g_iload 1543 (gd rfl) rfl rfl ?_
  refine g_iconst 2 1544 (gd rfl) rfl rfl ?_
  refine g_iadd 1545 (gd rfl) rfl (fun z1544 e1544 => ?_)
  refine g_sldL 1546 (gd rfl) rfl (sx_in e1544 h0 h6 hL rfl) (fun z1545 => ?_)
  refine g_aload_n 1547 (gd rfl) rfl rfl ?_
  refine g_iload 1549 (gd rfl) rfl rfl ?_
  refine g_iconst 3 1550 (gd rfl) rfl rfl ?_
  refine g_iadd 1551 (gd rfl) rfl (fun z1550 e1550 => ?_)
  refine g_sldL 1552 (gd rfl) rfl (sx_in e1550 h0 h6 hL rfl) (fun z1551 => ?_)
  refine g_aload_n 1553 (gd rfl) rfl rfl ?_
  refine g_iload 1555 (gd rfl) rfl rfl ?_
  refine g_iconst 4 1556 (gd rfl) rfl rfl ?_
  refine g_iadd 1557 (gd rfl) rfl (fun z1556 e1556 => ?_)
  refine g_sldL 1558 (gd rfl) rfl (sx_in e1556 h0 h6 hL rfl) (fun z1557 => ?_)
  refine g_aload_n 1559 (gd rfl) rfl rfl ?_
  refine g_callW (As := [.ref (A 0), .int z1539, .int z1545, .int z1551, .int z1557, .ref (A 195)]) (r := []) 1562 (gd rfl) rfl rfl rfl rfl rfl (Nat.le_of_ble_eq_true rfl) (mc := 3) (ms := 18) (by omega) (by omega) (w_33 hI hK) (fun v u h => ?_)
  obtain ⟨c1, A2, t1, rfl, rfl, a0, a1, a3, hI1, hF1, hK1⟩ := h
  have hR1 := rel3_fr hR hF1 rfl rfl
  show GG _ _ _ _ _ _ _ _ [.int c1] _ _ _
  refine g_istore 1564 (gd rfl) rfl (Nat.le_of_ble_eq_true rfl) ?_
  refine g_aload_n 1565 (gd rfl) rfl rfl ?_
  refine g_aload_n 1566 (gd rfl) rfl rfl ?_
  refine g_iload 1568 (gd rfl) rfl rfl ?_
  refine g_iconst 1 1569 (gd rfl) rfl rfl ?_
  refine g_iadd 1570 (gd rfl) rfl (fun z1569 e1569 => ?_)
  refine g_sldL 1571 (gd rfl) rfl (sx_in e1569 h0 h6 hL rfl) (fun z1570 => ?_)
  refine g_aload_n 1572 (gd rfl) rfl rfl ?_
  refine g_iload 1574 (gd rfl) rfl rfl ?_
  refine g_iconst 2 1575 (gd rfl) rfl rfl ?_
  refine g_iadd 1576 (gd rfl) rfl (fun z1575 e1575 => ?_)
  refine g_sldL 1577 (gd rfl) rfl (sx_in e1575 h0 h6 hL rfl) (fun z1576 => ?_)
  refine g_aload_n 1578 (gd rfl) rfl rfl ?_
  refine g_iload 1580 (gd rfl) rfl rfl ?_
  refine g_iconst 3 1581 (gd rfl) rfl rfl ?_
  refine g_iadd 1582 (gd rfl) rfl (fun z1581 e1581 => ?_)
  refine g_sldL 1583 (gd rfl) rfl (sx_in e1581 h0 h6 hL rfl) (fun z1582 => ?_)
  refine g_aload_n 1584 (gd rfl) rfl rfl ?_
  refine g_iload 1586 (gd rfl) rfl rfl ?_
  refine g_iconst 4 1587 (gd rfl) rfl rfl ?_
  refine g_iadd 1588 (gd rfl) rfl (fun z1587 e1587 => ?_)
  refine g_sldL 1589 (gd rfl) rfl (sx_in e1587 h0 h6 hL rfl) (fun z1588 => ?_)
  have kc2 := k_371 (Z := Z) (A := A2) (s := t1) (ex := []) (d := 1300) (X := g_no) (x1 := z1570) (x2 := z1576) (x3 := z1582) (x4 := z1588) (by omega) hI1 
  rw [a1] at kc2
  refine g_callvL (As := [.int z1570, .int z1576, .int z1582, .int z1588]) (r := []) (b := A 109) (q := 109) 1592 (gd rfl) rfl rfl rfl rfl rfl (by rw [← a1]; exact ww_o rfl) (Nat.le_of_ble_eq_true rfl) (mc := 0) (ms := 0) (by omega) (by omega) kc2 (fun e u h => h) (fun v u h => ?_)
  obtain ⟨t2, hI2, hF2, c2, rfl, rfl, tl⟩ := h
  have hK2 : KL t2 := kl_fr hK1 hF2 rfl
  have hR2 := rel3_fr hR1 hF2 rfl rfl
  show GG _ _ _ _ _ _ _ _ [.int c2] _ _ _
  refine g_istore 1594 (gd rfl) rfl (Nat.le_of_ble_eq_true rfl) ?_
  refine g_goto 1884 (gd rfl) rfl ?_
  exact gg_w (by omega) (gg_f (gf_cons rfl (gf_cons rfl (gf_cons rfl (gf_cons rfl (gf_cons rfl gf_nil))))) (next A2 t2 _ _ a0 a1 a3 hI2 hK2 hR2 (by omega) (by omega)))

theorem lc_1597 {Z : AmZ} {b L : Nat} {xs : Nat → Int32} {A : Nat → Nat} {s : GS} {i : Int32} {C S N : Nat} {ret : AmR} (hL : L ≤ 384) (h0 : 0 ≤ i.toInt) (h6 : i.toInt + 6 ≤ (L : Int)) (hC : 4000 ≤ C) (hS : 90000 ≤ S) (hI : Inv s) (hK : KL s) (hR : REL3 s)
    (next : ∀ (A2 : Nat → Nat) (t : GS) (C2 S2 : Nat), A2 0 = A 0 → A2 109 = A 109 → A2 195 = A 195 → Inv t → KL t → REL3 t → C - 4000 ≤ C2 → S - 90000 ≤ S2 → GG Z 1300 0 ret (gl Z b L xs) N 1884 (fun j => xlook j [(0, .ref b), (1, .ref (A 0)), (2, .ref (A 109)), (3, .ref (A 195)), (4, .int i)]) [] (WW Z A2 t ++ []) C2 S2) :
    GG Z 1300 0 ret (gl Z b L xs) (N + 100) 1597 (fun j => xlook j [(0, .ref b), (1, .ref (A 0)), (2, .ref (A 109)), (3, .ref (A 195)), (4, .int i)]) [] (WW Z A s ++ []) C S := by
  refine g_aload_n 1598 (gd rfl) rfl rfl ?_
  refine g_aload_n 1599 (gd rfl) rfl rfl ?_
  refine g_iload 1601 (gd rfl) rfl rfl ?_
  refine g_iconst 1 1602 (gd rfl) rfl rfl ?_
  refine g_iadd 1603 (gd rfl) rfl (fun z1602 e1602 => ?_)
  refine g_sldL 1604 (gd rfl) rfl (sx_in e1602 h0 h6 hL rfl) (fun z1603 => ?_)
  refine g_aload_n 1605 (gd rfl) rfl rfl ?_
  refine g_callW (As := [.ref (A 0), .int z1603, .ref (A 195)]) (r := []) 1608 (gd rfl) rfl rfl rfl rfl rfl (Nat.le_of_ble_eq_true rfl) (mc := 3) (ms := 18) (by omega) (by omega) (w_34 hI hK) (fun v u h => ?_)
  obtain ⟨c1, A2, t1, rfl, rfl, a0, a1, a3, hI1, hF1, hK1⟩ := h
  have hR1 := rel3_fr hR hF1 rfl rfl
  show GG _ _ _ _ _ _ _ _ [.int c1] _ _ _
  refine g_istore 1610 (gd rfl) rfl (Nat.le_of_ble_eq_true rfl) ?_
  refine g_aload_n 1611 (gd rfl) rfl rfl ?_
  refine g_aload_n 1612 (gd rfl) rfl rfl ?_
  refine g_iload 1614 (gd rfl) rfl rfl ?_
  refine g_iconst 1 1615 (gd rfl) rfl rfl ?_
  refine g_iadd 1616 (gd rfl) rfl (fun z1615 e1615 => ?_)
  refine g_sldL 1617 (gd rfl) rfl (sx_in e1615 h0 h6 hL rfl) (fun z1616 => ?_)
  have kc2 := k_378 (Z := Z) (A := A2) (s := t1) (ex := []) (d := 1300) (X := g_no) (x1 := z1616) (by omega) hI1 
  rw [a1] at kc2
  refine g_callvL (As := [.int z1616]) (r := []) (b := A 109) (q := 109) 1620 (gd rfl) rfl rfl rfl rfl rfl (by rw [← a1]; exact ww_o rfl) (Nat.le_of_ble_eq_true rfl) (mc := 0) (ms := 0) (by omega) (by omega) kc2 (fun e u h => h) (fun v u h => ?_)
  obtain ⟨t2, hI2, hF2, c2, rfl, rfl, tl⟩ := h
  have hK2 : KL t2 := kl_fr hK1 hF2 rfl
  have hR2 := rel3_fr hR1 hF2 rfl rfl
  show GG _ _ _ _ _ _ _ _ [.int c2] _ _ _
  refine g_istore 1622 (gd rfl) rfl (Nat.le_of_ble_eq_true rfl) ?_
  refine g_goto 1884 (gd rfl) rfl ?_
  exact gg_w (by omega) (gg_f (gf_cons rfl (gf_cons rfl (gf_cons rfl (gf_cons rfl (gf_cons rfl gf_nil))))) (next A2 t2 _ _ a0 a1 a3 hI2 hK2 hR2 (by omega) (by omega)))

theorem lc_1625 {Z : AmZ} {b L : Nat} {xs : Nat → Int32} {A : Nat → Nat} {s : GS} {i : Int32} {C S N : Nat} {ret : AmR} (hL : L ≤ 384) (h0 : 0 ≤ i.toInt) (h6 : i.toInt + 6 ≤ (L : Int)) (hC : 4000 ≤ C) (hS : 90000 ≤ S) (hI : Inv s) (hK : KL s) (hR : REL3 s)
    (next : ∀ (A2 : Nat → Nat) (t : GS) (C2 S2 : Nat), A2 0 = A 0 → A2 109 = A 109 → A2 195 = A 195 → Inv t → KL t → REL3 t → C - 4000 ≤ C2 → S - 90000 ≤ S2 → GG Z 1300 0 ret (gl Z b L xs) N 1884 (fun j => xlook j [(0, .ref b), (1, .ref (A 0)), (2, .ref (A 109)), (3, .ref (A 195)), (4, .int i)]) [] (WW Z A2 t ++ []) C2 S2) :
    GG Z 1300 0 ret (gl Z b L xs) (N + 100) 1625 (fun j => xlook j [(0, .ref b), (1, .ref (A 0)), (2, .ref (A 109)), (3, .ref (A 195)), (4, .int i)]) [] (WW Z A s ++ []) C S := by
  refine g_aload_n 1626 (gd rfl) rfl rfl ?_
  have kc1 := k_251_0 (Z := Z) (A := A) (s := s) (ex := []) (d := 1300) (X := g_no)  (by omega) hI 
  refine g_callvL (As := []) (r := []) (b := A 0) (q := 0) 1629 (gd rfl) rfl rfl rfl rfl rfl (ww_o rfl) (Nat.le_of_ble_eq_true rfl) (mc := 3) (ms := 18) (by omega) (by omega) kc1 (fun e u h => h) (fun v u h => ?_)
  obtain ⟨t1, hI1, hF1, c1, rfl, rfl⟩ := h
  have hK1 : KL t1 := kl_fr hK hF1 rfl
  have hR1 := rel3_fr hR hF1 rfl rfl
  show GG _ _ _ _ _ _ _ _ [.long c1] _ _ _
  refine g_pop2 1630 (gd rfl) rfl rfl ?_
  refine g_aload_n 1631 (gd rfl) rfl rfl ?_
  have kc2 := k_379 (Z := Z) (A := A) (s := t1) (ex := []) (d := 1300) (X := g_no)  (by omega) hI1 
  refine g_callvL (As := []) (r := []) (b := A 109) (q := 109) 1634 (gd rfl) rfl rfl rfl rfl rfl (ww_o rfl) (Nat.le_of_ble_eq_true rfl) (mc := 0) (ms := 0) (by omega) (by omega) kc2 (fun e u h => h) (fun v u h => ?_)
  obtain ⟨t2, hI2, hF2, c2, rfl, rfl⟩ := h
  have hK2 : KL t2 := kl_fr hK1 hF2 rfl
  have hR2 := rel3_fr hR1 hF2 rfl rfl
  show GG _ _ _ _ _ _ _ _ [.long c2] _ _ _
  refine g_pop2 1635 (gd rfl) rfl rfl ?_
  refine g_goto 1884 (gd rfl) rfl ?_
  exact gg_w (by omega) (gg_f (gf_cons rfl (gf_cons rfl (gf_cons rfl (gf_cons rfl (gf_cons rfl gf_nil))))) (next A t2 _ _ rfl rfl rfl hI2 hK2 hR2 (by omega) (by omega)))

theorem lc_1638 {Z : AmZ} {b L : Nat} {xs : Nat → Int32} {A : Nat → Nat} {s : GS} {i : Int32} {C S N : Nat} {ret : AmR} (hL : L ≤ 384) (h0 : 0 ≤ i.toInt) (h6 : i.toInt + 6 ≤ (L : Int)) (hC : 4000 ≤ C) (hS : 90000 ≤ S) (hI : Inv s) (hK : KL s) (hR : REL3 s)
    (next : ∀ (A2 : Nat → Nat) (t : GS) (C2 S2 : Nat), A2 0 = A 0 → A2 109 = A 109 → A2 195 = A 195 → Inv t → KL t → REL3 t → C - 4000 ≤ C2 → S - 90000 ≤ S2 → GG Z 1300 0 ret (gl Z b L xs) N 1884 (fun j => xlook j [(0, .ref b), (1, .ref (A 0)), (2, .ref (A 109)), (3, .ref (A 195)), (4, .int i)]) [] (WW Z A2 t ++ []) C2 S2) :
    GG Z 1300 0 ret (gl Z b L xs) (N + 100) 1638 (fun j => xlook j [(0, .ref b), (1, .ref (A 0)), (2, .ref (A 109)), (3, .ref (A 195)), (4, .int i)]) [] (WW Z A s ++ []) C S := by
  refine g_aload_n 1639 (gd rfl) rfl rfl ?_
  refine g_aload_n 1640 (gd rfl) rfl rfl ?_
  refine g_iload 1642 (gd rfl) rfl rfl ?_
  refine g_iconst 1 1643 (gd rfl) rfl rfl ?_
  refine g_iadd 1644 (gd rfl) rfl (fun z1643 e1643 => ?_)
  refine g_sldL 1645 (gd rfl) rfl (sx_in e1643 h0 h6 hL rfl) (fun z1644 => ?_)
  refine g_aload_n 1646 (gd rfl) rfl rfl ?_
  refine g_callW (As := [.ref (A 0), .int z1644, .ref (A 195)]) (r := []) 1649 (gd rfl) rfl rfl rfl rfl rfl (Nat.le_of_ble_eq_true rfl) (mc := 3) (ms := 18) (by omega) (by omega) (w_35 hI hK) (fun v u h => ?_)
  obtain ⟨c1, A2, t1, rfl, rfl, a0, a1, a3, hI1, hF1, hK1⟩ := h
  have hR1 := rel3_fr hR hF1 rfl rfl
  show GG _ _ _ _ _ _ _ _ [.int c1] _ _ _
  refine g_istore 1651 (gd rfl) rfl (Nat.le_of_ble_eq_true rfl) ?_
  refine g_aload_n 1652 (gd rfl) rfl rfl ?_
  refine g_aload_n 1653 (gd rfl) rfl rfl ?_
  refine g_iload 1655 (gd rfl) rfl rfl ?_
  refine g_iconst 1 1656 (gd rfl) rfl rfl ?_
  refine g_iadd 1657 (gd rfl) rfl (fun z1656 e1656 => ?_)
  refine g_sldL 1658 (gd rfl) rfl (sx_in e1656 h0 h6 hL rfl) (fun z1657 => ?_)
  have kc2 := k_380 (Z := Z) (A := A2) (s := t1) (ex := []) (d := 1300) (X := g_no) (x1 := z1657) (by omega) hI1 
  rw [a1] at kc2
  refine g_callvL (As := [.int z1657]) (r := []) (b := A 109) (q := 109) 1661 (gd rfl) rfl rfl rfl rfl rfl (by rw [← a1]; exact ww_o rfl) (Nat.le_of_ble_eq_true rfl) (mc := 0) (ms := 0) (by omega) (by omega) kc2 (fun e u h => h) (fun v u h => ?_)
  obtain ⟨t2, hI2, hF2, c2, rfl, rfl⟩ := h
  have hK2 : KL t2 := kl_fr hK1 hF2 rfl
  have hR2 := rel3_fr hR1 hF2 rfl rfl
  show GG _ _ _ _ _ _ _ _ [.long c2] _ _ _
  refine g_lstore 1663 (gd rfl) rfl (Nat.le_of_ble_eq_true rfl) ?_
  refine g_goto 1884 (gd rfl) rfl ?_
  exact gg_w (by omega) (gg_f (gf_cons rfl (gf_cons rfl (gf_cons rfl (gf_cons rfl (gf_cons rfl gf_nil))))) (next A2 t2 _ _ a0 a1 a3 hI2 hK2 hR2 (by omega) (by omega)))

theorem lc_1666 {Z : AmZ} {b L : Nat} {xs : Nat → Int32} {A : Nat → Nat} {s : GS} {i : Int32} {C S N : Nat} {ret : AmR} (hL : L ≤ 384) (h0 : 0 ≤ i.toInt) (h6 : i.toInt + 6 ≤ (L : Int)) (hC : 4000 ≤ C) (hS : 90000 ≤ S) (hI : Inv s) (hK : KL s) (hR : REL3 s)
    (next : ∀ (A2 : Nat → Nat) (t : GS) (C2 S2 : Nat), A2 0 = A 0 → A2 109 = A 109 → A2 195 = A 195 → Inv t → KL t → REL3 t → C - 4000 ≤ C2 → S - 90000 ≤ S2 → GG Z 1300 0 ret (gl Z b L xs) N 1884 (fun j => xlook j [(0, .ref b), (1, .ref (A 0)), (2, .ref (A 109)), (3, .ref (A 195)), (4, .int i)]) [] (WW Z A2 t ++ []) C2 S2) :
    GG Z 1300 0 ret (gl Z b L xs) (N + 100) 1666 (fun j => xlook j [(0, .ref b), (1, .ref (A 0)), (2, .ref (A 109)), (3, .ref (A 195)), (4, .int i)]) [] (WW Z A s ++ []) C S := by
  refine g_aload_n 1667 (gd rfl) rfl rfl ?_
  have kc1 := k_253_0 (Z := Z) (A := A) (s := s) (ex := []) (d := 1300) (X := g_no)  (by omega) hI 
  refine g_callvL (As := []) (r := []) (b := A 0) (q := 0) 1670 (gd rfl) rfl rfl rfl rfl rfl (ww_o rfl) (Nat.le_of_ble_eq_true rfl) (mc := 3) (ms := 18) (by omega) (by omega) kc1 (fun e u h => h) (fun v u h => ?_)
  obtain ⟨t1, hI1, hF1, c1, rfl, rfl, tl⟩ := h
  have hK1 : KL t1 := kl_fr hK hF1 rfl
  have hR1 := rel3_fr hR hF1 rfl rfl
  show GG _ _ _ _ _ _ _ _ [.int c1] _ _ _
  refine g_pop 1671 (gd rfl) rfl rfl ?_
  refine g_aload_n 1672 (gd rfl) rfl rfl ?_
  have kc2 := k_386 (Z := Z) (A := A) (s := t1) (ex := []) (d := 1300) (X := g_no)  (by omega) hI1 
  refine g_callvL (As := []) (r := []) (b := A 109) (q := 109) 1675 (gd rfl) rfl rfl rfl rfl rfl (ww_o rfl) (Nat.le_of_ble_eq_true rfl) (mc := 0) (ms := 0) (by omega) (by omega) kc2 (fun e u h => h) (fun v u h => ?_)
  obtain ⟨t2, hI2, hF2, c2, rfl, rfl, tl⟩ := h
  have hK2 : KL t2 := kl_fr hK1 hF2 rfl
  have hR2 := rel3_fr hR1 hF2 rfl rfl
  show GG _ _ _ _ _ _ _ _ [.int c2] _ _ _
  refine g_pop 1676 (gd rfl) rfl rfl ?_
  refine g_goto 1884 (gd rfl) rfl ?_
  exact gg_w (by omega) (gg_f (gf_cons rfl (gf_cons rfl (gf_cons rfl (gf_cons rfl (gf_cons rfl gf_nil))))) (next A t2 _ _ rfl rfl rfl hI2 hK2 hR2 (by omega) (by omega)))

theorem lc_1679 {Z : AmZ} {b L : Nat} {xs : Nat → Int32} {A : Nat → Nat} {s : GS} {i : Int32} {C S N : Nat} {ret : AmR} (hL : L ≤ 384) (h0 : 0 ≤ i.toInt) (h6 : i.toInt + 6 ≤ (L : Int)) (hC : 4000 ≤ C) (hS : 90000 ≤ S) (hI : Inv s) (hK : KL s) (hR : REL3 s)
    (next : ∀ (A2 : Nat → Nat) (t : GS) (C2 S2 : Nat), A2 0 = A 0 → A2 109 = A 109 → A2 195 = A 195 → Inv t → KL t → REL3 t → C - 4000 ≤ C2 → S - 90000 ≤ S2 → GG Z 1300 0 ret (gl Z b L xs) N 1884 (fun j => xlook j [(0, .ref b), (1, .ref (A 0)), (2, .ref (A 109)), (3, .ref (A 195)), (4, .int i)]) [] (WW Z A2 t ++ []) C2 S2) :
    GG Z 1300 0 ret (gl Z b L xs) (N + 100) 1679 (fun j => xlook j [(0, .ref b), (1, .ref (A 0)), (2, .ref (A 109)), (3, .ref (A 195)), (4, .int i)]) [] (WW Z A s ++ []) C S := by
  refine g_aload_n 1680 (gd rfl) rfl rfl ?_
  refine g_aload_n 1681 (gd rfl) rfl rfl ?_
  refine g_iload 1683 (gd rfl) rfl rfl ?_
  refine g_iconst 1 1684 (gd rfl) rfl rfl ?_
  refine g_iadd 1685 (gd rfl) rfl (fun z1684 e1684 => ?_)
  refine g_sldL 1686 (gd rfl) rfl (sx_in e1684 h0 h6 hL rfl) (fun z1685 => ?_)
  refine g_aload_n 1687 (gd rfl) rfl rfl ?_
  refine g_iload 1689 (gd rfl) rfl rfl ?_
  refine g_iconst 2 1690 (gd rfl) rfl rfl ?_
  refine g_iadd 1691 (gd rfl) rfl (fun z1690 e1690 => ?_)
  refine g_sldL 1692 (gd rfl) rfl (sx_in e1690 h0 h6 hL rfl) (fun z1691 => ?_)
  refine g_aload_n 1693 (gd rfl) rfl rfl ?_
  refine g_callW (As := [.ref (A 0), .int z1685, .int z1691, .ref (A 195)]) (r := []) 1696 (gd rfl) rfl rfl rfl rfl rfl (Nat.le_of_ble_eq_true rfl) (mc := 3) (ms := 18) (by omega) (by omega) (w_36 hI hK) (fun v u h => ?_)
  obtain ⟨c1, A2, t1, rfl, rfl, a0, a1, a3, hI1, hF1, hK1⟩ := h
  have hR1 := rel3_fr hR hF1 rfl rfl
  show GG _ _ _ _ _ _ _ _ [.int c1] _ _ _
  refine g_istore 1698 (gd rfl) rfl (Nat.le_of_ble_eq_true rfl) ?_
  refine g_aload_n 1699 (gd rfl) rfl rfl ?_
  refine g_aload_n 1700 (gd rfl) rfl rfl ?_
  refine g_iload 1702 (gd rfl) rfl rfl ?_
  refine g_iconst 1 1703 (gd rfl) rfl rfl ?_
  refine g_iadd 1704 (gd rfl) rfl (fun z1703 e1703 => ?_)
  refine g_sldL 1705 (gd rfl) rfl (sx_in e1703 h0 h6 hL rfl) (fun z1704 => ?_)
  refine g_aload_n 1706 (gd rfl) rfl rfl ?_
  refine g_iload 1708 (gd rfl) rfl rfl ?_
  refine g_iconst 2 1709 (gd rfl) rfl rfl ?_
  refine g_iadd 1710 (gd rfl) rfl (fun z1709 e1709 => ?_)
  refine g_sldL 1711 (gd rfl) rfl (sx_in e1709 h0 h6 hL rfl) (fun z1710 => ?_)
  have kc2 := k_389 (Z := Z) (A := A2) (s := t1) (ex := []) (d := 1300) (X := g_no) (x1 := z1704) (x2 := z1710) (by omega) hI1 
  rw [a1] at kc2
  refine g_callvL (As := [.int z1704, .int z1710]) (r := []) (b := A 109) (q := 109) 1714 (gd rfl) rfl rfl rfl rfl rfl (by rw [← a1]; exact ww_o rfl) (Nat.le_of_ble_eq_true rfl) (mc := 0) (ms := 0) (by omega) (by omega) kc2 (fun e u h => h) (fun v u h => ?_)
  obtain ⟨t2, hI2, hF2, c2, rfl, rfl, tl⟩ := h
  have hK2 : KL t2 := kl_fr hK1 hF2 rfl
  have hR2 := rel3_fr hR1 hF2 rfl rfl
  show GG _ _ _ _ _ _ _ _ [.int c2] _ _ _
  refine g_istore 1716 (gd rfl) rfl (Nat.le_of_ble_eq_true rfl) ?_
  refine g_goto 1884 (gd rfl) rfl ?_
  exact gg_w (by omega) (gg_f (gf_cons rfl (gf_cons rfl (gf_cons rfl (gf_cons rfl (gf_cons rfl gf_nil))))) (next A2 t2 _ _ a0 a1 a3 hI2 hK2 hR2 (by omega) (by omega)))

theorem lc_1719 {Z : AmZ} {b L : Nat} {xs : Nat → Int32} {A : Nat → Nat} {s : GS} {i : Int32} {C S N : Nat} {ret : AmR} (hL : L ≤ 384) (h0 : 0 ≤ i.toInt) (h6 : i.toInt + 6 ≤ (L : Int)) (hC : 4000 ≤ C) (hS : 90000 ≤ S) (hI : Inv s) (hK : KL s) (hR : REL3 s)
    (next : ∀ (A2 : Nat → Nat) (t : GS) (C2 S2 : Nat), A2 0 = A 0 → A2 109 = A 109 → A2 195 = A 195 → Inv t → KL t → REL3 t → C - 4000 ≤ C2 → S - 90000 ≤ S2 → GG Z 1300 0 ret (gl Z b L xs) N 1884 (fun j => xlook j [(0, .ref b), (1, .ref (A 0)), (2, .ref (A 109)), (3, .ref (A 195)), (4, .int i)]) [] (WW Z A2 t ++ []) C2 S2) :
    GG Z 1300 0 ret (gl Z b L xs) (N + 100) 1719 (fun j => xlook j [(0, .ref b), (1, .ref (A 0)), (2, .ref (A 109)), (3, .ref (A 195)), (4, .int i)]) [] (WW Z A s ++ []) C S := by
  refine g_aload_n 1720 (gd rfl) rfl rfl ?_
  have kc1 := k_255_0 (Z := Z) (A := A) (s := s) (ex := []) (d := 1300) (X := g_no)  (by omega) hI 
  refine g_callvL (As := []) (r := []) (b := A 0) (q := 0) 1723 (gd rfl) rfl rfl rfl rfl rfl (ww_o rfl) (Nat.le_of_ble_eq_true rfl) (mc := 3) (ms := 18) (by omega) (by omega) kc1 (fun e u h => h) (fun v u h => ?_)
  obtain ⟨t1, hI1, hF1, c1, rfl, rfl, tl⟩ := h
  have hK1 : KL t1 := kl_fr hK hF1 rfl
  have hR1 := rel3_fr hR hF1 rfl rfl
  show GG _ _ _ _ _ _ _ _ [.int c1] _ _ _
  refine g_pop 1724 (gd rfl) rfl rfl ?_
  refine g_aload_n 1725 (gd rfl) rfl rfl ?_
  have kc2 := k_404 (Z := Z) (A := A) (s := t1) (ex := []) (d := 1300) (X := g_no)  (by omega) hI1 
  refine g_callvL (As := []) (r := []) (b := A 109) (q := 109) 1728 (gd rfl) rfl rfl rfl rfl rfl (ww_o rfl) (Nat.le_of_ble_eq_true rfl) (mc := 0) (ms := 0) (by omega) (by omega) kc2 (fun e u h => h) (fun v u h => ?_)
  obtain ⟨t2, hI2, hF2, c2, rfl, rfl, tl⟩ := h
  have hK2 : KL t2 := kl_fr hK1 hF2 rfl
  have hR2 := rel3_fr hR1 hF2 rfl rfl
  show GG _ _ _ _ _ _ _ _ [.int c2] _ _ _
  refine g_pop 1729 (gd rfl) rfl rfl ?_
  refine g_goto 1884 (gd rfl) rfl ?_
  exact gg_w (by omega) (gg_f (gf_cons rfl (gf_cons rfl (gf_cons rfl (gf_cons rfl (gf_cons rfl gf_nil))))) (next A t2 _ _ rfl rfl rfl hI2 hK2 hR2 (by omega) (by omega)))

theorem lc_1732 {Z : AmZ} {b L : Nat} {xs : Nat → Int32} {A : Nat → Nat} {s : GS} {i : Int32} {C S N : Nat} {ret : AmR} (hL : L ≤ 384) (h0 : 0 ≤ i.toInt) (h6 : i.toInt + 6 ≤ (L : Int)) (hC : 4000 ≤ C) (hS : 90000 ≤ S) (hI : Inv s) (hK : KL s) (hR : REL3 s)
    (next : ∀ (A2 : Nat → Nat) (t : GS) (C2 S2 : Nat), A2 0 = A 0 → A2 109 = A 109 → A2 195 = A 195 → Inv t → KL t → REL3 t → C - 4000 ≤ C2 → S - 90000 ≤ S2 → GG Z 1300 0 ret (gl Z b L xs) N 1884 (fun j => xlook j [(0, .ref b), (1, .ref (A 0)), (2, .ref (A 109)), (3, .ref (A 195)), (4, .int i)]) [] (WW Z A2 t ++ []) C2 S2) :
    GG Z 1300 0 ret (gl Z b L xs) (N + 100) 1732 (fun j => xlook j [(0, .ref b), (1, .ref (A 0)), (2, .ref (A 109)), (3, .ref (A 195)), (4, .int i)]) [] (WW Z A s ++ []) C S := by
  refine g_aload_n 1733 (gd rfl) rfl rfl ?_
  refine g_aload_n 1734 (gd rfl) rfl rfl ?_
  refine g_iload 1736 (gd rfl) rfl rfl ?_
  refine g_iconst 1 1737 (gd rfl) rfl rfl ?_
  refine g_iadd 1738 (gd rfl) rfl (fun z1737 e1737 => ?_)
  refine g_sldL 1739 (gd rfl) rfl (sx_in e1737 h0 h6 hL rfl) (fun z1738 => ?_)
  refine g_aload_n 1740 (gd rfl) rfl rfl ?_
  refine g_iload 1742 (gd rfl) rfl rfl ?_
  refine g_iconst 2 1743 (gd rfl) rfl rfl ?_
  refine g_iadd 1744 (gd rfl) rfl (fun z1743 e1743 => ?_)
  refine g_sldL 1745 (gd rfl) rfl (sx_in e1743 h0 h6 hL rfl) (fun z1744 => ?_)
  refine g_aload_n 1746 (gd rfl) rfl rfl ?_
  refine g_iload 1748 (gd rfl) rfl rfl ?_
  refine g_iconst 3 1749 (gd rfl) rfl rfl ?_
  refine g_iadd 1750 (gd rfl) rfl (fun z1749 e1749 => ?_)
  refine g_sldL 1751 (gd rfl) rfl (sx_in e1749 h0 h6 hL rfl) (fun z1750 => ?_)
  refine g_aload_n 1752 (gd rfl) rfl rfl ?_
  refine g_iload 1754 (gd rfl) rfl rfl ?_
  refine g_iconst 4 1755 (gd rfl) rfl rfl ?_
  refine g_iadd 1756 (gd rfl) rfl (fun z1755 e1755 => ?_)
  refine g_sldL 1757 (gd rfl) rfl (sx_in e1755 h0 h6 hL rfl) (fun z1756 => ?_)
  refine g_i2l 1758 (gd rfl) rfl (fun z1757 e1757 => ?_)
  refine g_bipush 32 1760 (gd rfl) rfl rfl ?_
  refine g_lshl 1761 (gd rfl) rfl (fun z1760 e1760 => ?_)
  refine g_aload_n 1762 (gd rfl) rfl rfl ?_
  refine g_iload 1764 (gd rfl) rfl rfl ?_
  refine g_iconst 5 1765 (gd rfl) rfl rfl ?_
  refine g_iadd 1766 (gd rfl) rfl (fun z1765 e1765 => ?_)
  refine g_sldL 1767 (gd rfl) rfl (sx_in e1765 h0 h6 hL rfl) (fun z1766 => ?_)
  refine g_i2l 1768 (gd rfl) rfl (fun z1767 e1767 => ?_)
  refine g_ldc2_w 4294967295 1771 (gd rfl) rfl rfl ?_
  refine g_land 1772 (gd rfl) rfl (fun z1771 e1771 => ?_)
  refine g_lor 1773 (gd rfl) rfl (fun z1772 e1772 => ?_)
  refine g_aload_n 1774 (gd rfl) rfl rfl ?_
  refine g_callW (As := [.ref (A 0), .int z1738, .int z1744, .int z1750, .long z1772, .ref (A 195)]) (r := []) 1777 (gd rfl) rfl rfl rfl rfl rfl (Nat.le_of_ble_eq_true rfl) (mc := 3) (ms := 18) (by omega) (by omega) (w_37 hI hK) (fun v u h => ?_)
  obtain ⟨c1, A2, t1, rfl, rfl, a0, a1, a3, hI1, hF1, hK1⟩ := h
  have hR1 := rel3_fr hR hF1 rfl rfl
  show GG _ _ _ _ _ _ _ _ [.int c1] _ _ _
  refine g_istore 1779 (gd rfl) rfl (Nat.le_of_ble_eq_true rfl) ?_
  refine g_aload_n 1780 (gd rfl) rfl rfl ?_
  refine g_aload_n 1781 (gd rfl) rfl rfl ?_
  refine g_iload 1783 (gd rfl) rfl rfl ?_
  refine g_iconst 1 1784 (gd rfl) rfl rfl ?_
  refine g_iadd 1785 (gd rfl) rfl (fun z1784 e1784 => ?_)
  refine g_sldL 1786 (gd rfl) rfl (sx_in e1784 h0 h6 hL rfl) (fun z1785 => ?_)
  refine g_aload_n 1787 (gd rfl) rfl rfl ?_
  refine g_iload 1789 (gd rfl) rfl rfl ?_
  refine g_iconst 2 1790 (gd rfl) rfl rfl ?_
  refine g_iadd 1791 (gd rfl) rfl (fun z1790 e1790 => ?_)
  refine g_sldL 1792 (gd rfl) rfl (sx_in e1790 h0 h6 hL rfl) (fun z1791 => ?_)
  refine g_aload_n 1793 (gd rfl) rfl rfl ?_
  refine g_iload 1795 (gd rfl) rfl rfl ?_
  refine g_iconst 3 1796 (gd rfl) rfl rfl ?_
  refine g_iadd 1797 (gd rfl) rfl (fun z1796 e1796 => ?_)
  refine g_sldL 1798 (gd rfl) rfl (sx_in e1796 h0 h6 hL rfl) (fun z1797 => ?_)
  refine g_aload_n 1799 (gd rfl) rfl rfl ?_
  refine g_iload 1801 (gd rfl) rfl rfl ?_
  refine g_iconst 4 1802 (gd rfl) rfl rfl ?_
  refine g_iadd 1803 (gd rfl) rfl (fun z1802 e1802 => ?_)
  refine g_sldL 1804 (gd rfl) rfl (sx_in e1802 h0 h6 hL rfl) (fun z1803 => ?_)
  refine g_i2l 1805 (gd rfl) rfl (fun z1804 e1804 => ?_)
  refine g_bipush 32 1807 (gd rfl) rfl rfl ?_
  refine g_lshl 1808 (gd rfl) rfl (fun z1807 e1807 => ?_)
  refine g_aload_n 1809 (gd rfl) rfl rfl ?_
  refine g_iload 1811 (gd rfl) rfl rfl ?_
  refine g_iconst 5 1812 (gd rfl) rfl rfl ?_
  refine g_iadd 1813 (gd rfl) rfl (fun z1812 e1812 => ?_)
  refine g_sldL 1814 (gd rfl) rfl (sx_in e1812 h0 h6 hL rfl) (fun z1813 => ?_)
  refine g_i2l 1815 (gd rfl) rfl (fun z1814 e1814 => ?_)
  refine g_ldc2_w 4294967295 1818 (gd rfl) rfl rfl ?_
  refine g_land 1819 (gd rfl) rfl (fun z1818 e1818 => ?_)
  refine g_lor 1820 (gd rfl) rfl (fun z1819 e1819 => ?_)
  have kc2 := k_409 (Z := Z) (A := A2) (s := t1) (ex := []) (d := 1300) (X := g_no) (x1 := z1785) (x2 := z1791) (x3 := z1797) (x4 := z1819) (by omega) hI1 
  rw [a1] at kc2
  refine g_callvL (As := [.int z1785, .int z1791, .int z1797, .long z1819]) (r := []) (b := A 109) (q := 109) 1823 (gd rfl) rfl rfl rfl rfl rfl (by rw [← a1]; exact ww_o rfl) (Nat.le_of_ble_eq_true rfl) (mc := 0) (ms := 0) (by omega) (by omega) kc2 (fun e u h => h) (fun v u h => ?_)
  obtain ⟨t2, hI2, hF2, c2, rfl, rfl, tl⟩ := h
  have hK2 : KL t2 := kl_fr hK1 hF2 rfl
  have hR2 := rel3_fr hR1 hF2 rfl rfl
  show GG _ _ _ _ _ _ _ _ [.int c2] _ _ _
  refine g_istore 1825 (gd rfl) rfl (Nat.le_of_ble_eq_true rfl) ?_
  refine g_goto 1884 (gd rfl) rfl ?_
  exact gg_w (by omega) (gg_f (gf_cons rfl (gf_cons rfl (gf_cons rfl (gf_cons rfl (gf_cons rfl gf_nil))))) (next A2 t2 _ _ a0 a1 a3 hI2 hK2 hR2 (by omega) (by omega)))

theorem lc_1828 {Z : AmZ} {b L : Nat} {xs : Nat → Int32} {A : Nat → Nat} {s : GS} {i : Int32} {C S N : Nat} {ret : AmR} (hL : L ≤ 384) (h0 : 0 ≤ i.toInt) (h6 : i.toInt + 6 ≤ (L : Int)) (hC : 4000 ≤ C) (hS : 90000 ≤ S) (hI : Inv s) (hK : KL s) (hR : REL3 s)
    (next : ∀ (A2 : Nat → Nat) (t : GS) (C2 S2 : Nat), A2 0 = A 0 → A2 109 = A 109 → A2 195 = A 195 → Inv t → KL t → REL3 t → C - 4000 ≤ C2 → S - 90000 ≤ S2 → GG Z 1300 0 ret (gl Z b L xs) N 1884 (fun j => xlook j [(0, .ref b), (1, .ref (A 0)), (2, .ref (A 109)), (3, .ref (A 195)), (4, .int i)]) [] (WW Z A2 t ++ []) C2 S2) :
    GG Z 1300 0 ret (gl Z b L xs) (N + 100) 1828 (fun j => xlook j [(0, .ref b), (1, .ref (A 0)), (2, .ref (A 109)), (3, .ref (A 195)), (4, .int i)]) [] (WW Z A s ++ []) C S := by
  refine g_aload_n 1829 (gd rfl) rfl rfl ?_
  refine g_aload_n 1830 (gd rfl) rfl rfl ?_
  refine g_iload 1832 (gd rfl) rfl rfl ?_
  refine g_iconst 1 1833 (gd rfl) rfl rfl ?_
  refine g_iadd 1834 (gd rfl) rfl (fun z1833 e1833 => ?_)
  refine g_sldL 1835 (gd rfl) rfl (sx_in e1833 h0 h6 hL rfl) (fun z1834 => ?_)
  refine g_aload_n 1836 (gd rfl) rfl rfl ?_
  refine g_callW (As := [.ref (A 0), .int z1834, .ref (A 195)]) (r := []) 1839 (gd rfl) rfl rfl rfl rfl rfl (Nat.le_of_ble_eq_true rfl) (mc := 3) (ms := 18) (by omega) (by omega) (w_38 hI hK) (fun v u h => ?_)
  obtain ⟨c1, A2, t1, rfl, rfl, a0, a1, a3, hI1, hF1, hK1⟩ := h
  have hR1 := rel3_fr hR hF1 rfl rfl
  show GG _ _ _ _ _ _ _ _ [.int c1] _ _ _
  refine g_istore 1841 (gd rfl) rfl (Nat.le_of_ble_eq_true rfl) ?_
  refine g_aload_n 1842 (gd rfl) rfl rfl ?_
  refine g_aload_n 1843 (gd rfl) rfl rfl ?_
  refine g_iload 1845 (gd rfl) rfl rfl ?_
  refine g_iconst 1 1846 (gd rfl) rfl rfl ?_
  refine g_iadd 1847 (gd rfl) rfl (fun z1846 e1846 => ?_)
  refine g_sldL 1848 (gd rfl) rfl (sx_in e1846 h0 h6 hL rfl) (fun z1847 => ?_)
  have kc2 := k_412 (Z := Z) (A := A2) (s := t1) (ex := []) (d := 1300) (X := g_no) (x1 := z1847) (by omega) hI1 
  rw [a1] at kc2
  refine g_callvL (As := [.int z1847]) (r := []) (b := A 109) (q := 109) 1851 (gd rfl) rfl rfl rfl rfl rfl (by rw [← a1]; exact ww_o rfl) (Nat.le_of_ble_eq_true rfl) (mc := 0) (ms := 0) (by omega) (by omega) kc2 (fun e u h => h) (fun v u h => ?_)
  obtain ⟨t2, hI2, hF2, c2, rfl, rfl⟩ := h
  have hK2 : KL t2 := kl_fr hK1 hF2 rfl
  have hR2 := rel3_fr hR1 hF2 rfl rfl
  show GG _ _ _ _ _ _ _ _ [.long c2] _ _ _
  refine g_lstore 1853 (gd rfl) rfl (Nat.le_of_ble_eq_true rfl) ?_
  refine g_goto 1884 (gd rfl) rfl ?_
  exact gg_w (by omega) (gg_f (gf_cons rfl (gf_cons rfl (gf_cons rfl (gf_cons rfl (gf_cons rfl gf_nil))))) (next A2 t2 _ _ a0 a1 a3 hI2 hK2 hR2 (by omega) (by omega)))

theorem lc_1856 {Z : AmZ} {b L : Nat} {xs : Nat → Int32} {A : Nat → Nat} {s : GS} {i : Int32} {C S N : Nat} {ret : AmR} (hL : L ≤ 384) (h0 : 0 ≤ i.toInt) (h6 : i.toInt + 6 ≤ (L : Int)) (hC : 4000 ≤ C) (hS : 90000 ≤ S) (hI : Inv s) (hK : KL s) (hR : REL3 s)
    (next : ∀ (A2 : Nat → Nat) (t : GS) (C2 S2 : Nat), A2 0 = A 0 → A2 109 = A 109 → A2 195 = A 195 → Inv t → KL t → REL3 t → C - 4000 ≤ C2 → S - 90000 ≤ S2 → GG Z 1300 0 ret (gl Z b L xs) N 1884 (fun j => xlook j [(0, .ref b), (1, .ref (A 0)), (2, .ref (A 109)), (3, .ref (A 195)), (4, .int i)]) [] (WW Z A2 t ++ []) C2 S2) :
    GG Z 1300 0 ret (gl Z b L xs) (N + 100) 1856 (fun j => xlook j [(0, .ref b), (1, .ref (A 0)), (2, .ref (A 109)), (3, .ref (A 195)), (4, .int i)]) [] (WW Z A s ++ []) C S := by
  refine g_aload_n 1857 (gd rfl) rfl rfl ?_
  refine g_aload_n 1858 (gd rfl) rfl rfl ?_
  refine g_iload 1860 (gd rfl) rfl rfl ?_
  refine g_iconst 1 1861 (gd rfl) rfl rfl ?_
  refine g_iadd 1862 (gd rfl) rfl (fun z1861 e1861 => ?_)
  refine g_sldL 1863 (gd rfl) rfl (sx_in e1861 h0 h6 hL rfl) (fun z1862 => ?_)
  refine g_aload_n 1864 (gd rfl) rfl rfl ?_
  refine g_callW (As := [.ref (A 0), .int z1862, .ref (A 195)]) (r := []) 1867 (gd rfl) rfl rfl rfl rfl rfl (Nat.le_of_ble_eq_true rfl) (mc := 3) (ms := 18) (by omega) (by omega) (w_39 hI hK) (fun v u h => ?_)
  obtain ⟨c1, A2, t1, rfl, rfl, a0, a1, a3, hI1, hF1, hK1⟩ := h
  have hR1 := rel3_fr hR hF1 rfl rfl
  show GG _ _ _ _ _ _ _ _ [.int c1] _ _ _
  refine g_istore 1869 (gd rfl) rfl (Nat.le_of_ble_eq_true rfl) ?_
  refine g_aload_n 1870 (gd rfl) rfl rfl ?_
  refine g_aload_n 1871 (gd rfl) rfl rfl ?_
  refine g_iload 1873 (gd rfl) rfl rfl ?_
  refine g_iconst 1 1874 (gd rfl) rfl rfl ?_
  refine g_iadd 1875 (gd rfl) rfl (fun z1874 e1874 => ?_)
  refine g_sldL 1876 (gd rfl) rfl (sx_in e1874 h0 h6 hL rfl) (fun z1875 => ?_)
  have kc2 := k_413 (Z := Z) (A := A2) (s := t1) (ex := []) (d := 1300) (X := g_no) (x1 := z1875) (by omega) hI1 
  rw [a1] at kc2
  refine g_callvL (As := [.int z1875]) (r := []) (b := A 109) (q := 109) 1879 (gd rfl) rfl rfl rfl rfl rfl (by rw [← a1]; exact ww_o rfl) (Nat.le_of_ble_eq_true rfl) (mc := 0) (ms := 0) (by omega) (by omega) kc2 (fun e u h => h) (fun v u h => ?_)
  obtain ⟨t2, hI2, hF2, c2, rfl, rfl, tl⟩ := h
  have hK2 : KL t2 := kl_fr hK1 hF2 rfl
  have hR2 := rel3_fr hR1 hF2 rfl rfl
  show GG _ _ _ _ _ _ _ _ [.int c2] _ _ _
  refine g_istore 1881 (gd rfl) rfl (Nat.le_of_ble_eq_true rfl) ?_
  refine g_goto 1884 (gd rfl) rfl ?_
  exact gg_w (by omega) (gg_f (gf_cons rfl (gf_cons rfl (gf_cons rfl (gf_cons rfl (gf_cons rfl gf_nil))))) (next A2 t2 _ _ a0 a1 a3 hI2 hK2 hR2 (by omega) (by omega)))

theorem wz_17 {Z : AmZ} {A : Nat → Nat} {s : GS} {x1 : Int32} {x2 : Int32} (hI : Inv s) (q : KL s) (hq0 : TQ s) (hq1 : TQD s) (hq2 : NDC s) (hq3 : SHBC s) : WC Z 1300 17 [.ref (A 0), .int x1, .int x2, .ref (A 195)] (WW Z A s ++ []) 3 18 (fun v u => ∃ (c : Int32) (t : GS) (z : Int32), v = some (.int c) ∧ u = WW Z A t ++ [] ∧ Inv t ∧ Fr (fm_232_0.1, 195 :: fm_232_0.2.1, fm_232_0.2.2) s t ∧ KL t ∧ QRS c (TWO (shC s).2.2.2.2.2.2.1 x1 x2) (SHV (shC s) x1.toNatClampNeg x2.toNatClampNeg z.toInt) ∧ (c.toInt = 0 → t.2.1 195 0 = z.toInt64) ∧ ((c.toInt = 1 ∧ Fr ([], [195], [], []) s t) ∨ (c.toInt = 0 ∧ SHG (shC s) t))) := by
  intro post hP xp
  refine w_enter (k := 17) (d := 1299) (N := 60) rfl (Nat.le_of_ble_eq_true rfl) ?_
  refine g_aload_n 1 (gd rfl) rfl rfl ?_
  refine g_iconst 0 2 (gd rfl) rfl rfl ?_
  refine g_aload_n 3 (gd rfl) rfl rfl ?_
  refine g_iload_n 4 (gd rfl) rfl rfl ?_
  refine g_iload_n 5 (gd rfl) rfl rfl ?_
  refine g_callvH (As := [.int x1, .int x2]) (r := [.int (Int32.ofInt 0), .ref (A 195)]) (b := A 0) (q := 0) 8 (gd rfl) rfl rfl rfl rfl rfl rfl (ww_o rfl) (Nat.le_of_ble_eq_true rfl) (Nat.le_refl _) (Nat.le_refl _) (f_232_0 (by omega) hI  hq0 hq1 hq2 hq3) (fun e u h => ?_) (fun v u h => ?_)
  · obtain ⟨he, t, hI2, hF2, rfl⟩ := h
    rcases he with ⟨rfl, hn⟩ | ⟨rfl, hn⟩
    · refine ⟨0, 13, by decide, rfl, rfl, fun a => ?_⟩
      refine g_astore 15 (gd rfl) rfl (Nat.le_of_ble_eq_true rfl) ?_
      refine g_iconst 1 16 (gd rfl) rfl rfl ?_
      exact g_ireturn (gd rfl) rfl rfl (hP _ _ ⟨_, t, Int32.ofInt 0, rfl, rfl, hI2, fr_195' (fr_up hF2), kl_fr q hF2 rfl, Or.inl ⟨rfl, hn⟩, fun z => absurd z (by decide), Or.inl ⟨rfl, fr_up hF2⟩⟩)
    · exact hn.elim
  · obtain ⟨t, hI2, hF2, z, rfl, rfl, iz, hv, hcp⟩ := h
    show GG _ _ _ _ _ _ _ _ [.int z, .int (Int32.ofInt 0), .ref (A 195)] _ _ _
    refine g_i2l 9 (gd rfl) rfl (fun z8 e8 => ?_)
    refine g_ouS (A := A) 10 (gd rfl) rfl ?_
    refine g_goto 17 (gd rfl) rfl ?_
    refine g_iconst 0 18 (gd rfl) rfl rfl ?_
    refine g_ireturn (gd rfl) rfl rfl (hP _ _ ⟨_, sL t 195 0 z8, z, rfl, rfl, inv_195 hI2, fr_195 hF2, kl_195 (kl_fr q hF2 rfl), Or.inr ⟨rfl, hv⟩, fun _ => ?_, Or.inr ⟨rfl, (by exact hcp)⟩⟩)
    show (if 195 = 195 then vp_updL (t.2.1 195) 0 z8 else t.2.1 195) 0 = z.toInt64
    rw [if_pos rfl, ← e8]
    exact if_pos rfl

theorem lc_912 {Z : AmZ} {b L : Nat} {xs : Nat → Int32} {A : Nat → Nat} {s : GS} {i : Int32} {C S N : Nat} {ret : AmR} (hL : L ≤ 384) (h0 : 0 ≤ i.toInt) (h6 : i.toInt + 6 ≤ (L : Int)) (hC : 4000 ≤ C) (hS : 90000 ≤ S) (hI : Inv s) (hK : KL s) (hR : REL3 s)
    (next : ∀ (A2 : Nat → Nat) (t : GS) (C2 S2 : Nat), A2 0 = A 0 → A2 109 = A 109 → A2 195 = A 195 → Inv t → KL t → REL3 t → C - 4000 ≤ C2 → S - 90000 ≤ S2 → GG Z 1300 0 ret (gl Z b L xs) N 1884 (fun j => xlook j [(0, .ref b), (1, .ref (A 0)), (2, .ref (A 109)), (3, .ref (A 195)), (4, .int i)]) [] (WW Z A2 t ++ []) C2 S2) :
    GG Z 1300 0 ret (gl Z b L xs) (N + 100) 912 (fun j => xlook j [(0, .ref b), (1, .ref (A 0)), (2, .ref (A 109)), (3, .ref (A 195)), (4, .int i)]) [] (WW Z A s ++ []) C S := by
  obtain ⟨H0, hH0⟩ := hR.2
  refine g_aload_n 913 (gd rfl) rfl rfl ?_
  refine g_aload_n 914 (gd rfl) rfl rfl ?_
  refine g_iload 916 (gd rfl) rfl rfl ?_
  refine g_iconst 1 917 (gd rfl) rfl rfl ?_
  refine g_iadd 918 (gd rfl) rfl (fun z917 e917 => ?_)
  refine g_sldL' 919 (gd rfl) rfl (sx_in e917 h0 h6 hL rfl) (fun z918 s918 => ?_)
  refine g_aload_n 920 (gd rfl) rfl rfl ?_
  refine g_iload 922 (gd rfl) rfl rfl ?_
  refine g_iconst 2 923 (gd rfl) rfl rfl ?_
  refine g_iadd 924 (gd rfl) rfl (fun z923 e923 => ?_)
  refine g_sldL' 925 (gd rfl) rfl (sx_in e923 h0 h6 hL rfl) (fun z924 s924 => ?_)
  refine g_aload_n 926 (gd rfl) rfl rfl ?_
  refine g_callW (As := [.ref (A 0), .int z918, .int z924, .ref (A 195)]) (r := []) 929 (gd rfl) rfl rfl rfl rfl rfl (Nat.le_of_ble_eq_true rfl) (mc := 3) (ms := 18) (by omega) (by omega) (wz_17 hI hK hR.1.2.2.2 hH0.2.2.2.2.1 (ndc_of hI hR) (ext_pre hI hH0)) (fun v u h => ?_)
  obtain ⟨c1, t1, z1, rfl, rfl, hI1, hF1, hK1, hc1, ho1, hcp⟩ := h
  have hR1 : REL3 t1 := by
    rcases hcp with ⟨-, hx⟩ | ⟨-, hx⟩
    · exact rel3_fr hR hx rfl rfl
    · exact ⟨rel2_fr hR.1 hF1 rfl, H0, hsx_of (hsy_fr (hsy_of hH0) hF1 rfl) (ext_put hI hH0 hF1 rfl hx)⟩
  show GG _ _ _ _ _ _ _ _ [.int c1] _ _ _
  refine g_istore 931 (gd rfl) rfl (Nat.le_of_ble_eq_true rfl) ?_
  refine g_aload_n 932 (gd rfl) rfl rfl ?_
  refine g_aload_n 933 (gd rfl) rfl rfl ?_
  refine g_iload 935 (gd rfl) rfl rfl ?_
  refine g_iconst 1 936 (gd rfl) rfl rfl ?_
  refine g_iadd 937 (gd rfl) rfl (fun z936 e936 => ?_)
  refine g_sldL' 938 (gd rfl) rfl (sx_in e936 h0 h6 hL rfl) (fun z937 s937 => ?_)
  refine g_aload_n 939 (gd rfl) rfl rfl ?_
  refine g_iload 941 (gd rfl) rfl rfl ?_
  refine g_iconst 2 942 (gd rfl) rfl rfl ?_
  refine g_iadd 943 (gd rfl) rfl (fun z942 e942 => ?_)
  refine g_sldL' 944 (gd rfl) rfl (sx_in e942 h0 h6 hL rfl) (fun z943 s943 => ?_)
  have hx937 : z937 = z918 := by rw [s937, s918, e936, e917]
  subst hx937
  have hx943 : z943 = z924 := by rw [s943, s924, e942, e923]
  subst hx943
  have kc2 := f_325 (Z := Z) (A := A) (s := t1) (ex := []) (d := 1300) (X := g_no) (x1 := z937) (x2 := z943) (by omega) hI1 
  refine g_callvL (As := [.int z937, .int z943]) (r := []) (b := A 109) (q := 109) 947 (gd rfl) rfl rfl rfl rfl rfl (ww_o rfl) (Nat.le_of_ble_eq_true rfl) (mc := 0) (ms := 0) (by omega) (by omega) kc2 (fun e u h => h) (fun v u h => ?_)
  obtain ⟨t2, hI2, hF2, z2, rfl, rfl, iz2, hc2⟩ := h
  show GG _ _ _ _ _ _ _ _ [.int z2] _ _ _
  have hm : True ∧ (t2.2.2.1 109 0).toInt = c1.toInt ∧ (c1.toInt = 0 → z1 = z2) := ⟨trivial, m_shorts hI1 hR1 (by rw [shC_fb hF1 rfl]; exact hc1) hc2⟩
  have hR2 : REL3 t2 := rel3_fr hR1 hF2 rfl rfl
  have hK2 : KL t2 := kl_fr hK1 hF2 rfl
  refine g_istore 949 (gd rfl) rfl (Nat.le_of_ble_eq_true rfl) ?_
  refine g_aload_n 950 (gd rfl) rfl rfl ?_
  have kcT := y_268 (Z := Z) (A := A) (s := t2) (ex := []) (d := 1300) (X := g_no) (by omega) hI2
  refine g_callvL (As := []) (r := []) (b := A 109) (q := 109) 953 (gd rfl) rfl rfl rfl rfl rfl (ww_o rfl) (Nat.le_of_ble_eq_true rfl) (mc := 0) (ms := 0) (by omega) (by omega) kcT (fun e u h => h) (fun v u h => ?_)
  obtain ⟨c2, rfl, rfl, hc2⟩ := h
  show GG _ _ _ _ _ _ _ _ [.int c2] _ _ _
  refine g_iload 955 (gd rfl) rfl rfl ?_
  refine g_cmp_eq 958 960 (gd rfl) rfl rfl (fun cc => ?_) (fun cc => absurd (show c2.toInt = c1.toInt from (by rw [hc2]; exact hm.2.1)) cc)
  refine g_iload 962 (gd rfl) rfl rfl ?_
  refine g_if_ne 965 977 (gd rfl) rfl rfl (fun c695 => ?_) (fun c695 => ?_)
  · refine g_goto 1884 (gd rfl) rfl ?_
    exact gg_w (by omega) (gg_f (gf_cons rfl (gf_cons rfl (gf_cons rfl (gf_cons rfl (gf_cons rfl gf_nil))))) (next A t2 _ _ rfl rfl rfl hI2 hK2 hR2 (by omega) (by omega)))
  refine g_aload_n 966 (gd rfl) rfl rfl ?_
  refine g_iconst 0 967 (gd rfl) rfl rfl ?_
  refine g_ouL (A := A) 968 (gd rfl) rfl ?_
  refine g_iload 970 (gd rfl) rfl rfl ?_
  refine g_i2l 971 (gd rfl) rfl (fun zL eL => ?_)
  refine g_lcmp 972 (gd rfl) rfl (fun zM eM => ?_)
  have hz : zM.toInt = 0 := by
    rw [eM, hF2.2.1 195 rfl, ho1 c695, hm.2.2 c695, eL]
    exact lg_cmp_self
  refine g_if_eq 975 977 (gd rfl) rfl rfl (fun cE => ?_) (fun cE => absurd hz cE)
  refine g_goto 1884 (gd rfl) rfl ?_
  exact gg_w (by omega) (gg_f (gf_cons rfl (gf_cons rfl (gf_cons rfl (gf_cons rfl (gf_cons rfl gf_nil))))) (next A t2 _ _ rfl rfl rfl hI2 hK2 hR2 (by omega) (by omega)))

theorem lc_244 {Z : AmZ} {b L : Nat} {xs : Nat → Int32} {A : Nat → Nat} {s : GS} {i : Int32} {C S N : Nat} {ret : AmR} (hL : L ≤ 384) (h0 : 0 ≤ i.toInt) (h6 : i.toInt + 6 ≤ (L : Int)) (hC : 4000 ≤ C) (hS : 90000 ≤ S) (hI : Inv s) (hK : KL s) (hR : REL3 s)
    (next : ∀ (A2 : Nat → Nat) (t : GS) (C2 S2 : Nat), A2 0 = A 0 → A2 109 = A 109 → A2 195 = A 195 → Inv t → KL t → REL3 t → C - 4000 ≤ C2 → S - 90000 ≤ S2 → GG Z 1300 0 ret (gl Z b L xs) N 1884 (fun j => xlook j [(0, .ref b), (1, .ref (A 0)), (2, .ref (A 109)), (3, .ref (A 195)), (4, .int i)]) [] (WW Z A2 t ++ []) C2 S2) :
    GG Z 1300 0 ret (gl Z b L xs) (N + 100) 244 (fun j => xlook j [(0, .ref b), (1, .ref (A 0)), (2, .ref (A 109)), (3, .ref (A 195)), (4, .int i)]) [] (WW Z A s ++ []) C S := by
  refine g_aload_n 245 (gd rfl) rfl rfl ?_
  refine g_aload_n 246 (gd rfl) rfl rfl ?_
  refine g_iload 248 (gd rfl) rfl rfl ?_
  refine g_iconst 1 249 (gd rfl) rfl rfl ?_
  refine g_iadd 250 (gd rfl) rfl (fun z249 e249 => ?_)
  refine g_sldL' 251 (gd rfl) rfl (sx_in e249 h0 h6 hL rfl) (fun z250 s250 => ?_)
  refine g_aload_n 252 (gd rfl) rfl rfl ?_
  refine g_callW (As := [.ref (A 0), .int z250, .ref (A 195)]) (r := []) 255 (gd rfl) rfl rfl rfl rfl rfl (Nat.le_of_ble_eq_true rfl) (mc := 4) (ms := 28018) (by omega) (by omega) (wq_1 hI hK hR.1.2.2.2) (fun v u h => ?_)
  obtain ⟨c1, A2, t1, z1, rfl, rfl, a0, a1, a3, hI1, hF1, hK1, hT1, hc1, ho1, hpf1, hlg1⟩ := h
  show GG _ _ _ _ _ _ _ _ [.int c1] _ _ _
  refine g_istore 257 (gd rfl) rfl (Nat.le_of_ble_eq_true rfl) ?_
  refine g_aload_n 258 (gd rfl) rfl rfl ?_
  refine g_aload_n 259 (gd rfl) rfl rfl ?_
  refine g_iload 261 (gd rfl) rfl rfl ?_
  refine g_iconst 1 262 (gd rfl) rfl rfl ?_
  refine g_iadd 263 (gd rfl) rfl (fun z262 e262 => ?_)
  refine g_sldL' 264 (gd rfl) rfl (sx_in e262 h0 h6 hL rfl) (fun z263 s263 => ?_)
  have hx263 : z263 = z250 := by rw [s263, s250, e262, e249]
  subst hx263
  have kc2 := f_281 (Z := Z) (A := A2) (s := t1) (ex := []) (d := 1300) (X := g_no) (x1 := z263) (by omega) hI1 rfl rfl
  rw [a1] at kc2
  refine g_callvL (As := [.int z263]) (r := []) (b := A 109) (q := 109) 267 (gd rfl) rfl rfl rfl rfl rfl (by rw [← a1]; exact ww_o rfl) (Nat.le_of_ble_eq_true rfl) (mc := 0) (ms := 0) (by omega) (by omega) kc2 (fun e u h => h) (fun v u h => ?_)
  obtain ⟨t2, hI2, hF2, z2, rfl, rfl, iz2, hc2, hx2, hs2, h12⟩ := h
  show GG _ _ _ _ _ _ _ _ [.int z2] _ _ _
  have hg1 : GEQ (gvC s) (gvR t1) := by rw [gvR_cg hF1 rfl]; exact hR.1.2.2.1
  have hm := m_node hg1 (gvC_cg hF2 rfl) hc1 hc2
  have hRR : REL2 t2 := rel2_2 hR.1 hF1 rfl hF2 rfl hT1 hm.1
  obtain ⟨H0, hH0⟩ := hR.2
  have hR2 : REL3 t2 := ⟨hRR, hsx_x hI hI1 hR.1 hH0 hF1 rfl hpf1 hlg1 hF2 rfl hx2 hs2 h12 hRR.2.2.1 (by rcases hc2 with ⟨-, -, h⟩ | ⟨-, -, -, h⟩ | ⟨-, -, -, h⟩; (exact Or.inl h); (exact Or.inl h); (exact Or.inr h.2))⟩
  have hK2 : KL t2 := kl_fr hK1 hF2 rfl
  refine g_istore 269 (gd rfl) rfl (Nat.le_of_ble_eq_true rfl) ?_
  refine g_goto 1884 (gd rfl) rfl ?_
  exact gg_w (by omega) (gg_f (gf_cons rfl (gf_cons rfl (gf_cons rfl (gf_cons rfl (gf_cons rfl gf_nil))))) (next A2 t2 _ _ a0 a1 a3 hI2 hK2 hR2 (by omega) (by omega)))

theorem lc_272 {Z : AmZ} {b L : Nat} {xs : Nat → Int32} {A : Nat → Nat} {s : GS} {i : Int32} {C S N : Nat} {ret : AmR} (hL : L ≤ 384) (h0 : 0 ≤ i.toInt) (h6 : i.toInt + 6 ≤ (L : Int)) (hC : 4000 ≤ C) (hS : 90000 ≤ S) (hI : Inv s) (hK : KL s) (hR : REL3 s)
    (next : ∀ (A2 : Nat → Nat) (t : GS) (C2 S2 : Nat), A2 0 = A 0 → A2 109 = A 109 → A2 195 = A 195 → Inv t → KL t → REL3 t → C - 4000 ≤ C2 → S - 90000 ≤ S2 → GG Z 1300 0 ret (gl Z b L xs) N 1884 (fun j => xlook j [(0, .ref b), (1, .ref (A 0)), (2, .ref (A 109)), (3, .ref (A 195)), (4, .int i)]) [] (WW Z A2 t ++ []) C2 S2) :
    GG Z 1300 0 ret (gl Z b L xs) (N + 100) 272 (fun j => xlook j [(0, .ref b), (1, .ref (A 0)), (2, .ref (A 109)), (3, .ref (A 195)), (4, .int i)]) [] (WW Z A s ++ []) C S := by
  refine g_aload_n 273 (gd rfl) rfl rfl ?_
  refine g_aload_n 274 (gd rfl) rfl rfl ?_
  refine g_iload 276 (gd rfl) rfl rfl ?_
  refine g_iconst 1 277 (gd rfl) rfl rfl ?_
  refine g_iadd 278 (gd rfl) rfl (fun z277 e277 => ?_)
  refine g_sldL' 279 (gd rfl) rfl (sx_in e277 h0 h6 hL rfl) (fun z278 s278 => ?_)
  refine g_aload_n 280 (gd rfl) rfl rfl ?_
  refine g_iload 282 (gd rfl) rfl rfl ?_
  refine g_iconst 2 283 (gd rfl) rfl rfl ?_
  refine g_iadd 284 (gd rfl) rfl (fun z283 e283 => ?_)
  refine g_sldL' 285 (gd rfl) rfl (sx_in e283 h0 h6 hL rfl) (fun z284 s284 => ?_)
  refine g_aload_n 286 (gd rfl) rfl rfl ?_
  refine g_iload 288 (gd rfl) rfl rfl ?_
  refine g_iconst 3 289 (gd rfl) rfl rfl ?_
  refine g_iadd 290 (gd rfl) rfl (fun z289 e289 => ?_)
  refine g_sldL' 291 (gd rfl) rfl (sx_in e289 h0 h6 hL rfl) (fun z290 s290 => ?_)
  refine g_aload_n 292 (gd rfl) rfl rfl ?_
  refine g_iload 294 (gd rfl) rfl rfl ?_
  refine g_iconst 4 295 (gd rfl) rfl rfl ?_
  refine g_iadd 296 (gd rfl) rfl (fun z295 e295 => ?_)
  refine g_sldL' 297 (gd rfl) rfl (sx_in e295 h0 h6 hL rfl) (fun z296 s296 => ?_)
  refine g_aload_n 298 (gd rfl) rfl rfl ?_
  refine g_iload 300 (gd rfl) rfl rfl ?_
  refine g_iconst 5 301 (gd rfl) rfl rfl ?_
  refine g_iadd 302 (gd rfl) rfl (fun z301 e301 => ?_)
  refine g_sldL' 303 (gd rfl) rfl (sx_in e301 h0 h6 hL rfl) (fun z302 s302 => ?_)
  refine g_aload_n 304 (gd rfl) rfl rfl ?_
  refine g_callW (As := [.ref (A 0), .int z278, .int z284, .int z290, .int z296, .int z302, .ref (A 195)]) (r := []) 307 (gd rfl) rfl rfl rfl rfl rfl (Nat.le_of_ble_eq_true rfl) (mc := 4) (ms := 28018) (by omega) (by omega) (wq_2 hI hK hR.1.2.2.2) (fun v u h => ?_)
  obtain ⟨c1, A2, t1, z1, rfl, rfl, a0, a1, a3, hI1, hF1, hK1, hT1, hc1, ho1, hpf1, hlg1⟩ := h
  show GG _ _ _ _ _ _ _ _ [.int c1] _ _ _
  refine g_istore 309 (gd rfl) rfl (Nat.le_of_ble_eq_true rfl) ?_
  refine g_aload_n 310 (gd rfl) rfl rfl ?_
  refine g_aload_n 311 (gd rfl) rfl rfl ?_
  refine g_iload 313 (gd rfl) rfl rfl ?_
  refine g_iconst 1 314 (gd rfl) rfl rfl ?_
  refine g_iadd 315 (gd rfl) rfl (fun z314 e314 => ?_)
  refine g_sldL' 316 (gd rfl) rfl (sx_in e314 h0 h6 hL rfl) (fun z315 s315 => ?_)
  refine g_aload_n 317 (gd rfl) rfl rfl ?_
  refine g_iload 319 (gd rfl) rfl rfl ?_
  refine g_iconst 2 320 (gd rfl) rfl rfl ?_
  refine g_iadd 321 (gd rfl) rfl (fun z320 e320 => ?_)
  refine g_sldL' 322 (gd rfl) rfl (sx_in e320 h0 h6 hL rfl) (fun z321 s321 => ?_)
  refine g_aload_n 323 (gd rfl) rfl rfl ?_
  refine g_iload 325 (gd rfl) rfl rfl ?_
  refine g_iconst 3 326 (gd rfl) rfl rfl ?_
  refine g_iadd 327 (gd rfl) rfl (fun z326 e326 => ?_)
  refine g_sldL' 328 (gd rfl) rfl (sx_in e326 h0 h6 hL rfl) (fun z327 s327 => ?_)
  refine g_aload_n 329 (gd rfl) rfl rfl ?_
  refine g_iload 331 (gd rfl) rfl rfl ?_
  refine g_iconst 4 332 (gd rfl) rfl rfl ?_
  refine g_iadd 333 (gd rfl) rfl (fun z332 e332 => ?_)
  refine g_sldL' 334 (gd rfl) rfl (sx_in e332 h0 h6 hL rfl) (fun z333 s333 => ?_)
  refine g_aload_n 335 (gd rfl) rfl rfl ?_
  refine g_iload 337 (gd rfl) rfl rfl ?_
  refine g_iconst 5 338 (gd rfl) rfl rfl ?_
  refine g_iadd 339 (gd rfl) rfl (fun z338 e338 => ?_)
  refine g_sldL' 340 (gd rfl) rfl (sx_in e338 h0 h6 hL rfl) (fun z339 s339 => ?_)
  have hx315 : z315 = z278 := by rw [s315, s278, e314, e277]
  subst hx315
  have hx321 : z321 = z284 := by rw [s321, s284, e320, e283]
  subst hx321
  have hx327 : z327 = z290 := by rw [s327, s290, e326, e289]
  subst hx327
  have hx333 : z333 = z296 := by rw [s333, s296, e332, e295]
  subst hx333
  have hx339 : z339 = z302 := by rw [s339, s302, e338, e301]
  subst hx339
  have kc2 := f_282 (Z := Z) (A := A2) (s := t1) (ex := []) (d := 1300) (X := g_no) (x1 := z315) (x2 := z321) (x3 := z327) (x4 := z333) (x5 := z339) (by omega) hI1 rfl rfl
  rw [a1] at kc2
  refine g_callvL (As := [.int z315, .int z321, .int z327, .int z333, .int z339]) (r := []) (b := A 109) (q := 109) 343 (gd rfl) rfl rfl rfl rfl rfl (by rw [← a1]; exact ww_o rfl) (Nat.le_of_ble_eq_true rfl) (mc := 0) (ms := 0) (by omega) (by omega) kc2 (fun e u h => h) (fun v u h => ?_)
  obtain ⟨t2, hI2, hF2, z2, rfl, rfl, iz2, hc2, hx2, hs2, h12⟩ := h
  show GG _ _ _ _ _ _ _ _ [.int z2] _ _ _
  have hg1 : GEQ (gvC s) (gvR t1) := by rw [gvR_cg hF1 rfl]; exact hR.1.2.2.1
  have hm := m_arc hI1 hg1 (gvC_cg hF2 rfl) hc1 iz2 hc2
  have hRR : REL2 t2 := rel2_2 hR.1 hF1 rfl hF2 rfl hT1 hm.1
  obtain ⟨H0, hH0⟩ := hR.2
  have hR2 : REL3 t2 := ⟨hRR, hsx_x hI hI1 hR.1 hH0 hF1 rfl hpf1 hlg1 hF2 rfl hx2 hs2 h12 hRR.2.2.1 (by rcases hc2 with ⟨-, -, h⟩ | ⟨-, -, -, h⟩ | ⟨-, -, -, h⟩; (exact Or.inl h); (exact Or.inl h); (rcases h with ⟨-, -, h⟩ | ⟨-, -, h, -⟩; (exact Or.inl h); (exact Or.inr h)))⟩
  have hK2 : KL t2 := kl_fr hK1 hF2 rfl
  refine g_istore 345 (gd rfl) rfl (Nat.le_of_ble_eq_true rfl) ?_
  refine g_goto 1884 (gd rfl) rfl ?_
  exact gg_w (by omega) (gg_f (gf_cons rfl (gf_cons rfl (gf_cons rfl (gf_cons rfl (gf_cons rfl gf_nil))))) (next A2 t2 _ _ a0 a1 a3 hI2 hK2 hR2 (by omega) (by omega)))

theorem lc_348 {Z : AmZ} {b L : Nat} {xs : Nat → Int32} {A : Nat → Nat} {s : GS} {i : Int32} {C S N : Nat} {ret : AmR} (hL : L ≤ 384) (h0 : 0 ≤ i.toInt) (h6 : i.toInt + 6 ≤ (L : Int)) (hC : 4000 ≤ C) (hS : 90000 ≤ S) (hI : Inv s) (hK : KL s) (hR : REL3 s)
    (next : ∀ (A2 : Nat → Nat) (t : GS) (C2 S2 : Nat), A2 0 = A 0 → A2 109 = A 109 → A2 195 = A 195 → Inv t → KL t → REL3 t → C - 4000 ≤ C2 → S - 90000 ≤ S2 → GG Z 1300 0 ret (gl Z b L xs) N 1884 (fun j => xlook j [(0, .ref b), (1, .ref (A 0)), (2, .ref (A 109)), (3, .ref (A 195)), (4, .int i)]) [] (WW Z A2 t ++ []) C2 S2) :
    GG Z 1300 0 ret (gl Z b L xs) (N + 100) 348 (fun j => xlook j [(0, .ref b), (1, .ref (A 0)), (2, .ref (A 109)), (3, .ref (A 195)), (4, .int i)]) [] (WW Z A s ++ []) C S := by
  refine g_aload_n 349 (gd rfl) rfl rfl ?_
  refine g_aload_n 350 (gd rfl) rfl rfl ?_
  refine g_iload 352 (gd rfl) rfl rfl ?_
  refine g_iconst 1 353 (gd rfl) rfl rfl ?_
  refine g_iadd 354 (gd rfl) rfl (fun z353 e353 => ?_)
  refine g_sldL' 355 (gd rfl) rfl (sx_in e353 h0 h6 hL rfl) (fun z354 s354 => ?_)
  refine g_aload_n 356 (gd rfl) rfl rfl ?_
  refine g_callW (As := [.ref (A 0), .int z354, .ref (A 195)]) (r := []) 359 (gd rfl) rfl rfl rfl rfl rfl (Nat.le_of_ble_eq_true rfl) (mc := 4) (ms := 28018) (by omega) (by omega) (wq_3 hI hK hR.1.2.2.2) (fun v u h => ?_)
  obtain ⟨c1, A2, t1, z1, rfl, rfl, a0, a1, a3, hI1, hF1, hK1, hT1, hc1, ho1, hpf1, hlg1⟩ := h
  show GG _ _ _ _ _ _ _ _ [.int c1] _ _ _
  refine g_istore 361 (gd rfl) rfl (Nat.le_of_ble_eq_true rfl) ?_
  refine g_aload_n 362 (gd rfl) rfl rfl ?_
  refine g_aload_n 363 (gd rfl) rfl rfl ?_
  refine g_iload 365 (gd rfl) rfl rfl ?_
  refine g_iconst 1 366 (gd rfl) rfl rfl ?_
  refine g_iadd 367 (gd rfl) rfl (fun z366 e366 => ?_)
  refine g_sldL' 368 (gd rfl) rfl (sx_in e366 h0 h6 hL rfl) (fun z367 s367 => ?_)
  have hx367 : z367 = z354 := by rw [s367, s354, e366, e353]
  subst hx367
  have kc2 := f_283 (Z := Z) (A := A2) (s := t1) (ex := []) (d := 1300) (X := g_no) (x1 := z367) (by omega) hI1 rfl rfl
  rw [a1] at kc2
  refine g_callvL (As := [.int z367]) (r := []) (b := A 109) (q := 109) 371 (gd rfl) rfl rfl rfl rfl rfl (by rw [← a1]; exact ww_o rfl) (Nat.le_of_ble_eq_true rfl) (mc := 0) (ms := 0) (by omega) (by omega) kc2 (fun e u h => h) (fun v u h => ?_)
  obtain ⟨t2, hI2, hF2, z2, rfl, rfl, iz2, hc2, hx2, hs2, h12⟩ := h
  show GG _ _ _ _ _ _ _ _ [.int z2] _ _ _
  have hg1 : GEQ (gvC s) (gvR t1) := by rw [gvR_cg hF1 rfl]; exact hR.1.2.2.1
  have hm := m_take hI1 hg1 (gvC_cg hF2 rfl) hc1 hc2
  have hRR : REL2 t2 := rel2_2 hR.1 hF1 rfl hF2 rfl hT1 hm.1
  obtain ⟨H0, hH0⟩ := hR.2
  have hR2 : REL3 t2 := ⟨hRR, hsx_x hI hI1 hR.1 hH0 hF1 rfl hpf1 hlg1 hF2 rfl hx2 hs2 h12 hRR.2.2.1 (by rcases hc2 with ⟨-, -, h⟩ | ⟨-, -, -, h⟩ | ⟨-, -, -, h⟩; (exact Or.inl h); (exact Or.inl h); (exact Or.inr h.2))⟩
  have hK2 : KL t2 := kl_fr hK1 hF2 rfl
  refine g_istore 373 (gd rfl) rfl (Nat.le_of_ble_eq_true rfl) ?_
  refine g_goto 1884 (gd rfl) rfl ?_
  exact gg_w (by omega) (gg_f (gf_cons rfl (gf_cons rfl (gf_cons rfl (gf_cons rfl (gf_cons rfl gf_nil))))) (next A2 t2 _ _ a0 a1 a3 hI2 hK2 hR2 (by omega) (by omega)))

theorem lc_376 {Z : AmZ} {b L : Nat} {xs : Nat → Int32} {A : Nat → Nat} {s : GS} {i : Int32} {C S N : Nat} {ret : AmR} (hL : L ≤ 384) (h0 : 0 ≤ i.toInt) (h6 : i.toInt + 6 ≤ (L : Int)) (hC : 4000 ≤ C) (hS : 90000 ≤ S) (hI : Inv s) (hK : KL s) (hR : REL3 s)
    (next : ∀ (A2 : Nat → Nat) (t : GS) (C2 S2 : Nat), A2 0 = A 0 → A2 109 = A 109 → A2 195 = A 195 → Inv t → KL t → REL3 t → C - 4000 ≤ C2 → S - 90000 ≤ S2 → GG Z 1300 0 ret (gl Z b L xs) N 1884 (fun j => xlook j [(0, .ref b), (1, .ref (A 0)), (2, .ref (A 109)), (3, .ref (A 195)), (4, .int i)]) [] (WW Z A2 t ++ []) C2 S2) :
    GG Z 1300 0 ret (gl Z b L xs) (N + 100) 376 (fun j => xlook j [(0, .ref b), (1, .ref (A 0)), (2, .ref (A 109)), (3, .ref (A 195)), (4, .int i)]) [] (WW Z A s ++ []) C S := by
  refine g_aload_n 377 (gd rfl) rfl rfl ?_
  refine g_aload_n 378 (gd rfl) rfl rfl ?_
  refine g_iload 380 (gd rfl) rfl rfl ?_
  refine g_iconst 1 381 (gd rfl) rfl rfl ?_
  refine g_iadd 382 (gd rfl) rfl (fun z381 e381 => ?_)
  refine g_sldL' 383 (gd rfl) rfl (sx_in e381 h0 h6 hL rfl) (fun z382 s382 => ?_)
  refine g_aload_n 384 (gd rfl) rfl rfl ?_
  refine g_iload 386 (gd rfl) rfl rfl ?_
  refine g_iconst 2 387 (gd rfl) rfl rfl ?_
  refine g_iadd 388 (gd rfl) rfl (fun z387 e387 => ?_)
  refine g_sldL' 389 (gd rfl) rfl (sx_in e387 h0 h6 hL rfl) (fun z388 s388 => ?_)
  refine g_aload_n 390 (gd rfl) rfl rfl ?_
  refine g_iload 392 (gd rfl) rfl rfl ?_
  refine g_iconst 3 393 (gd rfl) rfl rfl ?_
  refine g_iadd 394 (gd rfl) rfl (fun z393 e393 => ?_)
  refine g_sldL' 395 (gd rfl) rfl (sx_in e393 h0 h6 hL rfl) (fun z394 s394 => ?_)
  refine g_aload_n 396 (gd rfl) rfl rfl ?_
  refine g_callW (As := [.ref (A 0), .int z382, .int z388, .int z394, .ref (A 195)]) (r := []) 399 (gd rfl) rfl rfl rfl rfl rfl (Nat.le_of_ble_eq_true rfl) (mc := 4) (ms := 28018) (by omega) (by omega) (wq_4 hI hK hR.1.2.2.2) (fun v u h => ?_)
  obtain ⟨c1, A2, t1, z1, rfl, rfl, a0, a1, a3, hI1, hF1, hK1, hT1, hc1, ho1, hpf1, hlg1⟩ := h
  show GG _ _ _ _ _ _ _ _ [.int c1] _ _ _
  refine g_istore 401 (gd rfl) rfl (Nat.le_of_ble_eq_true rfl) ?_
  refine g_aload_n 402 (gd rfl) rfl rfl ?_
  refine g_aload_n 403 (gd rfl) rfl rfl ?_
  refine g_iload 405 (gd rfl) rfl rfl ?_
  refine g_iconst 1 406 (gd rfl) rfl rfl ?_
  refine g_iadd 407 (gd rfl) rfl (fun z406 e406 => ?_)
  refine g_sldL' 408 (gd rfl) rfl (sx_in e406 h0 h6 hL rfl) (fun z407 s407 => ?_)
  refine g_aload_n 409 (gd rfl) rfl rfl ?_
  refine g_iload 411 (gd rfl) rfl rfl ?_
  refine g_iconst 2 412 (gd rfl) rfl rfl ?_
  refine g_iadd 413 (gd rfl) rfl (fun z412 e412 => ?_)
  refine g_sldL' 414 (gd rfl) rfl (sx_in e412 h0 h6 hL rfl) (fun z413 s413 => ?_)
  refine g_aload_n 415 (gd rfl) rfl rfl ?_
  refine g_iload 417 (gd rfl) rfl rfl ?_
  refine g_iconst 3 418 (gd rfl) rfl rfl ?_
  refine g_iadd 419 (gd rfl) rfl (fun z418 e418 => ?_)
  refine g_sldL' 420 (gd rfl) rfl (sx_in e418 h0 h6 hL rfl) (fun z419 s419 => ?_)
  have hx407 : z407 = z382 := by rw [s407, s382, e406, e381]
  subst hx407
  have hx413 : z413 = z388 := by rw [s413, s388, e412, e387]
  subst hx413
  have hx419 : z419 = z394 := by rw [s419, s394, e418, e393]
  subst hx419
  have kc2 := f_284 (Z := Z) (A := A2) (s := t1) (ex := []) (d := 1300) (X := g_no) (x1 := z407) (x2 := z413) (x3 := z419) (by omega) hI1 rfl rfl
  rw [a1] at kc2
  refine g_callvL (As := [.int z407, .int z413, .int z419]) (r := []) (b := A 109) (q := 109) 423 (gd rfl) rfl rfl rfl rfl rfl (by rw [← a1]; exact ww_o rfl) (Nat.le_of_ble_eq_true rfl) (mc := 0) (ms := 0) (by omega) (by omega) kc2 (fun e u h => h) (fun v u h => ?_)
  obtain ⟨t2, hI2, hF2, z2, rfl, rfl, iz2, hc2, hx2, hs2, h12⟩ := h
  show GG _ _ _ _ _ _ _ _ [.int z2] _ _ _
  have hg1 : GEQ (gvC s) (gvR t1) := by rw [gvR_cg hF1 rfl]; exact hR.1.2.2.1
  have hm := m_set hI1 hg1 (gvC_cg hF2 rfl) hc1 hc2
  have hRR : REL2 t2 := rel2_2 hR.1 hF1 rfl hF2 rfl hT1 hm.1
  obtain ⟨H0, hH0⟩ := hR.2
  have hR2 : REL3 t2 := ⟨hRR, hsx_x hI hI1 hR.1 hH0 hF1 rfl hpf1 hlg1 hF2 rfl hx2 hs2 h12 hRR.2.2.1 (by rcases hc2 with ⟨-, -, h⟩ | ⟨-, -, -, h⟩ | ⟨-, -, -, h⟩; (exact Or.inl h); (exact Or.inl h); (exact Or.inr h.2))⟩
  have hK2 : KL t2 := kl_fr hK1 hF2 rfl
  refine g_istore 425 (gd rfl) rfl (Nat.le_of_ble_eq_true rfl) ?_
  refine g_goto 1884 (gd rfl) rfl ?_
  exact gg_w (by omega) (gg_f (gf_cons rfl (gf_cons rfl (gf_cons rfl (gf_cons rfl (gf_cons rfl gf_nil))))) (next A2 t2 _ _ a0 a1 a3 hI2 hK2 hR2 (by omega) (by omega)))

theorem lc_428 {Z : AmZ} {b L : Nat} {xs : Nat → Int32} {A : Nat → Nat} {s : GS} {i : Int32} {C S N : Nat} {ret : AmR} (hL : L ≤ 384) (h0 : 0 ≤ i.toInt) (h6 : i.toInt + 6 ≤ (L : Int)) (hC : 4000 ≤ C) (hS : 90000 ≤ S) (hI : Inv s) (hK : KL s) (hR : REL3 s)
    (next : ∀ (A2 : Nat → Nat) (t : GS) (C2 S2 : Nat), A2 0 = A 0 → A2 109 = A 109 → A2 195 = A 195 → Inv t → KL t → REL3 t → C - 4000 ≤ C2 → S - 90000 ≤ S2 → GG Z 1300 0 ret (gl Z b L xs) N 1884 (fun j => xlook j [(0, .ref b), (1, .ref (A 0)), (2, .ref (A 109)), (3, .ref (A 195)), (4, .int i)]) [] (WW Z A2 t ++ []) C2 S2) :
    GG Z 1300 0 ret (gl Z b L xs) (N + 100) 428 (fun j => xlook j [(0, .ref b), (1, .ref (A 0)), (2, .ref (A 109)), (3, .ref (A 195)), (4, .int i)]) [] (WW Z A s ++ []) C S := by
  refine g_aload_n 429 (gd rfl) rfl rfl ?_
  refine g_aload_n 430 (gd rfl) rfl rfl ?_
  refine g_iload 432 (gd rfl) rfl rfl ?_
  refine g_iconst 1 433 (gd rfl) rfl rfl ?_
  refine g_iadd 434 (gd rfl) rfl (fun z433 e433 => ?_)
  refine g_sldL' 435 (gd rfl) rfl (sx_in e433 h0 h6 hL rfl) (fun z434 s434 => ?_)
  refine g_aload_n 436 (gd rfl) rfl rfl ?_
  refine g_iload 438 (gd rfl) rfl rfl ?_
  refine g_iconst 2 439 (gd rfl) rfl rfl ?_
  refine g_iadd 440 (gd rfl) rfl (fun z439 e439 => ?_)
  refine g_sldL' 441 (gd rfl) rfl (sx_in e439 h0 h6 hL rfl) (fun z440 s440 => ?_)
  refine g_aload_n 442 (gd rfl) rfl rfl ?_
  refine g_callW (As := [.ref (A 0), .int z434, .int z440, .ref (A 195)]) (r := []) 445 (gd rfl) rfl rfl rfl rfl rfl (Nat.le_of_ble_eq_true rfl) (mc := 4) (ms := 28018) (by omega) (by omega) (wq_5 hI hK hR.1.2.2.2) (fun v u h => ?_)
  obtain ⟨c1, A2, t1, z1, rfl, rfl, a0, a1, a3, hI1, hF1, hK1, hT1, hc1, ho1, hpf1, hlg1⟩ := h
  show GG _ _ _ _ _ _ _ _ [.int c1] _ _ _
  refine g_istore 447 (gd rfl) rfl (Nat.le_of_ble_eq_true rfl) ?_
  refine g_aload_n 448 (gd rfl) rfl rfl ?_
  refine g_aload_n 449 (gd rfl) rfl rfl ?_
  refine g_iload 451 (gd rfl) rfl rfl ?_
  refine g_iconst 1 452 (gd rfl) rfl rfl ?_
  refine g_iadd 453 (gd rfl) rfl (fun z452 e452 => ?_)
  refine g_sldL' 454 (gd rfl) rfl (sx_in e452 h0 h6 hL rfl) (fun z453 s453 => ?_)
  refine g_aload_n 455 (gd rfl) rfl rfl ?_
  refine g_iload 457 (gd rfl) rfl rfl ?_
  refine g_iconst 2 458 (gd rfl) rfl rfl ?_
  refine g_iadd 459 (gd rfl) rfl (fun z458 e458 => ?_)
  refine g_sldL' 460 (gd rfl) rfl (sx_in e458 h0 h6 hL rfl) (fun z459 s459 => ?_)
  have hx453 : z453 = z434 := by rw [s453, s434, e452, e433]
  subst hx453
  have hx459 : z459 = z440 := by rw [s459, s440, e458, e439]
  subst hx459
  have kc2 := f_285 (Z := Z) (A := A2) (s := t1) (ex := []) (d := 1300) (X := g_no) (x1 := z453) (x2 := z459) (by omega) hI1 rfl rfl
  rw [a1] at kc2
  refine g_callvL (As := [.int z453, .int z459]) (r := []) (b := A 109) (q := 109) 463 (gd rfl) rfl rfl rfl rfl rfl (by rw [← a1]; exact ww_o rfl) (Nat.le_of_ble_eq_true rfl) (mc := 0) (ms := 0) (by omega) (by omega) kc2 (fun e u h => h) (fun v u h => ?_)
  obtain ⟨t2, hI2, hF2, z2, rfl, rfl, iz2, hc2, hx2, hs2, h12⟩ := h
  show GG _ _ _ _ _ _ _ _ [.int z2] _ _ _
  have hg1 : GEQ (gvC s) (gvR t1) := by rw [gvR_cg hF1 rfl]; exact hR.1.2.2.1
  have hm := m_label hI hg1 (gvC_cg hF2 rfl) hc1 hc2
  have hRR : REL2 t2 := rel2_2 hR.1 hF1 rfl hF2 rfl hT1 hm.1
  obtain ⟨H0, hH0⟩ := hR.2
  have hR2 : REL3 t2 := ⟨hRR, hsx_x hI hI1 hR.1 hH0 hF1 rfl hpf1 hlg1 hF2 rfl hx2 hs2 h12 hRR.2.2.1 (by rcases hc2 with ⟨-, -, h⟩ | ⟨-, -, -, h⟩ | ⟨-, -, -, h⟩; (exact Or.inl h); (exact Or.inl h); (exact Or.inr h.2))⟩
  have hK2 : KL t2 := kl_fr hK1 hF2 rfl
  refine g_istore 465 (gd rfl) rfl (Nat.le_of_ble_eq_true rfl) ?_
  refine g_goto 1884 (gd rfl) rfl ?_
  exact gg_w (by omega) (gg_f (gf_cons rfl (gf_cons rfl (gf_cons rfl (gf_cons rfl (gf_cons rfl gf_nil))))) (next A2 t2 _ _ a0 a1 a3 hI2 hK2 hR2 (by omega) (by omega)))

theorem lc_468 {Z : AmZ} {b L : Nat} {xs : Nat → Int32} {A : Nat → Nat} {s : GS} {i : Int32} {C S N : Nat} {ret : AmR} (hL : L ≤ 384) (h0 : 0 ≤ i.toInt) (h6 : i.toInt + 6 ≤ (L : Int)) (hC : 4000 ≤ C) (hS : 90000 ≤ S) (hI : Inv s) (hK : KL s) (hR : REL3 s)
    (next : ∀ (A2 : Nat → Nat) (t : GS) (C2 S2 : Nat), A2 0 = A 0 → A2 109 = A 109 → A2 195 = A 195 → Inv t → KL t → REL3 t → C - 4000 ≤ C2 → S - 90000 ≤ S2 → GG Z 1300 0 ret (gl Z b L xs) N 1884 (fun j => xlook j [(0, .ref b), (1, .ref (A 0)), (2, .ref (A 109)), (3, .ref (A 195)), (4, .int i)]) [] (WW Z A2 t ++ []) C2 S2) :
    GG Z 1300 0 ret (gl Z b L xs) (N + 100) 468 (fun j => xlook j [(0, .ref b), (1, .ref (A 0)), (2, .ref (A 109)), (3, .ref (A 195)), (4, .int i)]) [] (WW Z A s ++ []) C S := by
  refine g_aload_n 469 (gd rfl) rfl rfl ?_
  refine g_aload_n 470 (gd rfl) rfl rfl ?_
  refine g_iload 472 (gd rfl) rfl rfl ?_
  refine g_iconst 1 473 (gd rfl) rfl rfl ?_
  refine g_iadd 474 (gd rfl) rfl (fun z473 e473 => ?_)
  refine g_sldL' 475 (gd rfl) rfl (sx_in e473 h0 h6 hL rfl) (fun z474 s474 => ?_)
  refine g_aload_n 476 (gd rfl) rfl rfl ?_
  refine g_callW (As := [.ref (A 0), .int z474, .ref (A 195)]) (r := []) 479 (gd rfl) rfl rfl rfl rfl rfl (Nat.le_of_ble_eq_true rfl) (mc := 3) (ms := 18) (by omega) (by omega) (wq_6 hI hK) (fun v u h => ?_)
  obtain ⟨c1, t1, z1, rfl, rfl, hI1, hF1, hK1, hv1, ho1, hw1⟩ := h
  have hR1 := rel2_fr hR.1 hF1 rfl
  show GG _ _ _ _ _ _ _ _ [.int c1] _ _ _
  refine g_istore 481 (gd rfl) rfl (Nat.le_of_ble_eq_true rfl) ?_
  refine g_aload_n 482 (gd rfl) rfl rfl ?_
  refine g_aload_n 483 (gd rfl) rfl rfl ?_
  refine g_iload 485 (gd rfl) rfl rfl ?_
  refine g_iconst 1 486 (gd rfl) rfl rfl ?_
  refine g_iadd 487 (gd rfl) rfl (fun z486 e486 => ?_)
  refine g_sldL' 488 (gd rfl) rfl (sx_in e486 h0 h6 hL rfl) (fun z487 s487 => ?_)
  have hx487 : z487 = z474 := by rw [s487, s474, e486, e473]
  subst hx487
  refine g_callvL (As := [.int z487]) (r := []) (b := A 109) (q := 109) 491 (gd rfl) rfl rfl rfl rfl rfl (ww_o rfl) (Nat.le_of_ble_eq_true rfl) (mc := 0) (ms := 0) (by omega) (by omega) (f_286 (X := g_no) (x1 := z487) (by omega) hI1) (fun e u h => h) (fun v u h => ?_)
  obtain ⟨t2, hI2, hF2, z2, rfl, rfl, iz2, hg2, hv2, hw2, hs2⟩ := h
  show GG _ _ _ _ _ _ _ _ [.int z2] _ _ _
  have hRR : REL2 t2 := rel2_R hR1 hF2 rfl hg2
  have hK2 : KL t2 := kl_fr hK1 hF2 rfl
  have hm : True ∧ (t2.2.2.1 109 0).toInt = c1.toInt ∧ (c1.toInt = 0 → z1 = z2) := ⟨trivial, m_view (t := t1) ((q_vr hR.1.2.2.1).trans (congrArg Int32.toInt (hF1.2.2.1 109 9 rfl)).symm) hv1 hv2⟩
  obtain ⟨H0, hH0⟩ := hR.2
  have hR2 : REL3 t2 := ⟨hRR, H0, hsx_v hR.1 hH0 hF1 rfl hw1 hF2 rfl hw2 hs2 hm.2.1⟩
  refine g_istore 493 (gd rfl) rfl (Nat.le_of_ble_eq_true rfl) ?_
  refine g_goto 1884 (gd rfl) rfl ?_
  exact gg_w (by omega) (gg_f (gf_cons rfl (gf_cons rfl (gf_cons rfl (gf_cons rfl (gf_cons rfl gf_nil))))) (next A t2 _ _ rfl rfl rfl hI2 hK2 hR2 (by omega) (by omega)))

theorem lc_496 {Z : AmZ} {b L : Nat} {xs : Nat → Int32} {A : Nat → Nat} {s : GS} {i : Int32} {C S N : Nat} {ret : AmR} (hL : L ≤ 384) (h0 : 0 ≤ i.toInt) (h6 : i.toInt + 6 ≤ (L : Int)) (hC : 4000 ≤ C) (hS : 90000 ≤ S) (hI : Inv s) (hK : KL s) (hR : REL3 s)
    (next : ∀ (A2 : Nat → Nat) (t : GS) (C2 S2 : Nat), A2 0 = A 0 → A2 109 = A 109 → A2 195 = A 195 → Inv t → KL t → REL3 t → C - 4000 ≤ C2 → S - 90000 ≤ S2 → GG Z 1300 0 ret (gl Z b L xs) N 1884 (fun j => xlook j [(0, .ref b), (1, .ref (A 0)), (2, .ref (A 109)), (3, .ref (A 195)), (4, .int i)]) [] (WW Z A2 t ++ []) C2 S2) :
    GG Z 1300 0 ret (gl Z b L xs) (N + 100) 496 (fun j => xlook j [(0, .ref b), (1, .ref (A 0)), (2, .ref (A 109)), (3, .ref (A 195)), (4, .int i)]) [] (WW Z A s ++ []) C S := by
  refine g_aload_n 497 (gd rfl) rfl rfl ?_
  refine g_callvL (As := []) (r := []) (b := A 0) (q := 0) 500 (gd rfl) rfl rfl rfl rfl rfl (ww_o rfl) (Nat.le_of_ble_eq_true rfl) (mc := 3) (ms := 18) (by omega) (by omega) (y_218 (X := g_no) (by omega) hI) (fun e u h => h) (fun v u h => ?_)
  obtain ⟨z1, rfl, rfl, hz1⟩ := h
  show GG _ _ _ _ _ _ _ _ [.int z1] _ _ _
  refine g_pop 501 (gd rfl) rfl rfl ?_
  refine g_aload_n 502 (gd rfl) rfl rfl ?_
  refine g_callvL (As := []) (r := []) (b := A 109) (q := 109) 505 (gd rfl) rfl rfl rfl rfl rfl (ww_o rfl) (Nat.le_of_ble_eq_true rfl) (mc := 0) (ms := 0) (by omega) (by omega) (y_287 (X := g_no) (by omega) hI) (fun e u h => h) (fun v u h => ?_)
  obtain ⟨t2, hI2, hF2, z2, rfl, rfl, hz2⟩ := h
  show GG _ _ _ _ _ _ _ _ [.int z2] _ _ _
  have hzz : z1.toInt = z2.toInt := by rw [hz1, hz2]; exact q_vr hR.1.2.2.1
  have hR2 : REL3 t2 := rel3_fr hR hF2 rfl rfl
  refine g_pop 506 (gd rfl) rfl rfl ?_
  refine g_goto 1884 (gd rfl) rfl ?_
  exact gg_w (by omega) (gg_f (gf_cons rfl (gf_cons rfl (gf_cons rfl (gf_cons rfl (gf_cons rfl gf_nil))))) (next A t2 _ _ rfl rfl rfl hI2 (kl_fr hK hF2 rfl) hR2 (by omega) (by omega)))

theorem lc_685 {Z : AmZ} {b L : Nat} {xs : Nat → Int32} {A : Nat → Nat} {s : GS} {i : Int32} {C S N : Nat} {ret : AmR} (hL : L ≤ 384) (h0 : 0 ≤ i.toInt) (h6 : i.toInt + 6 ≤ (L : Int)) (hC : 4000 ≤ C) (hS : 90000 ≤ S) (hI : Inv s) (hK : KL s) (hR : REL3 s)
    (next : ∀ (A2 : Nat → Nat) (t : GS) (C2 S2 : Nat), A2 0 = A 0 → A2 109 = A 109 → A2 195 = A 195 → Inv t → KL t → REL3 t → C - 4000 ≤ C2 → S - 90000 ≤ S2 → GG Z 1300 0 ret (gl Z b L xs) N 1884 (fun j => xlook j [(0, .ref b), (1, .ref (A 0)), (2, .ref (A 109)), (3, .ref (A 195)), (4, .int i)]) [] (WW Z A2 t ++ []) C2 S2) :
    GG Z 1300 0 ret (gl Z b L xs) (N + 100) 685 (fun j => xlook j [(0, .ref b), (1, .ref (A 0)), (2, .ref (A 109)), (3, .ref (A 195)), (4, .int i)]) [] (WW Z A s ++ []) C S := by
  refine g_aload_n 686 (gd rfl) rfl rfl ?_
  refine g_callvL (As := []) (r := []) (b := A 0) (q := 0) 689 (gd rfl) rfl rfl rfl rfl rfl (ww_o rfl) (Nat.le_of_ble_eq_true rfl) (mc := 3) (ms := 18) (by omega) (by omega) (y_224 (X := g_no) (by omega) hI) (fun e u h => h) (fun v u h => ?_)
  obtain ⟨t1, hI1, hF1, z1, rfl, rfl, hz1, hq1⟩ := h
  show GG _ _ _ _ _ _ _ _ [.int z1] _ _ _
  refine g_pop 690 (gd rfl) rfl rfl ?_
  refine g_aload_n 691 (gd rfl) rfl rfl ?_
  refine g_callvL (As := []) (r := []) (b := A 109) (q := 109) 694 (gd rfl) rfl rfl rfl rfl rfl (ww_o rfl) (Nat.le_of_ble_eq_true rfl) (mc := 0) (ms := 0) (by omega) (by omega) (y_294 (X := g_no) (by omega) hI1) (fun e u h => h) (fun v u h => ?_)
  obtain ⟨t2, hI2, hF2, z2, rfl, rfl, hz2, hq2⟩ := h
  show GG _ _ _ _ _ _ _ _ [.int z2] _ _ _
  obtain ⟨H0, hH0⟩ := hR.2
  have hR2 : REL3 t2 := ⟨m_wipe hR.1 hF1 hz1 hF2 hz2, H0, hsx_fr (hsx_fr hH0 hF1 rfl) hF2 rfl⟩
  refine g_pop 695 (gd rfl) rfl rfl ?_
  refine g_goto 1884 (gd rfl) rfl ?_
  exact gg_w (by omega) (gg_f (gf_cons rfl (gf_cons rfl (gf_cons rfl (gf_cons rfl (gf_cons rfl gf_nil))))) (next A t2 _ _ rfl rfl rfl hI2 (kl_fr (kl_fr hK hF1 rfl) hF2 rfl) hR2 (by omega) (by omega)))

theorem lc_698 {Z : AmZ} {b L : Nat} {xs : Nat → Int32} {A : Nat → Nat} {s : GS} {i : Int32} {C S N : Nat} {ret : AmR} (hL : L ≤ 384) (h0 : 0 ≤ i.toInt) (h6 : i.toInt + 6 ≤ (L : Int)) (hC : 4000 ≤ C) (hS : 90000 ≤ S) (hI : Inv s) (hK : KL s) (hR : REL3 s)
    (next : ∀ (A2 : Nat → Nat) (t : GS) (C2 S2 : Nat), A2 0 = A 0 → A2 109 = A 109 → A2 195 = A 195 → Inv t → KL t → REL3 t → C - 4000 ≤ C2 → S - 90000 ≤ S2 → GG Z 1300 0 ret (gl Z b L xs) N 1884 (fun j => xlook j [(0, .ref b), (1, .ref (A 0)), (2, .ref (A 109)), (3, .ref (A 195)), (4, .int i)]) [] (WW Z A2 t ++ []) C2 S2) :
    GG Z 1300 0 ret (gl Z b L xs) (N + 100) 698 (fun j => xlook j [(0, .ref b), (1, .ref (A 0)), (2, .ref (A 109)), (3, .ref (A 195)), (4, .int i)]) [] (WW Z A s ++ []) C S := by
  refine g_aload_n 699 (gd rfl) rfl rfl ?_
  refine g_callvL (As := []) (r := []) (b := A 0) (q := 0) 702 (gd rfl) rfl rfl rfl rfl rfl (ww_o rfl) (Nat.le_of_ble_eq_true rfl) (mc := 3943) (ms := 83130) (by omega) (by omega) (f_225_0 (X := g_no) (by omega) hI rfl rfl rfl hK hR.1.2.2.2) (fun e u h => h) (fun v u h => ?_)
  obtain ⟨a, t1, hI1, hF1, z1, rfl, rfl, iz1, hK1, hl1, hco1⟩ := h
  show GG _ _ _ _ _ _ _ _ [.int z1] _ _ _
  refine g_pop 703 (gd rfl) rfl rfl ?_
  have a0 : (ax A 30 a) 0 = A 0 := ax_ne (by decide)
  have a1 : (ax A 30 a) 109 = A 109 := ax_ne (by decide)
  have a3 : (ax A 30 a) 195 = A 195 := ax_ne (by decide)
  refine g_aload_n 704 (gd rfl) rfl rfl ?_
  have kc2 := f_302 (Z := Z) (A := (ax A 30 a)) (s := t1) (ex := []) (d := 1300) (X := g_no) (by omega) hI1 rfl
  rw [a1] at kc2
  refine g_callvL (As := []) (r := []) (b := A 109) (q := 109) 707 (gd rfl) rfl rfl rfl rfl rfl (by rw [← a1]; exact ww_o rfl) (Nat.le_of_ble_eq_true rfl) (mc := 0) (ms := 0) (by omega) (by omega) kc2 (fun e u h => h) (fun v u h => ?_)
  obtain ⟨t2, hI2, hF2, z2, rfl, rfl, iz2, hl2, hlo2, h12⟩ := h
  show GG _ _ _ _ _ _ _ _ [.int z2] _ _ _
  have hm := m_load hR.1 (gvR_cg hF1 rfl) (hF1.1 125 rfl) (hF1.2.2.1 109 22 rfl) hl1 hl2
  have hzz : z1.toInt = z2.toInt := by rw [hm.2]
  have hRR : REL2 t2 := rel2_2 hR.1 hF1 rfl hF2 rfl hl1.2.2 (by rw [gvC_cg hF2 rfl]; exact hm.1)
  obtain ⟨H0, hH0⟩ := hR.2
  have hR2 : REL3 t2 := ⟨hRR, hsx_l hI hI1 hR.1 hH0 hF1 rfl (lot_zz hl1.1) hco1 (fun q => lot_b (hl1.2.1 q) rfl) hF2 rfl (by rw [hm.2]; exact hlo2) h12 hRR.2.2.1 (hF1.1 125 rfl) (hF1.2.2.1 109 22 rfl)⟩
  refine g_pop 708 (gd rfl) rfl rfl ?_
  refine g_goto 1884 (gd rfl) rfl ?_
  exact gg_w (by omega) (gg_f (gf_cons rfl (gf_cons rfl (gf_cons rfl (gf_cons rfl (gf_cons rfl gf_nil))))) (next (ax A 30 a) t2 _ _ a0 a1 a3 hI2 (kl_fr hK1 hF2 rfl) hR2 (by omega) (by omega)))

theorem lc_657 {Z : AmZ} {b L : Nat} {xs : Nat → Int32} {A : Nat → Nat} {s : GS} {i : Int32} {C S N : Nat} {ret : AmR} (hL : L ≤ 384) (h0 : 0 ≤ i.toInt) (h6 : i.toInt + 6 ≤ (L : Int)) (hC : 4000 ≤ C) (hS : 90000 ≤ S) (hI : Inv s) (hK : KL s) (hR : REL3 s)
    (next : ∀ (A2 : Nat → Nat) (t : GS) (C2 S2 : Nat), A2 0 = A 0 → A2 109 = A 109 → A2 195 = A 195 → Inv t → KL t → REL3 t → C - 4000 ≤ C2 → S - 90000 ≤ S2 → GG Z 1300 0 ret (gl Z b L xs) N 1884 (fun j => xlook j [(0, .ref b), (1, .ref (A 0)), (2, .ref (A 109)), (3, .ref (A 195)), (4, .int i)]) [] (WW Z A2 t ++ []) C2 S2) :
    GG Z 1300 0 ret (gl Z b L xs) (N + 100) 657 (fun j => xlook j [(0, .ref b), (1, .ref (A 0)), (2, .ref (A 109)), (3, .ref (A 195)), (4, .int i)]) [] (WW Z A s ++ []) C S := by
  refine g_aload_n 658 (gd rfl) rfl rfl ?_
  refine g_aload_n 659 (gd rfl) rfl rfl ?_
  refine g_iload 661 (gd rfl) rfl rfl ?_
  refine g_iconst 1 662 (gd rfl) rfl rfl ?_
  refine g_iadd 663 (gd rfl) rfl (fun z662 e662 => ?_)
  refine g_sldL' 664 (gd rfl) rfl (sx_in e662 h0 h6 hL rfl) (fun z663 s663 => ?_)
  refine g_aload_n 665 (gd rfl) rfl rfl ?_
  refine g_callW (As := [.ref (A 0), .int z663, .ref (A 195)]) (r := []) 668 (gd rfl) rfl rfl rfl rfl rfl (Nat.le_of_ble_eq_true rfl) (mc := 3) (ms := 18) (by omega) (by omega) (wt_11 hI hK) (fun v u h => ?_)
  obtain ⟨c, t, rfl, rfl, hI1, hF1, hK1, hw⟩ := h
  show GG _ _ _ _ _ _ _ _ [.int c] _ _ _
  refine g_istore 670 (gd rfl) rfl (Nat.le_of_ble_eq_true rfl) ?_
  refine g_aload_n 671 (gd rfl) rfl rfl ?_
  refine g_aload_n 672 (gd rfl) rfl rfl ?_
  refine g_iload 674 (gd rfl) rfl rfl ?_
  refine g_iconst 1 675 (gd rfl) rfl rfl ?_
  refine g_iadd 676 (gd rfl) rfl (fun z675 e675 => ?_)
  refine g_sldL' 677 (gd rfl) rfl (sx_in e675 h0 h6 hL rfl) (fun z676 s676 => ?_)
  have hx676 : z676 = z663 := by rw [s676, s663, e675, e662]
  subst hx676
  refine g_callvL (As := [.int z676]) (r := []) (b := A 109) (q := 109) 680 (gd rfl) rfl rfl rfl rfl rfl (ww_o rfl) (Nat.le_of_ble_eq_true rfl) (mc := 0) (ms := 0) (by omega) (by omega) (y_293 (X := g_no) (by omega) hI1) (fun e u h => h) (fun v u h => ?_)
  obtain ⟨t2, hI2, hF2, z, rfl, rfl, hr⟩ := h
  show GG _ _ _ _ _ _ _ _ [.int z] _ _ _
  refine g_istore 682 (gd rfl) rfl (Nat.le_of_ble_eq_true rfl) ?_
  refine g_goto 1884 (gd rfl) rfl ?_
  exact gg_w (by omega) (gg_f (gf_cons rfl (gf_cons rfl (gf_cons rfl (gf_cons rfl (gf_cons rfl gf_nil))))) (next A t2 _ _ rfl rfl rfl hI2 (kl_fr hK1 hF2 rfl) ⟨m_type hR.1 hF1 hF2 hw hr, hR.2.imp (fun H0 hH0 => hsx_fr (hsx_fr hH0 hF1 rfl) hF2 rfl)⟩ (by omega) (by omega)))

/-- the law's loop: R rounds are enough -/
theorem lw_loop {Z : AmZ} {b L : Nat} {xs : Nat → Int32} (hL : L ≤ 384) : ∀ (R : Nat) (A : Nat → Nat) (s : GS) (i : Int32) (C S : Nat), Inv s → KL s → REL3 s → 0 ≤ i.toInt → i.toInt ≤ 400 → (L : Int) < i.toInt + 6 * (R : Int) + 6 → R * 4000 ≤ C → R * 90000 ≤ S →
    GG Z 1300 0 (fun v _ => v = some (.int 1)) (gl Z b L xs) (30 + R * 300) 23 (fun j => xlook j [(0, .ref b), (1, .ref (A 0)), (2, .ref (A 109)), (3, .ref (A 195)), (4, .int i)]) [] (WW Z A s ++ []) C S := by
  intro R
  induction R with
  | zero =>
    intro A s i C S hI hK hR h0 h4 hm hC hS
    refine gg_w (M := 0 + 20) (by omega) ?_
    refine g_iload 25 (gd rfl) rfl rfl ?_
    refine g_aload_n 26 (gd rfl) rfl rfl ?_
    refine g_slenL 27 (gd rfl) rfl ?_
    refine g_bipush 6 29 (gd rfl) rfl rfl ?_
    refine g_isub 30 (gd rfl) rfl (fun z29 e29 => ?_)
    have t29 := sx_len e29 hL
    refine g_cmp_gt 33 1890 (gd rfl) rfl rfl (fun c30 => ?_) (fun c30 => absurd hm (by omega))
    refine g_iconst 1 1891 (gd rfl) rfl rfl ?_
    exact g_ireturn (gd rfl) rfl rfl rfl
  | succ R ih =>
    intro A s i C S hI hK hR h0 h4 hm hC hS
    refine gg_w (M := 30 + R * 300 + 290) (by omega) ?_
    refine g_iload 25 (gd rfl) rfl rfl ?_
    refine g_aload_n 26 (gd rfl) rfl rfl ?_
    refine g_slenL 27 (gd rfl) rfl ?_
    refine g_bipush 6 29 (gd rfl) rfl rfl ?_
    refine g_isub 30 (gd rfl) rfl (fun z29 e29 => ?_)
    have t29 := sx_len e29 hL
    refine g_cmp_gt 33 1890 (gd rfl) rfl rfl (fun c30 => ?_) (fun c30 => ?_)
    · refine g_iconst 1 1891 (gd rfl) rfl rfl ?_
      exact g_ireturn (gd rfl) rfl rfl rfl
    · have h6 : i.toInt + 6 ≤ (L : Int) := by omega
      have hC1 : 4000 ≤ C := by omega
      have hS1 : 90000 ≤ S := by omega
      have next : ∀ (A2 : Nat → Nat) (t : GS) (C2 S2 : Nat), A2 0 = A 0 → A2 109 = A 109 → A2 195 = A 195 → Inv t → KL t → REL3 t → C - 4000 ≤ C2 → S - 90000 ≤ S2 → GG Z 1300 0 (fun v _ => v = some (.int 1)) (gl Z b L xs) (30 + R * 300 + 5) 1884 (fun j => xlook j [(0, .ref b), (1, .ref (A 0)), (2, .ref (A 109)), (3, .ref (A 195)), (4, .int i)]) [] (WW Z A2 t ++ []) C2 S2 := by
        intro A2 t C2 S2 a0 a1 a3 hI2 hK2 hR2 hC2 hS2
        refine g_iinc 1887 (gd rfl) rfl rfl (Nat.le_of_ble_eq_true rfl) (fun z1884 e1884 => ?_)
        refine g_goto 23 (gd rfl) rfl ?_
        have t1884 := t_add e1884 (⟨h0, h4⟩ : In i 0 400) (in_c 6 rfl) rfl
        have t6 : (Int32.ofInt 6).toInt = 6 := rfl
        have g := ih A2 t z1884 C2 S2 hI2 hK2 hR2 (by omega) (by omega) (by omega) (rm_le hC hC2) (rm_le hS hS2)
        rw [a0, a1, a3] at g
        exact gg_w (by omega) (gg_f (gf_cons rfl (gf_cons rfl (gf_cons rfl (gf_cons rfl (gf_cons rfl gf_nil))))) g)
      refine g_aload_n 34 (gd rfl) rfl rfl ?_
      refine g_iload 36 (gd rfl) rfl rfl ?_
      refine g_sldL 37 (gd rfl) rfl (vp_in_iff.mpr ⟨h0, by omega⟩) (fun z36 => ?_)
      refine g_bipush 63 39 (gd rfl) rfl rfl ?_
      refine g_iand 40 (gd rfl) rfl (fun z39 e39 => ?_)
      refine g_tsw [244, 272, 348, 376, 428, 468, 496, 509, 537, 577, 605, 657, 685, 698, 711, 739, 752, 780, 820, 872, 912, 980, 1044, 1084, 1112, 1140, 1168, 1196, 1224, 1252, 1292, 1344, 1396, 1424, 1452, 1480, 1493, 1533, 1597, 1625, 1638, 1666, 1679, 1719, 1732, 1828, 1856] 1884 (gd rfl) rfl rfl rfl ⟨fun _ => gg_w (by omega) (lc_244 hL h0 h6 hC1 hS1 hI hK hR next), fun _ => gg_w (by omega) (lc_272 hL h0 h6 hC1 hS1 hI hK hR next), fun _ => gg_w (by omega) (lc_348 hL h0 h6 hC1 hS1 hI hK hR next), fun _ => gg_w (by omega) (lc_376 hL h0 h6 hC1 hS1 hI hK hR next), fun _ => gg_w (by omega) (lc_428 hL h0 h6 hC1 hS1 hI hK hR next), fun _ => gg_w (by omega) (lc_468 hL h0 h6 hC1 hS1 hI hK hR next), fun _ => gg_w (by omega) (lc_496 hL h0 h6 hC1 hS1 hI hK hR next), fun _ => gg_w (by omega) (lc_509 hL h0 h6 hC1 hS1 hI hK hR next), fun _ => gg_w (by omega) (lc_537 hL h0 h6 hC1 hS1 hI hK hR next), fun _ => gg_w (by omega) (lc_577 hL h0 h6 hC1 hS1 hI hK hR next), fun _ => gg_w (by omega) (lc_605 hL h0 h6 hC1 hS1 hI hK hR next), fun _ => gg_w (by omega) (lc_657 hL h0 h6 hC1 hS1 hI hK hR next), fun _ => gg_w (by omega) (lc_685 hL h0 h6 hC1 hS1 hI hK hR next), fun _ => gg_w (by omega) (lc_698 hL h0 h6 hC1 hS1 hI hK hR next), fun _ => gg_w (by omega) (lc_711 hL h0 h6 hC1 hS1 hI hK hR next), fun _ => gg_w (by omega) (lc_739 hL h0 h6 hC1 hS1 hI hK hR next), fun _ => gg_w (by omega) (lc_752 hL h0 h6 hC1 hS1 hI hK hR next), fun _ => gg_w (by omega) (lc_780 hL h0 h6 hC1 hS1 hI hK hR next), fun _ => gg_w (by omega) (lc_820 hL h0 h6 hC1 hS1 hI hK hR next), fun _ => gg_w (by omega) (lc_872 hL h0 h6 hC1 hS1 hI hK hR next), fun _ => gg_w (by omega) (lc_912 hL h0 h6 hC1 hS1 hI hK hR next), fun _ => gg_w (by omega) (lc_980 hL h0 h6 hC1 hS1 hI hK hR next), fun _ => gg_w (by omega) (lc_1044 hL h0 h6 hC1 hS1 hI hK hR next), fun _ => gg_w (by omega) (lc_1084 hL h0 h6 hC1 hS1 hI hK hR next), fun _ => gg_w (by omega) (lc_1112 hL h0 h6 hC1 hS1 hI hK hR next), fun _ => gg_w (by omega) (lc_1140 hL h0 h6 hC1 hS1 hI hK hR next), fun _ => gg_w (by omega) (lc_1168 hL h0 h6 hC1 hS1 hI hK hR next), fun _ => gg_w (by omega) (lc_1196 hL h0 h6 hC1 hS1 hI hK hR next), fun _ => gg_w (by omega) (lc_1224 hL h0 h6 hC1 hS1 hI hK hR next), fun _ => gg_w (by omega) (lc_1252 hL h0 h6 hC1 hS1 hI hK hR next), fun _ => gg_w (by omega) (lc_1292 hL h0 h6 hC1 hS1 hI hK hR next), fun _ => gg_w (by omega) (lc_1344 hL h0 h6 hC1 hS1 hI hK hR next), fun _ => gg_w (by omega) (lc_1396 hL h0 h6 hC1 hS1 hI hK hR next), fun _ => gg_w (by omega) (lc_1424 hL h0 h6 hC1 hS1 hI hK hR next), fun _ => gg_w (by omega) (lc_1452 hL h0 h6 hC1 hS1 hI hK hR next), fun _ => gg_w (by omega) (lc_1480 hL h0 h6 hC1 hS1 hI hK hR next), fun _ => gg_w (by omega) (lc_1493 hL h0 h6 hC1 hS1 hI hK hR next), fun _ => gg_w (by omega) (lc_1533 hL h0 h6 hC1 hS1 hI hK hR next), fun _ => gg_w (by omega) (lc_1597 hL h0 h6 hC1 hS1 hI hK hR next), fun _ => gg_w (by omega) (lc_1625 hL h0 h6 hC1 hS1 hI hK hR next), fun _ => gg_w (by omega) (lc_1638 hL h0 h6 hC1 hS1 hI hK hR next), fun _ => gg_w (by omega) (lc_1666 hL h0 h6 hC1 hS1 hI hK hR next), fun _ => gg_w (by omega) (lc_1679 hL h0 h6 hC1 hS1 hI hK hR next), fun _ => gg_w (by omega) (lc_1719 hL h0 h6 hC1 hS1 hI hK hR next), fun _ => gg_w (by omega) (lc_1732 hL h0 h6 hC1 hS1 hI hK hR next), fun _ => gg_w (by omega) (lc_1828 hL h0 h6 hC1 hS1 hI hK hR next), fun _ => gg_w (by omega) (lc_1856 hL h0 h6 hC1 hS1 hI hK hR next), trivial⟩ (fun _ => gg_w (by omega) (next A s _ _ rfl rfl rfl hI hK hR (by omega) (by omega)))
