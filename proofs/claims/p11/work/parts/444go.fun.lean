/-! FUNCTIONAL CONTRACTS, by fgen.py -/
theorem oc_135_1_46 : (Int32.ofInt (-4)).toInt = (-4) ∧ (Int32.ofInt (-1)).toInt = (-1) ∧ (Int32.ofInt 0).toInt = 0 ∧ (Int32.ofInt 1).toInt = 1 ∧ (Int32.ofInt 7).toInt = 7 ∧ (Int32.ofInt 1000).toInt = 1000 := ⟨rfl, rfl, rfl, rfl, rfl, rfl⟩
/-- GraphHouse$Ledger.carryOut -/
theorem f_135_1_46 {Z : AmZ} {A : Nat → Nat} {s : GS} {ex : va_W} {d : Nat} {X : AmX} {u_2_0 : Int32} {u_2_1 : Int32} {u_30_0 : Int32} {u_46_1 : Int32} (hd : 10 ≤ d) (hI : Inv s) (e_2_0 : u_2_0 = s.2.2.1 2 0) (e_2_1 : u_2_1 = s.2.2.1 2 1) (e_30_0 : u_30_0 = s.2.2.1 30 0) (e_46_1 : u_46_1 = s.2.2.1 46 1) (q_0 : KL s) (q_1 : TQ s) : GC Z d 135 [.ref (A 1), .ref (A 46)] (WW Z A s ++ ex) (lgC s) (lgS s) (fun v u => ∃ a : Nat, ∃ t : GS, Inv t ∧ Fr fm_135_1_46 s t ∧ ∃ z : Int32, v = some (.int z) ∧ u = WW Z (ax A 30 a) t ++ ex ∧ In z (-4) 1000 ∧ (KL t) ∧ ((z).toInt ≠ -4 → LOT (s.1 47) (s.2.2.1 46 1).toInt.toNat (gvC s) (z).toInt 0 0 (gvC t) ∧ (t.2.2.1 46 6).toInt = -1 ∧ (t.2.2.1 46 7).toInt = -1) ∧ ((z).toInt = -4 → LOT (s.1 47) (s.2.2.1 46 1).toInt.toNat (gvC s) (-4) (t.2.2.1 46 6).toInt (t.2.2.1 46 7).toInt (gvC t)) ∧ (TQ t) ∧ (LCO s t z)) X := by
  intro post xp hP hX
  have ro_46_1 := inv_F hI 0 1000 rfl e_46_1
  have ct17 : ∀ (k17 : Nat) (sc17 : GS) (ac17 : Nat) (cc17 : Nat) (cs17 : Nat) (y17_2 : Int32) (w17_46_2 : Int32) (w17_2_0 : Int32) (w17_2_1 : Int32) (w17_30_0 : Int32), Inv sc17 → Fr fm_135_1_46 s sc17 → (lgC sc17 ≤ cc17) → (lgS sc17 ≤ cs17) → (In y17_2 0 2001) → (w17_46_2 = sc17.2.2.1 46 2) → (w17_2_0 = sc17.2.2.1 2 0) → (w17_2_1 = sc17.2.2.1 2 1) → (w17_30_0 = sc17.2.2.1 30 0) → ((w17_46_2).toInt ≤ (u_46_1).toInt) → ((u_2_0).toInt ≤ (w17_2_0).toInt) → (KL sc17) → ((∀ p : Nat, p < 160 → sc17.1 18 p = s.1 4 p ∧ sc17.1 19 p = s.1 5 p) ∧ sc17.2.2.1 16 0 = s.2.2.1 2 0 ∧ sc17.2.2.1 16 1 = s.2.2.1 2 1) → (∀ k : Nat, (k : Int) < 7 * (s.2.2.1 2 0).toInt → sc17.1 30 k = s.1 30 k) → (GEQ (gvS sc17) (gvC s) ∧ TQS sc17) → (LRN (s.1 47) (s.2.2.1 46 1).toInt.toNat (gvC s) (y17_2).toInt.toNat (w17_46_2).toInt.toNat (gvC sc17)) → (TQ sc17) → ((sc17.2.2.1 46 6).toInt = -1 ∧ (sc17.2.2.1 46 7).toInt = -1) → (LGS s sc17 (y17_2).toInt.toNat) → 2001 - (y17_2).toInt < (k17 : Int) → GG Z (d - 1) 135 post (gx xp) (1 + k17 * 900) 17 (fun j => xlook j [(0, .ref (A 1)), (1, .ref (A 46)), (2, .int y17_2)]) [] (WW Z (ax A 30 ac17) sc17 ++ ex) cc17 cs17 := by
    intro k17
    induction k17 with
    | zero => intro sc17 ac17 cc17 cs17 y17_2 w17_46_2 w17_2_0 w17_2_1 w17_30_0 hIc17 hFc17 hcc17 hcs17 j17_2 v17_46_2 v17_2_0 v17_2_1 v17_30_0 n17_0 n17_1 g17_0 g17_1 g17_2 g17_3 g17_4 g17_5 g17_6 g17_7 mm17; exact m_no mm17 j17_2 rfl
    | succ k17 ih17 =>
      intro sc17 ac17 cc17 cs17 y17_2 w17_46_2 w17_2_0 w17_2_1 w17_30_0 hIc17 hFc17 hcc17 hcs17 j17_2 v17_46_2 v17_2_0 v17_2_1 v17_30_0 n17_0 n17_1 g17_0 g17_1 g17_2 g17_3 g17_4 g17_5 g17_6 g17_7 mm17
      refine gg_w (M := 1 + k17 * 900 + 900) (by omega) ?_
      refine g_iload_n 18 (gd rfl) rfl rfl ?_
      refine g_sipush 1000 21 (gd rfl) rfl rfl ?_
      refine g_cmp_gt 24 68 (gd rfl) rfl rfl (fun c21 => ?_) (fun c21 => ?_)
      · skip
        have i21 := r_lt2 1001 2001 c21 (in_c 1000 rfl) j17_2 rfl
        refine g_bipush (-4) 70 (gd rfl) rfl rfl ?_
        have n70 : KL sc17 := by exact g17_0
        have n70a : ((Int32.ofInt (-4))).toInt ≠ -4 → LOT (s.1 47) (s.2.2.1 46 1).toInt.toNat (gvC s) ((Int32.ofInt (-4))).toInt 0 0 (gvC sc17) ∧ (sc17.2.2.1 46 6).toInt = -1 ∧ (sc17.2.2.1 46 7).toInt = -1 := by intro h; exact absurd rfl h
        have n70b : ((Int32.ofInt (-4))).toInt = -4 → LOT (s.1 47) (s.2.2.1 46 1).toInt.toNat (gvC s) (-4) (sc17.2.2.1 46 6).toInt (sc17.2.2.1 46 7).toInt (gvC sc17) := by intro _; exfalso; have h9 := lrn_l _ g17_4; have a0 := ro_46_1; unfold In at a0; have a1 := (inv_F hIc17 448 28000 rfl v17_30_0); unfold In at a1; have a2 := (inv_F hIc17 0 32 rfl v17_2_1); unfold In at a2; have a3 := (inv_F hIc17 0 4000 rfl v17_2_0); unfold In at a3; have a4 := (inv_F hIc17 0 1000 rfl v17_46_2); unfold In at a4; have a5 := i21; unfold In at a5; have oc := oc_135_1_46; omega
        have n70c : TQ sc17 := by exact g17_5
        have n70d : LCO s sc17 (Int32.ofInt (-4)) := by exact ⟨fun h => absurd rfl h, fun _ => (by exfalso; have h9 := lrn_l _ g17_4; have a0 := ro_46_1; unfold In at a0; have a1 := (inv_F hIc17 448 28000 rfl v17_30_0); unfold In at a1; have a2 := (inv_F hIc17 0 32 rfl v17_2_1); unfold In at a2; have a3 := (inv_F hIc17 0 4000 rfl v17_2_0); unfold In at a3; have a4 := (inv_F hIc17 0 1000 rfl v17_46_2); unfold In at a4; have a5 := i21; unfold In at a5; have oc := oc_135_1_46; omega)⟩
        exact g_ireturn (gd rfl) rfl rfl (hP _ _ ⟨ac17, sc17, hIc17, hFc17, (Int32.ofInt (-4)), rfl, rfl, in_w (-4) 1000 (in_c (-4) rfl) rfl, n70, n70a, n70b, n70c, n70d⟩)
      · skip
        have i21 := r_le1 0 1000 c21 j17_2 (in_c 1000 rfl) rfl
        refine g_aload_n 25 (gd rfl) rfl rfl ?_
        refine g_bipush 7 27 (gd rfl) rfl rfl ?_
        refine g_iconst 1 28 (gd rfl) rfl rfl ?_
        have v28 : u_46_1 = sc17.2.2.1 46 1 := fr_F e_46_1 hFc17 rfl
        have n28 : (w17_46_2).toInt ≤ (u_46_1).toInt := by have a0 := ro_46_1; unfold In at a0; have a1 := (inv_F hIc17 448 28000 rfl v17_30_0); unfold In at a1; have a2 := (inv_F hIc17 0 32 rfl v17_2_1); unfold In at a2; have a3 := (inv_F hIc17 0 4000 rfl v17_2_0); unfold In at a3; have a4 := (inv_F hIc17 0 1000 rfl v17_46_2); unfold In at a4; have a5 := i21; unfold In at a5; have oc := oc_135_1_46; omega
        refine g_callv (X := _) (As := [.int (Int32.ofInt 7), .int (Int32.ofInt 1)]) (r := []) (b := A 46) (q := 46) 31 (gd rfl) rfl rfl rfl rfl rfl (ww_o rfl) (Nat.le_of_ble_eq_true rfl) (Nat.zero_le _) (Nat.zero_le _) (f_171_46 (A := (ax A 30 ac17)) (by omega) hIc17 (in_w 7 7 (in_c 7 rfl) rfl) (in_w 1 1 (in_c 1 rfl) rfl) v17_46_2 v28 n28) (fun e u h => h) (fun v u h => ?_)
        obtain ⟨s28, hI28, hF28, n28a, n28b, n28c, rfl, rfl, p28, p28a, p28b⟩ := h
        obtain ⟨z28a, e28⟩ : ∃ w, w = s28.2.2.1 46 2 := ⟨_, rfl⟩
        have i28a := inv_F hI28 0 1000 rfl e28
        obtain ⟨z28b, e28a⟩ : ∃ w, w = s28.2.2.1 46 4 := ⟨_, rfl⟩
        have i28b := inv_F hI28 0 1000 rfl e28a
        rw [← (show z28a = s28.2.2.1 46 2 from e28)] at n28a
        rw [← (show u_46_1 = s28.2.2.1 46 1 from fr_F (fr_F e_46_1 hFc17 rfl) hF28 rfl)] at n28a
        rw [← (show z28a = s28.2.2.1 46 2 from e28)] at n28b
        rw [← (show z28b = s28.2.2.1 46 4 from e28a)] at n28b
        rw [← (show w17_46_2 = sc17.2.2.1 46 2 from v17_46_2)] at n28c
        rw [← (show z28b = s28.2.2.1 46 4 from e28a)] at n28c
        show GG _ _ _ _ _ _ _ _ [] _ _ _
        have ht28 : TKN (s28.1 47) (s28.2.2.1 46 1).toInt.toNat (w17_46_2).toInt.toNat (s28.2.2.1 46 4).toInt.toNat (s28.2.2.1 46 2).toInt.toNat (s28.2.2.1 46 3).toInt (s28.2.2.1 46 5).toInt := (by rw [hF28.1 47 rfl, hF28.2.2.1 46 1 rfl, v17_46_2]; exact p28b)
        have hx28 : s28.1 47 = s.1 47 := (hF28.1 47 rfl).trans (hFc17.1 47 rfl)
        have hl28 : s28.2.2.1 46 1 = s.2.2.1 46 1 := (hF28.2.2.1 46 1 rfl).trans (hFc17.2.2.1 46 1 rfl)
        have hg28 : gvC s28 = gvC sc17 := gvC_cg hF28 rfl
        have hk28 : ∀ t : GS, (∀ a : Nat, TKN (s28.1 47) (s28.2.2.1 46 1).toInt.toNat a (s28.2.2.1 46 4).toInt.toNat (s28.2.2.1 46 2).toInt.toNat (s28.2.2.1 46 3).toInt (s28.2.2.1 46 5).toInt → ∃ c V, CMP (s28.1 47) (s28.2.2.1 46 1).toInt.toNat a (s28.2.2.1 46 4).toInt.toNat c V (t.2.2.1 46 2).toInt.toNat ∧ dkC (gvC s28) c V ∧ gvC t = opC (gvC s28) c V) → LRN (s.1 47) (s.2.2.1 46 1).toInt.toNat (gvC s) (y17_2.toInt.toNat + 1) (t.2.2.1 46 2).toInt.toNat (gvC t) := (fun t h => by obtain ⟨c, V, h1, h2, h3⟩ := h _ ht28; rw [hx28, hl28] at h1; rw [hg28] at h2 h3; exact ⟨_, _, _, c, V, g17_4, h1, h2, h3⟩)
        refine g_aload_n 32 (gd rfl) rfl rfl ?_
        refine g_getI (A := (ax A 30 ac17)) (q := 46) 35 (gd rfl) rfl rfl rfl (fun z32 e32 => ?_)
        have i32 := inv_F hI28 0 5 rfl e32
        refine g_if_ne 38 40 (gd rfl) rfl rfl (fun c35 => ?_) (fun c35 => ?_)
        · skip
          have i35 := z_ne 1 5 c35 i32 rfl
          refine g_aload_n 41 (gd rfl) rfl rfl ?_
          refine g_aload_n 42 (gd rfl) rfl rfl ?_
          have v42 : w17_2_0 = s28.2.2.1 2 0 := fr_F (v17_2_0) hF28 rfl
          have v42a : w17_2_1 = s28.2.2.1 2 1 := fr_F (v17_2_1) hF28 rfl
          have v42b : w17_30_0 = s28.2.2.1 30 0 := fr_F (v17_30_0) hF28 rfl
          have v42c : u_46_1 = s28.2.2.1 46 1 := fr_F (fr_F e_46_1 hFc17 rfl) hF28 rfl
          have n42 : (z28a).toInt ≤ (u_46_1).toInt := by have a0 := ro_46_1; unfold In at a0; have a1 := (inv_F hIc17 448 28000 rfl v17_30_0); unfold In at a1; have a2 := (inv_F hIc17 0 32 rfl v17_2_1); unfold In at a2; have a3 := (inv_F hIc17 0 4000 rfl v17_2_0); unfold In at a3; have a4 := (inv_F hIc17 0 1000 rfl v17_46_2); unfold In at a4; have a5 := i21; unfold In at a5; have a6 := i35; unfold In at a6; have a7 := i28b; unfold In at a7; have a8 := i28a; unfold In at a8; have oc := oc_135_1_46; omega
          have p42 : KL s28 := by exact kl_fr g17_0 hF28 rfl
          have p42a : (s28.2.2.1 46 3).toInt = 1 → In (s28.2.2.1 46 5) 0 25 := by exact p28a
          have p42b : ∃ a : Nat, TKN (s28.1 47) (s28.2.2.1 46 1).toInt.toNat a (s28.2.2.1 46 4).toInt.toNat (s28.2.2.1 46 2).toInt.toNat (s28.2.2.1 46 3).toInt (s28.2.2.1 46 5).toInt := by exact ⟨_, ht28⟩
          have p42c : TQ s28 := by exact tq_fr g17_5 hF28 rfl
          have p42d : (s28.2.2.1 46 3).toInt ≠ 0 := by rw [← (show z32 = s28.2.2.1 46 3 from e32)]; have a0 := ro_46_1; unfold In at a0; have a1 := (inv_F hIc17 448 28000 rfl v17_30_0); unfold In at a1; have a2 := (inv_F hIc17 0 32 rfl v17_2_1); unfold In at a2; have a3 := (inv_F hIc17 0 4000 rfl v17_2_0); unfold In at a3; have a4 := (inv_F hIc17 0 1000 rfl v17_46_2); unfold In at a4; have a5 := i21; unfold In at a5; have a6 := i35; unfold In at a6; have a7 := i28b; unfold In at a7; have a8 := i28a; unfold In at a8; have oc := oc_135_1_46; omega
          refine g_callv (X := _) (As := [.ref (A 46)]) (r := []) (b := A 1) (q := 1) 45 (gd rfl) rfl rfl rfl rfl rfl (ww_o rfl) (Nat.le_of_ble_eq_true rfl) (Nat.le_trans (lg_lc (inv_F hI28 448 28000 (q := 30) (j := 0) rfl rfl)).1 (by have h2 := (lg_cg (hF28.2.2.1 30 0 rfl)).1; omega)) (Nat.le_trans (lg_lc (inv_F hI28 448 28000 (q := 30) (j := 0) rfl rfl)).2 (by have h2 := (lg_cg (hF28.2.2.1 30 0 rfl)).2; omega)) (f_136_1_46 (A := (ax A 30 ac17)) (by omega) hI28 v42 v42a v42b e28 v42c e32 e28a rfl n42 p42 p42a p42b p42c p42d) (fun e u h => h) (fun v u h => ?_)
          obtain ⟨a42, s42, hI42, hF42, n42a, n42b, z42, rfl, rfl, i42, p42e, p42f, p42g, p42h, p42i, p42j, p42k, p42l, p42m, p42n⟩ := h
          rw [ax_ax]
          obtain ⟨z42a, e42⟩ : ∃ w, w = s42.2.2.1 46 2 := ⟨_, rfl⟩
          have i42a := inv_F hI42 0 1000 rfl e42
          obtain ⟨z42b, e42a⟩ : ∃ w, w = s42.2.2.1 2 0 := ⟨_, rfl⟩
          have i42b := inv_F hI42 0 4000 rfl e42a
          rw [← (show z42a = s42.2.2.1 46 2 from e42)] at n42a
          rw [← (show u_46_1 = s42.2.2.1 46 1 from fr_F (fr_F (fr_F e_46_1 hFc17 rfl) hF28 rfl) hF42 rfl)] at n42a
          rw [← (show w17_2_0 = s28.2.2.1 2 0 from fr_F (v17_2_0) hF28 rfl)] at n42b
          rw [← (show z42b = s42.2.2.1 2 0 from e42a)] at n42b
          show GG _ _ _ _ _ _ _ _ [.int z42] _ _ _
          have hv42 : _ = s42.2.2.1 2 0 := (show z42b = s42.2.2.1 2 0 from e42a)
          refine g_if_ne 48 62 (gd rfl) rfl rfl (fun c45 => ?_) (fun c45 => ?_)
          · skip
            have i45 := z_ne 1 1 c45 i42 rfl
            refine g_iinc 65 (gd rfl) rfl rfl (Nat.le_of_ble_eq_true rfl) (fun z62 e62 => ?_)
            have i62 := in_add 1 1001 e62 i21 (in_c 1 rfl) rfl rfl
            refine g_goto 17 (gd rfl) rfl ?_
            have hr17 : lgC s42 ≤ (cc17 - lc s28) := by have h := (lgt_st (s := s28) (t := s42) (inv_F hI28 448 28000 (q := 30) (j := 0) rfl rfl) (p42g c45) (kl_fr g17_0 hF28 rfl).2.1 (p42f c45)).1; have h2 := (lg_cg (hF28.2.2.1 30 0 rfl)).1; omega
            have hr17a : lgS s42 ≤ (cs17 - lsl s28) := by have h := (lgt_st (s := s28) (t := s42) (inv_F hI28 448 28000 (q := 30) (j := 0) rfl rfl) (p42g c45) (kl_fr g17_0 hF28 rfl).2.1 (p42f c45)).2; have h2 := (lg_cg (hF28.2.2.1 30 0 rfl)).2; omega
            have n17 : (z42a).toInt ≤ (u_46_1).toInt := by have a0 := ro_46_1; unfold In at a0; have a1 := (inv_F hIc17 448 28000 rfl v17_30_0); unfold In at a1; have a2 := (inv_F hIc17 0 32 rfl v17_2_1); unfold In at a2; have a3 := (inv_F hIc17 0 4000 rfl v17_2_0); unfold In at a3; have a4 := (inv_F hIc17 0 1000 rfl v17_46_2); unfold In at a4; have a5 := i21; unfold In at a5; have a6 := i62; unfold In at a6; have a7 := t_add e62 i21 (in_c 1 rfl) rfl; have a8 := (in_c 1 rfl); unfold In at a8; have a9 := i42b; unfold In at a9; have a10 := i42a; unfold In at a10; have oc := oc_135_1_46; omega
            have n17a : (u_2_0).toInt ≤ (z42b).toInt := by have a0 := ro_46_1; unfold In at a0; have a1 := (inv_F hIc17 448 28000 rfl v17_30_0); unfold In at a1; have a2 := (inv_F hIc17 0 32 rfl v17_2_1); unfold In at a2; have a3 := (inv_F hIc17 0 4000 rfl v17_2_0); unfold In at a3; have a4 := (inv_F hIc17 0 1000 rfl v17_46_2); unfold In at a4; have a5 := i21; unfold In at a5; have a6 := i62; unfold In at a6; have a7 := t_add e62 i21 (in_c 1 rfl) rfl; have a8 := (in_c 1 rfl); unfold In at a8; have a9 := i42b; unfold In at a9; have a10 := i42a; unfold In at a10; have oc := oc_135_1_46; omega
            have n17b : KL s42 := by exact p42e
            have n17c : (∀ p : Nat, p < 160 → s42.1 18 p = s.1 4 p ∧ s42.1 19 p = s.1 5 p) ∧ s42.2.2.1 16 0 = s.2.2.1 2 0 ∧ s42.2.2.1 16 1 = s.2.2.1 2 1 := by exact ⟨fun p hp => by rw [hF42.1 18 rfl, hF42.1 19 rfl, hF28.1 18 rfl, hF28.1 19 rfl]; exact g17_1.1 p hp, by rw [hF42.2.2.1 16 0 rfl, hF28.2.2.1 16 0 rfl]; exact g17_1.2.1, by rw [hF42.2.2.1 16 1 rfl, hF28.2.2.1 16 1 rfl]; exact g17_1.2.2⟩
            have n17d : ∀ k : Nat, (k : Int) < 7 * (s.2.2.1 2 0).toInt → s42.1 30 k = s.1 30 k := by exact fun k hk => by rw [p42h k (by rw [hF28.2.2.1 2 0 rfl, ← v17_2_0]; rw [← e_2_0] at hk; have a0 := ro_46_1; unfold In at a0; have a1 := (inv_F hIc17 448 28000 rfl v17_30_0); unfold In at a1; have a2 := (inv_F hIc17 0 32 rfl v17_2_1); unfold In at a2; have a3 := (inv_F hIc17 0 4000 rfl v17_2_0); unfold In at a3; have a4 := (inv_F hIc17 0 1000 rfl v17_46_2); unfold In at a4; have a5 := i21; unfold In at a5; have a6 := i62; unfold In at a6; have a7 := t_add e62 i21 (in_c 1 rfl) rfl; have a8 := (in_c 1 rfl); unfold In at a8; have a9 := i42b; unfold In at a9; have a10 := i42a; unfold In at a10; have oc := oc_135_1_46; omega), hF28.1 30 rfl]; exact g17_2 k hk
            have n17e : GEQ (gvS s42) (gvC s) ∧ TQS s42 := by exact ⟨by rw [gvS_cg hF42 rfl, gvS_cg hF28 rfl]; exact g17_3.1, tqs_fr (tqs_fr g17_3.2 hF28 rfl) hF42 rfl⟩
            have n17f : LRN (s.1 47) (s.2.2.1 46 1).toInt.toNat (gvC s) (z62).toInt.toNat (z42a).toInt.toNat (gvC s42) := by have hn9 := hk28 _ (p42i c45); rw [show z62.toInt.toNat = y17_2.toInt.toNat + 1 from (by have a0 := ro_46_1; unfold In at a0; have a1 := (inv_F hIc17 448 28000 rfl v17_30_0); unfold In at a1; have a2 := (inv_F hIc17 0 32 rfl v17_2_1); unfold In at a2; have a3 := (inv_F hIc17 0 4000 rfl v17_2_0); unfold In at a3; have a4 := (inv_F hIc17 0 1000 rfl v17_46_2); unfold In at a4; have a5 := i21; unfold In at a5; have a6 := i62; unfold In at a6; have a7 := t_add e62 i21 (in_c 1 rfl) rfl; have a8 := (in_c 1 rfl); unfold In at a8; have a9 := i42b; unfold In at a9; have a10 := i42a; unfold In at a10; have oc := oc_135_1_46; omega), ((show z42a = s42.2.2.1 46 2 from e42))]; exact hn9
            have n17g : TQ s42 := by exact p42k c45
            have n17h : (s42.2.2.1 46 6).toInt = -1 ∧ (s42.2.2.1 46 7).toInt = -1 := by exact ⟨by rw [(p42l c45).1, hF28.2.2.1 46 6 rfl]; exact g17_6.1, by rw [(p42l c45).2, hF28.2.2.1 46 7 rfl]; exact g17_6.2⟩
            have n17i : LGS s s42 (z62).toInt.toNat := by exact lgs_s g17_7 (show z62.toInt.toNat = y17_2.toInt.toNat + 1 from (by have a0 := ro_46_1; unfold In at a0; have a1 := (inv_F hIc17 448 28000 rfl v17_30_0); unfold In at a1; have a2 := (inv_F hIc17 0 32 rfl v17_2_1); unfold In at a2; have a3 := (inv_F hIc17 0 4000 rfl v17_2_0); unfold In at a3; have a4 := (inv_F hIc17 0 1000 rfl v17_46_2); unfold In at a4; have a5 := i21; unfold In at a5; have a6 := i62; unfold In at a6; have a7 := t_add e62 i21 (in_c 1 rfl) rfl; have a8 := (in_c 1 rfl); unfold In at a8; have a9 := i42b; unfold In at a9; have a10 := i42a; unfold In at a10; have oc := oc_135_1_46; omega)) (lgc_fr (p42n c45) hF28 rfl) (inv_F hI (z := s.2.2.1 2 0) 0 4000 rfl rfl).1 (by rw [show z62.toInt.toNat = y17_2.toInt.toNat + 1 from (by have a0 := ro_46_1; unfold In at a0; have a1 := (inv_F hIc17 448 28000 rfl v17_30_0); unfold In at a1; have a2 := (inv_F hIc17 0 32 rfl v17_2_1); unfold In at a2; have a3 := (inv_F hIc17 0 4000 rfl v17_2_0); unfold In at a3; have a4 := (inv_F hIc17 0 1000 rfl v17_46_2); unfold In at a4; have a5 := i21; unfold In at a5; have a6 := i62; unfold In at a6; have a7 := t_add e62 i21 (in_c 1 rfl) rfl; have a8 := (in_c 1 rfl); unfold In at a8; have a9 := i42b; unfold In at a9; have a10 := i42a; unfold In at a10; have oc := oc_135_1_46; omega)]; exact ⟨_, hk28 _ (p42i c45)⟩)
            exact gg_w (by omega) (gg_f (gf_cons rfl (gf_cons rfl (gf_cons rfl gf_nil))) (ih17 s42 a42 (cc17 - lc s28) (cs17 - lsl s28) z62 z42a z42b _ _ hI42 (fr_tr rfl (fr_tr rfl hFc17 hF28) hF42) hr17 hr17a (in_w 0 2001 i62 rfl) e42 e42a rfl rfl n17 n17a n17b n17c n17d n17e n17f n17g n17h n17i (m_up mm17 (t_add e62 i21 (in_c 1 rfl) rfl) (in_w 1 1 (in_c 1 rfl) rfl))))
          · skip
            have i45 := z_eq 0 0 c45 i42 rfl
            refine g_aload_n 49 (gd rfl) rfl rfl ?_
            refine g_getA (A := (ax A 30 a42)) (q := 1) (q2 := 2) 52 (gd rfl) rfl rfl rfl rfl ?_
            refine g_aload_n 53 (gd rfl) rfl rfl ?_
            refine g_getA (A := (ax A 30 a42)) (q := 1) (q2 := 16) 56 (gd rfl) rfl rfl rfl rfl ?_
            refine g_callv (X := _) (As := [.ref (A 16)]) (r := []) (b := A 2) (q := 2) 59 (gd rfl) rfl rfl rfl rfl rfl (ww_o rfl) (Nat.le_of_ble_eq_true rfl) (Nat.zero_le _) (Nat.zero_le _) (f_93_2_16 (A := (ax A 30 a42)) (by omega) hI42 ) (fun e u h => h) (fun v u h => ?_)
            obtain ⟨s56, hI56, hF56, rfl, rfl, p56, p56a, p56b, p56c, p56d, p56e, p56f, p56g, p56h⟩ := h
            show GG _ _ _ _ _ _ _ _ [] _ _ _
            refine g_bipush (-4) 61 (gd rfl) rfl rfl ?_
            have n61 : KL s56 := by have hFF : Fr fm_135_1_46 s s56 := (fr_tr rfl (fr_tr rfl (fr_tr rfl hFc17 hF28) hF42) hF56); exact kl_bk q_0 (fun k hk => by rw [hF56.1 30 rfl, p42h k (by rw [hF28.2.2.1 2 0 rfl, ← v17_2_0]; rw [← e_2_0] at hk; have a0 := ro_46_1; unfold In at a0; have a1 := (inv_F hIc17 448 28000 rfl v17_30_0); unfold In at a1; have a2 := (inv_F hIc17 0 32 rfl v17_2_1); unfold In at a2; have a3 := (inv_F hIc17 0 4000 rfl v17_2_0); unfold In at a3; have a4 := (inv_F hIc17 0 1000 rfl v17_46_2); unfold In at a4; have a5 := i21; unfold In at a5; have a6 := i42a; unfold In at a6; have oc := oc_135_1_46; omega), hF28.1 30 rfl]; exact g17_2 k hk) (by have h9 := p42e.2.1; rw [hF56.2.2.1 30 0 rfl]; rw [← hv42] at h9; rw [← e_2_0]; have a0 := ro_46_1; unfold In at a0; have a1 := (inv_F hIc17 448 28000 rfl v17_30_0); unfold In at a1; have a2 := (inv_F hIc17 0 32 rfl v17_2_1); unfold In at a2; have a3 := (inv_F hIc17 0 4000 rfl v17_2_0); unfold In at a3; have a4 := (inv_F hIc17 0 1000 rfl v17_46_2); unfold In at a4; have a5 := i21; unfold In at a5; have a6 := i42a; unfold In at a6; have oc := oc_135_1_46; omega) (by rw [p56b, hF42.2.2.1 16 0 rfl, hF28.2.2.1 16 0 rfl]; exact g17_1.2.1) (by rw [p56c, hF42.2.2.1 16 1 rfl, hF28.2.2.1 16 1 rfl]; exact g17_1.2.2) (kn_cp q_0.2.2.2.1.2 (fun p hp => by rw [p56 p hp, hF42.1 18 rfl, hF28.1 18 rfl]; exact (g17_1.1 p hp).1) (fun p hp => by rw [p56a p hp, hF42.1 19 rfl, hF28.1 19 rfl]; exact (g17_1.1 p hp).2)) (hFF.2.2.1 32 0 rfl) (hFF.2.2.1 32 1 rfl) (hFF.1 34 rfl) (hFF.1 35 rfl)
            have n61a : ((Int32.ofInt (-4))).toInt ≠ -4 → LOT (s.1 47) (s.2.2.1 46 1).toInt.toNat (gvC s) ((Int32.ofInt (-4))).toInt 0 0 (gvC s56) ∧ (s56.2.2.1 46 6).toInt = -1 ∧ (s56.2.2.1 46 7).toInt = -1 := by intro h; exact absurd rfl h
            have n61b : ((Int32.ofInt (-4))).toInt = -4 → LOT (s.1 47) (s.2.2.1 46 1).toInt.toNat (gvC s) (-4) (s56.2.2.1 46 6).toInt (s56.2.2.1 46 7).toInt (gvC s56) := by intro _; have h9 := p42j (by have a0 := ro_46_1; unfold In at a0; have a1 := (inv_F hIc17 448 28000 rfl v17_30_0); unfold In at a1; have a2 := (inv_F hIc17 0 32 rfl v17_2_1); unfold In at a2; have a3 := (inv_F hIc17 0 4000 rfl v17_2_0); unfold In at a3; have a4 := (inv_F hIc17 0 1000 rfl v17_46_2); unfold In at a4; have a5 := i21; unfold In at a5; have a6 := i42a; unfold In at a6; have oc := oc_135_1_46; omega) _ ht28; rw [hx28, hl28, hg28] at h9; refine Or.inr ⟨y17_2.toInt.toNat, w17_46_2.toInt.toNat, (s42.2.2.1 46 7).toInt.toNat, gvC sc17, g17_4, ?_, rfl, ?_, (show GEQ (gvC s56) (gvC s) from geq_t (show GEQ (gvC s56) (gvS s42) from ⟨p56d, p56, p56a, p56e, p56f, p56g, congrArg Int32.toInt p56c, congrArg Int32.toInt p56b⟩) (by rw [gvS_cg hF42 rfl, gvS_cg hF28 rfl]; exact g17_3.1))⟩; (rw [hF56.2.2.1 46 6 rfl]; exact h9); (rw [hF56.2.2.1 46 7 rfl]; have h8 := p42m (by have a0 := ro_46_1; unfold In at a0; have a1 := (inv_F hIc17 448 28000 rfl v17_30_0); unfold In at a1; have a2 := (inv_F hIc17 0 32 rfl v17_2_1); unfold In at a2; have a3 := (inv_F hIc17 0 4000 rfl v17_2_0); unfold In at a3; have a4 := (inv_F hIc17 0 1000 rfl v17_46_2); unfold In at a4; have a5 := i21; unfold In at a5; have a6 := i42a; unfold In at a6; have oc := oc_135_1_46; omega); omega)
            have n61c : TQ s56 := by intro p hp hn; rw [p56h]; exact (tqs_fr (tqs_fr g17_3.2 hF28 rfl) hF42 rfl) p hp (by rw [← p56 p hp]; exact hn)
            have n61d : LCO s s56 (Int32.ofInt (-4)) := by exact ⟨fun h => absurd rfl h, fun _ => (by obtain ⟨G, -, -, hpf, hgv, -⟩ := g17_7; intro k hk; rw [hF56.1 30 rfl, (show s42.1 30 k = s28.1 30 k from (by have hw : (s28.2.2.1 2 0).toInt = (sc17.2.2.1 2 0).toInt := congrArg Int32.toInt (hF28.2.2.1 2 0 rfl); first | exact p42h k (by omega) | exact p42g k (by omega))), hF28.1 30 rfl]; exact hpf k hk)⟩
            exact g_ireturn (gd rfl) rfl rfl (hP _ _ ⟨a42, s56, hI56, (fr_tr rfl (fr_tr rfl (fr_tr rfl hFc17 hF28) hF42) hF56), (Int32.ofInt (-4)), rfl, rfl, in_w (-4) 1000 (in_c (-4) rfl) rfl, n61, n61a, n61b, n61c, n61d⟩)
        · skip
          have i35 := z_eq 0 0 c35 i32 rfl
          refine g_iload_n 39 (gd rfl) rfl rfl ?_
          have n39 : KL s28 := by exact kl_fr g17_0 hF28 rfl
          have n39a : (y17_2).toInt ≠ -4 → LOT (s.1 47) (s.2.2.1 46 1).toInt.toNat (gvC s) (y17_2).toInt 0 0 (gvC s28) ∧ (s28.2.2.1 46 6).toInt = -1 ∧ (s28.2.2.1 46 7).toInt = -1 := by intro _; have h9 := ht28; rw [hx28, hl28, show (s28.2.2.1 46 3).toInt = 0 from (by rw [← (show z32 = s28.2.2.1 46 3 from e32)]; have a0 := ro_46_1; unfold In at a0; have a1 := (inv_F hIc17 448 28000 rfl v17_30_0); unfold In at a1; have a2 := (inv_F hIc17 0 32 rfl v17_2_1); unfold In at a2; have a3 := (inv_F hIc17 0 4000 rfl v17_2_0); unfold In at a3; have a4 := (inv_F hIc17 0 1000 rfl v17_46_2); unfold In at a4; have a5 := i21; unfold In at a5; have a6 := i35; unfold In at a6; have a7 := i28b; unfold In at a7; have a8 := i28a; unfold In at a8; have oc := oc_135_1_46; omega)] at h9; exact ⟨Or.inl ⟨y17_2.toInt.toNat, w17_46_2.toInt.toNat, gvC sc17, g17_4, ⟨_, _, _, h9⟩, (by have a0 := ro_46_1; unfold In at a0; have a1 := (inv_F hIc17 448 28000 rfl v17_30_0); unfold In at a1; have a2 := (inv_F hIc17 0 32 rfl v17_2_1); unfold In at a2; have a3 := (inv_F hIc17 0 4000 rfl v17_2_0); unfold In at a3; have a4 := (inv_F hIc17 0 1000 rfl v17_46_2); unfold In at a4; have a5 := i21; unfold In at a5; have a6 := i35; unfold In at a6; have a7 := i28b; unfold In at a7; have a8 := i28a; unfold In at a8; have oc := oc_135_1_46; omega), rfl, by rw [hg28]; exact geq_r⟩, by rw [hF28.2.2.1 46 6 rfl]; exact g17_6.1, by rw [hF28.2.2.1 46 7 rfl]; exact g17_6.2⟩
          have n39b : (y17_2).toInt = -4 → LOT (s.1 47) (s.2.2.1 46 1).toInt.toNat (gvC s) (-4) (s28.2.2.1 46 6).toInt (s28.2.2.1 46 7).toInt (gvC s28) := by intro h; exfalso; have a0 := ro_46_1; unfold In at a0; have a1 := (inv_F hIc17 448 28000 rfl v17_30_0); unfold In at a1; have a2 := (inv_F hIc17 0 32 rfl v17_2_1); unfold In at a2; have a3 := (inv_F hIc17 0 4000 rfl v17_2_0); unfold In at a3; have a4 := (inv_F hIc17 0 1000 rfl v17_46_2); unfold In at a4; have a5 := i21; unfold In at a5; have a6 := i35; unfold In at a6; have a7 := i28b; unfold In at a7; have a8 := i28a; unfold In at a8; have oc := oc_135_1_46; omega
          have n39c : TQ s28 := by exact tq_fr g17_5 hF28 rfl
          have n39d : LCO s s28 y17_2 := by exact ⟨fun _ => (by have q := g17_7; obtain ⟨G, b1, b2, b3, b4, b5⟩ := q; exact ⟨G, b1, by rw [b2]; exact hg28.symm, fun k hk => by rw [hF28.1 30 rfl]; exact b3 k hk, by rw [hF28.2.2.1 2 0 rfl]; exact b4, by rw [hF28.1 30 rfl]; exact b5⟩), fun h => (by exfalso; have a0 := ro_46_1; unfold In at a0; have a1 := (inv_F hIc17 448 28000 rfl v17_30_0); unfold In at a1; have a2 := (inv_F hIc17 0 32 rfl v17_2_1); unfold In at a2; have a3 := (inv_F hIc17 0 4000 rfl v17_2_0); unfold In at a3; have a4 := (inv_F hIc17 0 1000 rfl v17_46_2); unfold In at a4; have a5 := i21; unfold In at a5; have a6 := i35; unfold In at a6; have a7 := i28b; unfold In at a7; have a8 := i28a; unfold In at a8; have oc := oc_135_1_46; omega)⟩
          exact g_ireturn (gd rfl) rfl rfl (hP _ _ ⟨ac17, s28, hI28, (fr_tr rfl hFc17 hF28), y17_2, rfl, rfl, in_w (-4) 1000 i21 rfl, n39, n39a, n39b, n39c, n39d⟩)
  refine g_enter2 (k := 135) (N := 1802701) (by omega) rfl (Nat.le_of_ble_eq_true rfl) ?_
  refine g_aload_n 1 (gd rfl) rfl rfl ?_
  refine g_getA (q2 := 16) 4 (gd rfl) rfl rfl rfl rfl ?_
  refine g_aload_n 5 (gd rfl) rfl rfl ?_
  refine g_getA (q2 := 2) 8 (gd rfl) rfl rfl rfl rfl ?_
  refine g_callv (X := _) (As := [.ref (A 2)]) (r := []) (b := A 16) (q := 16) 11 (gd rfl) rfl rfl rfl rfl rfl (ww_o rfl) (Nat.le_of_ble_eq_true rfl) (Nat.zero_le _) (Nat.zero_le _) (f_93_16_2 (by omega) hI ) (fun e u h => h) (fun v u h => ?_)
  obtain ⟨s8, hI8, hF8, rfl, rfl, p8, p8a, p8b, p8c, p8d, p8e, p8f, p8g, p8h⟩ := h
  show GG _ _ _ _ _ _ _ _ [] _ _ _
  refine g_aload_n 12 (gd rfl) rfl rfl ?_
  refine g_callv (X := _) (As := []) (r := []) (b := A 46) (q := 46) 15 (gd rfl) rfl rfl rfl rfl rfl (ww_o rfl) (Nat.le_of_ble_eq_true rfl) (mc := 0) (ms := 0) (Nat.zero_le _) (Nat.zero_le _) (P := fun v u => _) ?_ (fun e u h => h) (fun v u h => h)
  intro po12 xx12 hp12 hx12
  refine g_enter2 (k := 167) (N := 300) (by omega) rfl (Nat.le_of_ble_eq_true rfl) ?_
  refine g_aload_n 1 (gd rfl) rfl rfl ?_
  refine g_iconst 0 2 (gd rfl) rfl rfl ?_
  refine g_putI 5 (gd rfl) rfl rfl rfl rfl ?_
  have hI12x2 := inv_sF (q := 46) (j := 2) hI8 rfl (in_w 0 1000 (in_c 0 rfl) rfl)
  refine g_aload_n 6 (gd rfl) rfl rfl ?_
  refine g_iconst (-1) 7 (gd rfl) rfl rfl ?_
  refine g_putI 10 (gd rfl) rfl rfl rfl rfl ?_
  have hI12x7 := inv_sF (q := 46) (j := 6) hI12x2 rfl (in_w (-1) 5 (in_c (-1) rfl) rfl)
  refine g_aload_n 11 (gd rfl) rfl rfl ?_
  refine g_iconst (-1) 12 (gd rfl) rfl rfl ?_
  refine g_putI 15 (gd rfl) rfl rfl rfl rfl ?_
  have hI12x12 := inv_sF (q := 46) (j := 7) hI12x7 rfl (in_w (-1) 1000 (in_c (-1) rfl) rfl)
  refine g_return (gd rfl) rfl (hp12 _ _ ?_)
  show GG _ _ _ _ _ _ _ _ [] _ _ _
  refine g_iconst 0 16 (gd rfl) rfl rfl ?_
  refine g_istore_n 17 (gd rfl) rfl (Nat.le_of_ble_eq_true rfl) ?_
  have hr17 : lgC (sF (sF (sF s8 46 2 (Int32.ofInt 0)) 46 6 (Int32.ofInt (-1))) 46 7 (Int32.ofInt (-1))) ≤ (lgC s) := by exact Nat.le_of_eq (lg_cg ((show Fr ([17, 18, 19, 20, 21, 22], [], [(16, 0), (16, 1), (16, 2), (16, 3), (16, 4), (46, 2), (46, 6), (46, 7)], []) s (sF (sF (sF s8 46 2 (Int32.ofInt 0)) 46 6 (Int32.ofInt (-1))) 46 7 (Int32.ofInt (-1))) from (fr_sF rfl (fr_sF rfl (fr_sF rfl (fr_tr rfl fr_rf hF8))))).2.2.1 30 0 rfl)).1
  have hr17a : lgS (sF (sF (sF s8 46 2 (Int32.ofInt 0)) 46 6 (Int32.ofInt (-1))) 46 7 (Int32.ofInt (-1))) ≤ (lgS s) := by exact Nat.le_of_eq (lg_cg ((show Fr ([17, 18, 19, 20, 21, 22], [], [(16, 0), (16, 1), (16, 2), (16, 3), (16, 4), (46, 2), (46, 6), (46, 7)], []) s (sF (sF (sF s8 46 2 (Int32.ofInt 0)) 46 6 (Int32.ofInt (-1))) 46 7 (Int32.ofInt (-1))) from (fr_sF rfl (fr_sF rfl (fr_sF rfl (fr_tr rfl fr_rf hF8))))).2.2.1 30 0 rfl)).2
  rw [show WW Z A (sF (sF (sF s8 46 2 (Int32.ofInt 0)) 46 6 (Int32.ofInt (-1))) 46 7 (Int32.ofInt (-1))) ++ ex = WW Z (ax A 30 (A 30)) (sF (sF (sF s8 46 2 (Int32.ofInt 0)) 46 6 (Int32.ofInt (-1))) 46 7 (Int32.ofInt (-1))) ++ ex from by rw [ax_id]]
  have v17 : (Int32.ofInt 0) = (sF (sF (sF s8 46 2 (Int32.ofInt 0)) 46 6 (Int32.ofInt (-1))) 46 7 (Int32.ofInt (-1))).2.2.1 46 2 := sF_ne rfl (sF_ne rfl (sF_get))
  have v17a : u_2_0 = (sF (sF (sF s8 46 2 (Int32.ofInt 0)) 46 6 (Int32.ofInt (-1))) 46 7 (Int32.ofInt (-1))).2.2.1 2 0 := sF_ne rfl (sF_ne rfl (sF_ne rfl (fr_F (e_2_0) hF8 rfl)))
  have v17b : u_2_1 = (sF (sF (sF s8 46 2 (Int32.ofInt 0)) 46 6 (Int32.ofInt (-1))) 46 7 (Int32.ofInt (-1))).2.2.1 2 1 := sF_ne rfl (sF_ne rfl (sF_ne rfl (fr_F (e_2_1) hF8 rfl)))
  have v17c : u_30_0 = (sF (sF (sF s8 46 2 (Int32.ofInt 0)) 46 6 (Int32.ofInt (-1))) 46 7 (Int32.ofInt (-1))).2.2.1 30 0 := sF_ne rfl (sF_ne rfl (sF_ne rfl (fr_F (e_30_0) hF8 rfl)))
  have n17 : ((Int32.ofInt 0)).toInt ≤ (u_46_1).toInt := by have a0 := (inv_F hI 0 1000 rfl e_46_1); unfold In at a0; have a1 := (inv_F hI 448 28000 rfl e_30_0); unfold In at a1; have a2 := (inv_F hI 0 32 rfl e_2_1); unfold In at a2; have a3 := (inv_F hI 0 4000 rfl e_2_0); unfold In at a3; have a4 := (in_c 0 rfl); unfold In at a4; have a5 := (in_c (-1) rfl); unfold In at a5; have oc := oc_135_1_46; omega
  have n17a : (u_2_0).toInt ≤ (u_2_0).toInt := by have a0 := (inv_F hI 0 1000 rfl e_46_1); unfold In at a0; have a1 := (inv_F hI 448 28000 rfl e_30_0); unfold In at a1; have a2 := (inv_F hI 0 32 rfl e_2_1); unfold In at a2; have a3 := (inv_F hI 0 4000 rfl e_2_0); unfold In at a3; have a4 := (in_c 0 rfl); unfold In at a4; have a5 := (in_c (-1) rfl); unfold In at a5; have oc := oc_135_1_46; omega
  have n17b : KL (sF (sF (sF s8 46 2 (Int32.ofInt 0)) 46 6 (Int32.ofInt (-1))) 46 7 (Int32.ofInt (-1))) := by exact kl_fr q_0 (show Fr ([17, 18, 19, 20, 21, 22], [], [(16, 0), (16, 1), (16, 2), (16, 3), (16, 4), (46, 2), (46, 6), (46, 7)], []) s (sF (sF (sF s8 46 2 (Int32.ofInt 0)) 46 6 (Int32.ofInt (-1))) 46 7 (Int32.ofInt (-1))) from (fr_sF rfl (fr_sF rfl (fr_sF rfl (fr_tr rfl fr_rf hF8))))) rfl
  have n17c : (∀ p : Nat, p < 160 → (sF (sF (sF s8 46 2 (Int32.ofInt 0)) 46 6 (Int32.ofInt (-1))) 46 7 (Int32.ofInt (-1))).1 18 p = s.1 4 p ∧ (sF (sF (sF s8 46 2 (Int32.ofInt 0)) 46 6 (Int32.ofInt (-1))) 46 7 (Int32.ofInt (-1))).1 19 p = s.1 5 p) ∧ (sF (sF (sF s8 46 2 (Int32.ofInt 0)) 46 6 (Int32.ofInt (-1))) 46 7 (Int32.ofInt (-1))).2.2.1 16 0 = s.2.2.1 2 0 ∧ (sF (sF (sF s8 46 2 (Int32.ofInt 0)) 46 6 (Int32.ofInt (-1))) 46 7 (Int32.ofInt (-1))).2.2.1 16 1 = s.2.2.1 2 1 := by exact ⟨fun p hp => ⟨p8 p hp, p8a p hp⟩, p8b, p8c⟩
  have n17d : ∀ k : Nat, (k : Int) < 7 * (s.2.2.1 2 0).toInt → (sF (sF (sF s8 46 2 (Int32.ofInt 0)) 46 6 (Int32.ofInt (-1))) 46 7 (Int32.ofInt (-1))).1 30 k = s.1 30 k := by exact fun k _ => by rw [(show Fr ([17, 18, 19, 20, 21, 22], [], [(16, 0), (16, 1), (16, 2), (16, 3), (16, 4), (46, 2), (46, 6), (46, 7)], []) s (sF (sF (sF s8 46 2 (Int32.ofInt 0)) 46 6 (Int32.ofInt (-1))) 46 7 (Int32.ofInt (-1))) from (fr_sF rfl (fr_sF rfl (fr_sF rfl (fr_tr rfl fr_rf hF8))))).1 30 rfl]
  have n17e : GEQ (gvS (sF (sF (sF s8 46 2 (Int32.ofInt 0)) 46 6 (Int32.ofInt (-1))) 46 7 (Int32.ofInt (-1)))) (gvC s) ∧ TQS (sF (sF (sF s8 46 2 (Int32.ofInt 0)) 46 6 (Int32.ofInt (-1))) 46 7 (Int32.ofInt (-1))) := by exact ⟨⟨p8d, p8, p8a, p8e, p8f, p8g, congrArg Int32.toInt p8c, congrArg Int32.toInt p8b⟩, fun p hp hn => by have h9 := q_1 p hp (by rw [← p8 p hp]; exact hn); rw [← p8h] at h9; exact h9⟩
  have n17f : LRN (s.1 47) (s.2.2.1 46 1).toInt.toNat (gvC s) ((Int32.ofInt 0)).toInt.toNat ((Int32.ofInt 0)).toInt.toNat (gvC (sF (sF (sF s8 46 2 (Int32.ofInt 0)) 46 6 (Int32.ofInt (-1))) 46 7 (Int32.ofInt (-1)))) := by exact ⟨rfl, gvC_cg (show Fr ([17, 18, 19, 20, 21, 22], [], [(16, 0), (16, 1), (16, 2), (16, 3), (16, 4), (46, 2), (46, 6), (46, 7)], []) s (sF (sF (sF s8 46 2 (Int32.ofInt 0)) 46 6 (Int32.ofInt (-1))) 46 7 (Int32.ofInt (-1))) from (fr_sF rfl (fr_sF rfl (fr_sF rfl (fr_tr rfl fr_rf hF8))))) rfl⟩
  have n17g : TQ (sF (sF (sF s8 46 2 (Int32.ofInt 0)) 46 6 (Int32.ofInt (-1))) 46 7 (Int32.ofInt (-1))) := by exact tq_fr q_1 (show Fr ([17, 18, 19, 20, 21, 22], [], [(16, 0), (16, 1), (16, 2), (16, 3), (16, 4), (46, 2), (46, 6), (46, 7)], []) s (sF (sF (sF s8 46 2 (Int32.ofInt 0)) 46 6 (Int32.ofInt (-1))) 46 7 (Int32.ofInt (-1))) from (fr_sF rfl (fr_sF rfl (fr_sF rfl (fr_tr rfl fr_rf hF8))))) rfl
  have n17h : ((sF (sF (sF s8 46 2 (Int32.ofInt 0)) 46 6 (Int32.ofInt (-1))) 46 7 (Int32.ofInt (-1))).2.2.1 46 6).toInt = -1 ∧ ((sF (sF (sF s8 46 2 (Int32.ofInt 0)) 46 6 (Int32.ofInt (-1))) 46 7 (Int32.ofInt (-1))).2.2.1 46 7).toInt = -1 := by exact ⟨by rw [← (show (Int32.ofInt (-1)) = (sF (sF (sF s8 46 2 (Int32.ofInt 0)) 46 6 (Int32.ofInt (-1))) 46 7 (Int32.ofInt (-1))).2.2.1 46 6 from sF_ne rfl (sF_get))]; rfl, by rw [← (show (Int32.ofInt (-1)) = (sF (sF (sF s8 46 2 (Int32.ofInt 0)) 46 6 (Int32.ofInt (-1))) 46 7 (Int32.ofInt (-1))).2.2.1 46 7 from sF_get)]; rfl⟩
  have n17i : LGS s (sF (sF (sF s8 46 2 (Int32.ofInt 0)) 46 6 (Int32.ofInt (-1))) 46 7 (Int32.ofInt (-1))) ((Int32.ofInt 0)).toInt.toNat := by exact lgs_0 (gvC_cg (show Fr ([17, 18, 19, 20, 21, 22], [], [(16, 0), (16, 1), (16, 2), (16, 3), (16, 4), (46, 2), (46, 6), (46, 7)], []) s (sF (sF (sF s8 46 2 (Int32.ofInt 0)) 46 6 (Int32.ofInt (-1))) 46 7 (Int32.ofInt (-1))) from (fr_sF rfl (fr_sF rfl (fr_sF rfl (fr_tr rfl fr_rf hF8))))) rfl) ((show Fr ([17, 18, 19, 20, 21, 22], [], [(16, 0), (16, 1), (16, 2), (16, 3), (16, 4), (46, 2), (46, 6), (46, 7)], []) s (sF (sF (sF s8 46 2 (Int32.ofInt 0)) 46 6 (Int32.ofInt (-1))) 46 7 (Int32.ofInt (-1))) from (fr_sF rfl (fr_sF rfl (fr_sF rfl (fr_tr rfl fr_rf hF8))))).1 30 rfl)
  exact gg_w (by omega) (gg_f (gf_cons rfl (gf_cons rfl (gf_cons rfl gf_nil))) (ct17 2002 (sF (sF (sF s8 46 2 (Int32.ofInt 0)) 46 6 (Int32.ofInt (-1))) 46 7 (Int32.ofInt (-1))) (A 30) (lgC s) (lgS s) (Int32.ofInt 0) (Int32.ofInt 0) u_2_0 u_2_1 u_30_0 hI12x12 (fr_sF rfl (fr_sF rfl (fr_sF rfl (fr_tr rfl fr_rf hF8)))) hr17 hr17a (in_w 0 2001 (in_c 0 rfl) rfl) v17 v17a v17b v17c n17 n17a n17b n17c n17d n17e n17f n17g n17h n17i (m_in 2002 (in_w 0 2001 (in_c 0 rfl) rfl) rfl)))

theorem oc_225_0 : (Int32.ofInt (-1)).toInt = (-1) ∧ (Int32.ofInt 0).toInt = 0 ∧ (Int32.ofInt 1).toInt = 1 := ⟨rfl, rfl, rfl⟩
/-- GraphHouse.load -/
theorem f_225_0 {Z : AmZ} {A : Nat → Nat} {s : GS} {ex : va_W} {d : Nat} {X : AmX} {u_2_0 : Int32} {u_2_1 : Int32} {u_30_0 : Int32} (hd : 11 ≤ d) (hI : Inv s) (e_2_0 : u_2_0 = s.2.2.1 2 0) (e_2_1 : u_2_1 = s.2.2.1 2 1) (e_30_0 : u_30_0 = s.2.2.1 30 0) (q_0 : KL s) (q_1 : TQ s) : GC Z d 225 [.ref (A 0)] (WW Z A s ++ ex) 3943 83130 (fun v u => ∃ a : Nat, ∃ t : GS, Inv t ∧ Fr fm_225_0 s t ∧ ∃ z : Int32, v = some (.int z) ∧ u = WW Z (ax A 30 a) t ++ ex ∧ In z (-4) 1000 ∧ (KL t) ∧ (((z).toInt ≠ -4 → LOT (s.1 47) (s.2.2.1 46 1).toInt.toNat (gvC s) (z).toInt 0 0 (gvC t) ∧ (t.2.2.1 46 6).toInt = -1 ∧ (t.2.2.1 46 7).toInt = -1) ∧ ((z).toInt = -4 → LOT (s.1 47) (s.2.2.1 46 1).toInt.toNat (gvC s) (-4) (t.2.2.1 46 6).toInt (t.2.2.1 46 7).toInt (gvC t)) ∧ TQ t) ∧ (LCO s t z)) X := by
  intro post xp hP hX
  refine g_enter2 (k := 225) (N := 900) (by omega) rfl (Nat.le_of_ble_eq_true rfl) ?_
  refine g_aload_n 1 (gd rfl) rfl rfl ?_
  refine g_getA (q2 := 1) 4 (gd rfl) rfl rfl rfl rfl ?_
  refine g_aload_n 5 (gd rfl) rfl rfl ?_
  refine g_getA (q2 := 46) 8 (gd rfl) rfl rfl rfl rfl ?_
  have p8 : KL s := by exact q_0
  have p8a : TQ s := by exact q_1
  refine g_callv (X := _) (As := [.ref (A 46)]) (r := []) (b := A 1) (q := 1) 11 (gd rfl) rfl rfl rfl rfl rfl (ww_o rfl) (Nat.le_of_ble_eq_true rfl) (Nat.le_trans (lgC_le (inv_F hI 448 28000 (q := 30) (j := 0) rfl rfl)) (Nat.le_of_ble_eq_true rfl)) (Nat.le_trans (lgS_le (inv_F hI 448 28000 (q := 30) (j := 0) rfl rfl)) (Nat.le_of_ble_eq_true rfl)) (f_135_1_46 (by omega) hI e_2_0 e_2_1 e_30_0 rfl p8 p8a) (fun e u h => h) (fun v u h => ?_)
  obtain ⟨a8, s8, hI8, hF8, z8, rfl, rfl, i8, p8b, p8c, p8d, p8e, p8f⟩ := h
  show GG _ _ _ _ _ _ _ _ [.int z8] _ _ _
  have n11 : KL s8 := by exact p8b
  have n11a : ((z8).toInt ≠ -4 → LOT (s.1 47) (s.2.2.1 46 1).toInt.toNat (gvC s) (z8).toInt 0 0 (gvC s8) ∧ (s8.2.2.1 46 6).toInt = -1 ∧ (s8.2.2.1 46 7).toInt = -1) ∧ ((z8).toInt = -4 → LOT (s.1 47) (s.2.2.1 46 1).toInt.toNat (gvC s) (-4) (s8.2.2.1 46 6).toInt (s8.2.2.1 46 7).toInt (gvC s8)) ∧ TQ s8 := by exact ⟨p8c, p8d, p8e⟩
  have n11b : LCO s s8 z8 := by exact p8f
  exact g_ireturn (gd rfl) rfl rfl (hP _ _ ⟨a8, s8, hI8, (fr_tr rfl fr_rf hF8), z8, rfl, rfl, in_w (-4) 1000 i8 rfl, n11, n11a, n11b⟩)

theorem oc_220_0 : (Int32.ofInt (-1)).toInt = (-1) ∧ (Int32.ofInt 0).toInt = 0 ∧ (Int32.ofInt 1).toInt = 1 ∧ (Int32.ofInt 2).toInt = 2 ∧ (Int32.ofInt 4).toInt = 4 ∧ (Int32.ofInt 160).toInt = 160 ∧ (Int64.ofInt 9000000000000000).toInt = 9000000000000000 := ⟨rfl, rfl, rfl, rfl, rfl, rfl, rfl⟩
/-- GraphHouse.told -/
theorem f_220_0 {Z : AmZ} {A : Nat → Nat} {s : GS} {ex : va_W} {d : Nat} {x1 : Int32} {x2 : Int32} {u_2_3 : Int32} {u_32_3 : Int32} (hd : 7 ≤ d) (hI : Inv s) (e_2_3 : u_2_3 = s.2.2.1 2 3) (e_32_3 : u_32_3 = s.2.2.1 32 3) (q_0 : TQ s) (q_1 : TQD s) : GC Z d 220 [.ref (A 0), .int x1, .int x2] (WW Z A s ++ ex) 3 18 (fun v u => ∃ t : GS, Inv t ∧ Fr fm_220_0 s t ∧ ∃ z : Int64, v = some (.long z) ∧ u = WW Z A t ++ ex ∧ ((In x1 0 159 ∧ In x2 0 4) ∧ (z).toInt = TLV (shC s) x1.toNatClampNeg x2.toInt)) (gEx Z A ex fm_220_0 s (¬ (In x1 0 159 ∧ In x2 0 4)) (False)) := by
  intro post xp hP hX
  obtain ⟨u_0_2, e_0_2⟩ : ∃ w, w = s.2.2.1 0 2 := ⟨_, rfl⟩
  have ro_0_2 := inv_F hI (-1) 4000 rfl e_0_2
  have ro_2_3 := inv_F hI 0 160 rfl e_2_3
  have ro_32_3 := inv_F hI 0 160 rfl e_32_3
  refine g_enter2 (k := 220) (N := 900) (by omega) rfl (Nat.le_of_ble_eq_true rfl) ?_
  refine g_iload_n 1 (gd rfl) rfl rfl ?_
  refine g_if_lt 4 24 (gd rfl) rfl rfl (fun c1 => ?_) (fun c1 => ?_)
  · skip
    have i1 := z_lt (-2147483648) (-1) c1 (i_rng x1) rfl
    refine g_iconst 0 25 (gd rfl) rfl rfl ?_
    refine g_thr (E := am_IA) (y := yX11_allow) 28 (gd rfl) rfl rfl (Or.inl ⟨rfl, rfl, rfl⟩) (by omega) (Nat.le_of_ble_eq_true rfl) (Nat.le_of_ble_eq_true rfl) (Nat.le_of_ble_eq_true rfl) (fun c25 => ?_) (fun c25 => ?_)
    · skip
      exact zn_ne c25 (in_c 0 rfl) rfl
    · skip
      have n25 : ¬ (In x1 0 159 ∧ In x2 0 4) := by unfold In; have a0 := ro_0_2; unfold In at a0; have a1 := (inv_F hI 0 160 rfl e_32_3); unfold In at a1; have a2 := (inv_F hI 0 160 rfl e_2_3); unfold In at a2; have a3 := i1; unfold In at a3; have oc := oc_220_0; omega
      exact (hX _ _ ⟨Or.inl ⟨rfl, n25⟩, s, hI, fr_rf, rfl⟩)
  · skip
    have i1 := z_ge 0 2147483647 c1 (i_rng x1) rfl
    refine g_iload_n 5 (gd rfl) rfl rfl ?_
    refine g_sipush 160 8 (gd rfl) rfl rfl ?_
    refine g_cmp_ge 11 24 (gd rfl) rfl rfl (fun c8 => ?_) (fun c8 => ?_)
    · skip
      have i8 := r_le2 160 2147483647 c8 (in_c 160 rfl) i1 rfl
      refine g_iconst 0 25 (gd rfl) rfl rfl ?_
      refine g_thr (E := am_IA) (y := yX11_allow) 28 (gd rfl) rfl rfl (Or.inl ⟨rfl, rfl, rfl⟩) (by omega) (Nat.le_of_ble_eq_true rfl) (Nat.le_of_ble_eq_true rfl) (Nat.le_of_ble_eq_true rfl) (fun c25 => ?_) (fun c25 => ?_)
      · skip
        exact zn_ne c25 (in_c 0 rfl) rfl
      · skip
        have n25 : ¬ (In x1 0 159 ∧ In x2 0 4) := by unfold In; have a0 := ro_0_2; unfold In at a0; have a1 := (inv_F hI 0 160 rfl e_32_3); unfold In at a1; have a2 := (inv_F hI 0 160 rfl e_2_3); unfold In at a2; have a3 := i8; unfold In at a3; have oc := oc_220_0; omega
        exact (hX _ _ ⟨Or.inl ⟨rfl, n25⟩, s, hI, fr_rf, rfl⟩)
    · skip
      have i8 := r_lt1 0 159 c8 i1 (in_c 160 rfl) rfl
      refine g_iload_n 12 (gd rfl) rfl rfl ?_
      refine g_if_lt 15 24 (gd rfl) rfl rfl (fun c12 => ?_) (fun c12 => ?_)
      · skip
        have i12 := z_lt (-2147483648) (-1) c12 (i_rng x2) rfl
        refine g_iconst 0 25 (gd rfl) rfl rfl ?_
        refine g_thr (E := am_IA) (y := yX11_allow) 28 (gd rfl) rfl rfl (Or.inl ⟨rfl, rfl, rfl⟩) (by omega) (Nat.le_of_ble_eq_true rfl) (Nat.le_of_ble_eq_true rfl) (Nat.le_of_ble_eq_true rfl) (fun c25 => ?_) (fun c25 => ?_)
        · skip
          exact zn_ne c25 (in_c 0 rfl) rfl
        · skip
          have n25 : ¬ (In x1 0 159 ∧ In x2 0 4) := by unfold In; have a0 := i8; unfold In at a0; have a1 := ro_0_2; unfold In at a1; have a2 := (inv_F hI 0 160 rfl e_32_3); unfold In at a2; have a3 := (inv_F hI 0 160 rfl e_2_3); unfold In at a3; have a4 := i12; unfold In at a4; have oc := oc_220_0; omega
          exact (hX _ _ ⟨Or.inl ⟨rfl, n25⟩, s, hI, fr_rf, rfl⟩)
      · skip
        have i12 := z_ge 0 2147483647 c12 (i_rng x2) rfl
        refine g_iload_n 16 (gd rfl) rfl rfl ?_
        refine g_iconst 4 17 (gd rfl) rfl rfl ?_
        refine g_cmp_gt 20 24 (gd rfl) rfl rfl (fun c17 => ?_) (fun c17 => ?_)
        · skip
          have i17 := r_lt2 5 2147483647 c17 (in_c 4 rfl) i12 rfl
          refine g_iconst 0 25 (gd rfl) rfl rfl ?_
          refine g_thr (E := am_IA) (y := yX11_allow) 28 (gd rfl) rfl rfl (Or.inl ⟨rfl, rfl, rfl⟩) (by omega) (Nat.le_of_ble_eq_true rfl) (Nat.le_of_ble_eq_true rfl) (Nat.le_of_ble_eq_true rfl) (fun c25 => ?_) (fun c25 => ?_)
          · skip
            exact zn_ne c25 (in_c 0 rfl) rfl
          · skip
            have n25 : ¬ (In x1 0 159 ∧ In x2 0 4) := by unfold In; have a0 := i8; unfold In at a0; have a1 := ro_0_2; unfold In at a1; have a2 := (inv_F hI 0 160 rfl e_32_3); unfold In at a2; have a3 := (inv_F hI 0 160 rfl e_2_3); unfold In at a3; have a4 := i17; unfold In at a4; have oc := oc_220_0; omega
            exact (hX _ _ ⟨Or.inl ⟨rfl, n25⟩, s, hI, fr_rf, rfl⟩)
        · skip
          have i17 := r_le1 0 4 c17 i12 (in_c 4 rfl) rfl
          refine g_iconst 1 21 (gd rfl) rfl rfl ?_
          refine g_goto 25 (gd rfl) rfl ?_
          refine g_thr (E := am_IA) (y := yX11_allow) 28 (gd rfl) rfl rfl (Or.inl ⟨rfl, rfl, rfl⟩) (by omega) (Nat.le_of_ble_eq_true rfl) (Nat.le_of_ble_eq_true rfl) (Nat.le_of_ble_eq_true rfl) (fun c25 => ?_) (fun c25 => ?_)
          · skip
            refine g_aload_n 29 (gd rfl) rfl rfl ?_
            refine g_callv (X := _) (As := []) (r := []) (b := A 0) (q := 0) 32 (gd rfl) rfl rfl rfl rfl rfl (ww_o rfl) (Nat.le_of_ble_eq_true rfl) (mc := 0) (ms := 0) (Nat.zero_le _) (Nat.zero_le _) (P := fun v u => _) ?_ (fun e u h => h) (fun v u h => h)
            intro po29 xx29 hp29 hx29
            refine g_enter2 (k := 259) (N := 300) (by omega) rfl (Nat.le_of_ble_eq_true rfl) ?_
            refine g_aload_n 1 (gd rfl) rfl rfl ?_
            refine g_getI 4 (gd rfl) rfl rfl rfl (fun z29x1 e29x1 => ?_)
            have q29x1 : u_0_2 = z29x1 := (e_0_2).trans e29x1.symm
            subst q29x1
            refine g_iconst (-1) 5 (gd rfl) rfl rfl ?_
            refine g_cmp_ne 8 18 (gd rfl) rfl rfl (fun c29x5 => ?_) (fun c29x5 => ?_)
            · skip
              have i29x5 := r_ne1 0 4000 c29x5 ro_0_2 (in_c (-1) rfl) rfl
              refine g_aload_n 19 (gd rfl) rfl rfl ?_
              refine g_getA (q2 := 32) 22 (gd rfl) rfl rfl rfl rfl ?_
              refine g_areturn (gd rfl) rfl (hp29 _ _ ?_)
              show GG _ _ _ _ _ _ _ _ [.ref (A 32)] _ _ _
              refine g_astore_n 33 (gd rfl) rfl (Nat.le_of_ble_eq_true rfl) ?_
              refine g_aload_n 34 (gd rfl) rfl rfl ?_
              refine g_iload_n 35 (gd rfl) rfl rfl ?_
              refine g_callv (X := _) (As := [.int x1]) (r := []) (b := A 32) (q := 32) 38 (gd rfl) rfl rfl rfl rfl rfl (ww_o rfl) (Nat.le_of_ble_eq_true rfl) (mc := 0) (ms := 0) (Nat.zero_le _) (Nat.zero_le _) (P := fun v u => _) ?_ (fun e u h => h) (fun v u h => h)
              intro po35 xx35 hp35 hx35
              refine g_enter2 (k := 96) (N := 300) (by omega) rfl (Nat.le_of_ble_eq_true rfl) ?_
              refine g_iload_n 1 (gd rfl) rfl rfl ?_
              refine g_if_lt 4 26 (gd rfl) rfl rfl (fun c35x1 => ?_) (fun c35x1 => ?_)
              · skip
                exact zn_lt c35x1 i8 rfl
              · skip
                refine g_iload_n 5 (gd rfl) rfl rfl ?_
                refine g_aload_n 6 (gd rfl) rfl rfl ?_
                refine g_getI 9 (gd rfl) rfl rfl rfl (fun z35x6 e35x6 => ?_)
                have q35x6 : u_32_3 = z35x6 := (e_32_3).trans e35x6.symm
                subst q35x6
                refine g_cmp_ge 12 26 (gd rfl) rfl rfl (fun c35x9 => ?_) (fun c35x9 => ?_)
                · skip
                  have i35x9 := r_le1 0 159 c35x9 (inv_F hI 0 160 rfl e_32_3) i8 rfl
                  refine g_iconst 0 27 (gd rfl) rfl rfl ?_
                  refine g_ireturn (gd rfl) rfl (nb01 (in_w 0 1 (in_c 0 rfl) rfl)) (hp35 _ _ ?_)
                  show GG _ _ _ _ _ _ _ _ [.int (Int32.ofInt 0)] _ _ _
                  refine g_if_ne 41 45 (gd rfl) rfl rfl (fun c38 => ?_) (fun c38 => ?_)
                  · skip
                    exact zn_ne c38 (in_c 0 rfl) rfl
                  · skip
                    refine g_ldc2_w 9000000000000000 44 (gd rfl) rfl rfl ?_
                    have n44 : (In x1 0 159 ∧ In x2 0 4) ∧ ((Int64.ofInt 9000000000000000)).toInt = TLV (shC s) x1.toNatClampNeg x2.toInt := by exact ⟨⟨⟨by have a0 := i17; unfold In at a0; have a1 := i8; unfold In at a1; have a2 := i29x5; unfold In at a2; have a3 := i35x9; unfold In at a3; have a4 := (inv_F hI 0 160 rfl e_2_3); unfold In at a4; have oc := oc_220_0; omega, by have a0 := i17; unfold In at a0; have a1 := i8; unfold In at a1; have a2 := i29x5; unfold In at a2; have a3 := i35x9; unfold In at a3; have a4 := (inv_F hI 0 160 rfl e_2_3); unfold In at a4; have oc := oc_220_0; omega⟩, ⟨by have a0 := i17; unfold In at a0; have a1 := i8; unfold In at a1; have a2 := i29x5; unfold In at a2; have a3 := i35x9; unfold In at a3; have a4 := (inv_F hI 0 160 rfl e_2_3); unfold In at a4; have oc := oc_220_0; omega, by have a0 := i17; unfold In at a0; have a1 := i8; unfold In at a1; have a2 := i29x5; unfold In at a2; have a3 := i35x9; unfold In at a3; have a4 := (inv_F hI 0 160 rfl e_2_3); unfold In at a4; have oc := oc_220_0; omega⟩⟩, by first | (rw [shC_n (by rw [← e29x1]; exact c29x5)]; exact tlv_no (by have hq := q_0 x1.toNatClampNeg (by show x1.toInt.toNat < 160; have a0 := i17; unfold In at a0; have a1 := i8; unfold In at a1; have a2 := i29x5; unfold In at a2; have a3 := i35x9; unfold In at a3; have a4 := (inv_F hI 0 160 rfl e_2_3); unfold In at a4; have oc := oc_220_0; omega); have e6 : x1.toNatClampNeg = x1.toInt.toNat := rfl; rw [← e_2_3] at hq; show (s.1 4 x1.toNatClampNeg).toInt = -1; exact Classical.byContradiction fun hn => (by have h9 := hq hn; have a0 := i17; unfold In at a0; have a1 := i8; unfold In at a1; have a2 := i29x5; unfold In at a2; have a3 := i35x9; unfold In at a3; have a4 := (inv_F hI 0 160 rfl e_2_3); unfold In at a4; have oc := oc_220_0; omega)) (by decide)) | (rw [shC_d (by rw [← e29x1]; exact c29x5)]; exact tlv_no (by have hq := q_1 x1.toNatClampNeg (by show x1.toInt.toNat < 160; have a0 := i17; unfold In at a0; have a1 := i8; unfold In at a1; have a2 := i29x5; unfold In at a2; have a3 := i35x9; unfold In at a3; have a4 := (inv_F hI 0 160 rfl e_2_3); unfold In at a4; have oc := oc_220_0; omega); have e6 : x1.toNatClampNeg = x1.toInt.toNat := rfl; rw [← e_32_3] at hq; show (s.1 34 x1.toNatClampNeg).toInt = -1; exact Classical.byContradiction fun hn => (by have h9 := hq hn; have a0 := i17; unfold In at a0; have a1 := i8; unfold In at a1; have a2 := i29x5; unfold In at a2; have a3 := i35x9; unfold In at a3; have a4 := (inv_F hI 0 160 rfl e_2_3); unfold In at a4; have oc := oc_220_0; omega)) (by decide))⟩
                    exact g_lreturn (gd rfl) rfl (hP _ _ ⟨s, hI, fr_rf, (Int64.ofInt 9000000000000000), rfl, rfl, n44⟩)
                · skip
                  have i35x9 := r_lt2 1 160 c35x9 i8 (inv_F hI 0 160 rfl e_32_3) rfl
                  refine g_aload_n 13 (gd rfl) rfl rfl ?_
                  refine g_getA (q2 := 34) 16 (gd rfl) rfl rfl rfl rfl ?_
                  refine g_iload_n 17 (gd rfl) rfl rfl ?_
                  refine g_iaload 18 (gd rfl) rfl (n := 160) rfl (in_ix i8 rfl) (fun z35x17 e35x17 => ?_)
                  have i35x17 := inv_I hI (n := 160) (t := 0) (-1) 31 rfl (in_ix i8 rfl) rfl e35x17
                  refine g_iconst (-1) 19 (gd rfl) rfl rfl ?_
                  refine g_cmp_eq 22 26 (gd rfl) rfl rfl (fun c35x19 => ?_) (fun c35x19 => ?_)
                  · skip
                    have i35x19 := r_eq1 (-1) (-1) c35x19 i35x17 (in_c (-1) rfl) rfl
                    refine g_iconst 0 27 (gd rfl) rfl rfl ?_
                    refine g_ireturn (gd rfl) rfl (nb01 (in_w 0 1 (in_c 0 rfl) rfl)) (hp35 _ _ ?_)
                    show GG _ _ _ _ _ _ _ _ [.int (Int32.ofInt 0)] _ _ _
                    refine g_if_ne 41 45 (gd rfl) rfl rfl (fun c38 => ?_) (fun c38 => ?_)
                    · skip
                      exact zn_ne c38 (in_c 0 rfl) rfl
                    · skip
                      refine g_ldc2_w 9000000000000000 44 (gd rfl) rfl rfl ?_
                      have n44 : (In x1 0 159 ∧ In x2 0 4) ∧ ((Int64.ofInt 9000000000000000)).toInt = TLV (shC s) x1.toNatClampNeg x2.toInt := by exact ⟨⟨⟨by have a0 := i17; unfold In at a0; have a1 := i8; unfold In at a1; have a2 := i29x5; unfold In at a2; have a3 := i35x9; unfold In at a3; have a4 := (inv_F hI 0 160 rfl e_2_3); unfold In at a4; have oc := oc_220_0; omega, by have a0 := i17; unfold In at a0; have a1 := i8; unfold In at a1; have a2 := i29x5; unfold In at a2; have a3 := i35x9; unfold In at a3; have a4 := (inv_F hI 0 160 rfl e_2_3); unfold In at a4; have oc := oc_220_0; omega⟩, ⟨by have a0 := i17; unfold In at a0; have a1 := i8; unfold In at a1; have a2 := i29x5; unfold In at a2; have a3 := i35x9; unfold In at a3; have a4 := (inv_F hI 0 160 rfl e_2_3); unfold In at a4; have oc := oc_220_0; omega, by have a0 := i17; unfold In at a0; have a1 := i8; unfold In at a1; have a2 := i29x5; unfold In at a2; have a3 := i35x9; unfold In at a3; have a4 := (inv_F hI 0 160 rfl e_2_3); unfold In at a4; have oc := oc_220_0; omega⟩⟩, by first | (rw [shC_n (by rw [← e29x1]; exact c29x5)]; exact tlv_no (tl_eq e35x17 (by have a0 := i17; unfold In at a0; have a1 := i8; unfold In at a1; have a2 := i29x5; unfold In at a2; have a3 := i35x9; unfold In at a3; have a4 := (inv_F hI 0 160 rfl e_2_3); unfold In at a4; have oc := oc_220_0; omega)) (by decide)) | (rw [shC_d (by rw [← e29x1]; exact c29x5)]; exact tlv_no (tl_eq e35x17 (by have a0 := i17; unfold In at a0; have a1 := i8; unfold In at a1; have a2 := i29x5; unfold In at a2; have a3 := i35x9; unfold In at a3; have a4 := (inv_F hI 0 160 rfl e_2_3); unfold In at a4; have oc := oc_220_0; omega)) (by decide))⟩
                      exact g_lreturn (gd rfl) rfl (hP _ _ ⟨s, hI, fr_rf, (Int64.ofInt 9000000000000000), rfl, rfl, n44⟩)
                  · skip
                    have i35x19 := r_ne1 0 31 c35x19 i35x17 (in_c (-1) rfl) rfl
                    refine g_iconst 1 23 (gd rfl) rfl rfl ?_
                    refine g_goto 27 (gd rfl) rfl ?_
                    refine g_ireturn (gd rfl) rfl (nb01 (in_w 0 1 (in_c 1 rfl) rfl)) (hp35 _ _ ?_)
                    show GG _ _ _ _ _ _ _ _ [.int (Int32.ofInt 1)] _ _ _
                    refine g_if_ne 41 45 (gd rfl) rfl rfl (fun c38 => ?_) (fun c38 => ?_)
                    · skip
                      refine g_iload_n 46 (gd rfl) rfl rfl ?_
                      refine g_if_ne 49 57 (gd rfl) rfl rfl (fun c46 => ?_) (fun c46 => ?_)
                      · skip
                        have i46 := z_ne 1 4 c46 i17 rfl
                        refine g_iload_n 58 (gd rfl) rfl rfl ?_
                        refine g_iconst 1 59 (gd rfl) rfl rfl ?_
                        refine g_cmp_ne 62 72 (gd rfl) rfl rfl (fun c59 => ?_) (fun c59 => ?_)
                        · skip
                          have i59 := r_ne1 2 4 c59 i46 (in_c 1 rfl) rfl
                          refine g_aload_n 73 (gd rfl) rfl rfl ?_
                          refine g_iload_n 74 (gd rfl) rfl rfl ?_
                          refine g_iload_n 75 (gd rfl) rfl rfl ?_
                          refine g_iconst 2 76 (gd rfl) rfl rfl ?_
                          refine g_isub 77 (gd rfl) rfl (fun z76 e76 => ?_)
                          have i76 := in_sub 0 2 e76 i59 (in_c 2 rfl) rfl rfl
                          refine g_callv (X := _) (As := [.int x1, .int z76]) (r := []) (b := A 32) (q := 32) 80 (gd rfl) rfl rfl rfl rfl rfl (ww_o rfl) (Nat.le_of_ble_eq_true rfl) (mc := 0) (ms := 0) (Nat.zero_le _) (Nat.zero_le _) (P := fun v u => _) ?_ (fun e u h => h) (fun v u h => h)
                          intro po77 xx77 hp77 hx77
                          refine g_enter2 (k := 100) (N := 300) (by omega) rfl (Nat.le_of_ble_eq_true rfl) ?_
                          refine g_iload_n 1 (gd rfl) rfl rfl ?_
                          refine g_if_ne 4 11 (gd rfl) rfl rfl (fun c77x1 => ?_) (fun c77x1 => ?_)
                          · skip
                            have i77x1 := z_ne 1 2 c77x1 i76 rfl
                            refine g_iload_n 12 (gd rfl) rfl rfl ?_
                            refine g_iconst 1 13 (gd rfl) rfl rfl ?_
                            refine g_cmp_ne 16 25 (gd rfl) rfl rfl (fun c77x13 => ?_) (fun c77x13 => ?_)
                            · skip
                              have i77x13 := r_ne1 2 2 c77x13 i77x1 (in_c 1 rfl) rfl
                              refine g_aload_n 26 (gd rfl) rfl rfl ?_
                              refine g_getA (q2 := 38) 29 (gd rfl) rfl rfl rfl rfl ?_
                              refine g_iload_n 30 (gd rfl) rfl rfl ?_
                              refine g_iaload 31 (gd rfl) rfl (n := 160) rfl (in_ix i8 rfl) (fun z77x30 e77x30 => ?_)
                              have i77x30 := inv_I hI (n := 160) (t := 0) 0 25 rfl (in_ix i8 rfl) rfl e77x30
                              refine g_ireturn (gd rfl) rfl rfl (hp77 _ _ ?_)
                              show GG _ _ _ _ _ _ _ _ [.int z77x30] _ _ _
                              refine g_i2l 81 (gd rfl) rfl (fun z80 e80 => ?_)
                              have i80 := l_i e80 i77x30
                              have n81 : (In x1 0 159 ∧ In x2 0 4) ∧ (z80).toInt = TLV (shC s) x1.toNatClampNeg x2.toInt := by exact ⟨⟨⟨by have a0 := i59; unfold In at a0; have a1 := i8; unfold In at a1; have a2 := i29x5; unfold In at a2; have a3 := i35x9; unfold In at a3; have a4 := (inv_F hI 0 160 rfl e_2_3); unfold In at a4; have a5 := tx_i2l e80; have a6 := i77x30; unfold In at a6; have a7 := i77x13; unfold In at a7; have a8 := t_sub e76 i59 (in_c 2 rfl) rfl; have a9 := (in_c 2 rfl); unfold In at a9; have oc := oc_220_0; omega, by have a0 := i59; unfold In at a0; have a1 := i8; unfold In at a1; have a2 := i29x5; unfold In at a2; have a3 := i35x9; unfold In at a3; have a4 := (inv_F hI 0 160 rfl e_2_3); unfold In at a4; have a5 := tx_i2l e80; have a6 := i77x30; unfold In at a6; have a7 := i77x13; unfold In at a7; have a8 := t_sub e76 i59 (in_c 2 rfl) rfl; have a9 := (in_c 2 rfl); unfold In at a9; have oc := oc_220_0; omega⟩, ⟨by have a0 := i59; unfold In at a0; have a1 := i8; unfold In at a1; have a2 := i29x5; unfold In at a2; have a3 := i35x9; unfold In at a3; have a4 := (inv_F hI 0 160 rfl e_2_3); unfold In at a4; have a5 := tx_i2l e80; have a6 := i77x30; unfold In at a6; have a7 := i77x13; unfold In at a7; have a8 := t_sub e76 i59 (in_c 2 rfl) rfl; have a9 := (in_c 2 rfl); unfold In at a9; have oc := oc_220_0; omega, by have a0 := i59; unfold In at a0; have a1 := i8; unfold In at a1; have a2 := i29x5; unfold In at a2; have a3 := i35x9; unfold In at a3; have a4 := (inv_F hI 0 160 rfl e_2_3); unfold In at a4; have a5 := tx_i2l e80; have a6 := i77x30; unfold In at a6; have a7 := i77x13; unfold In at a7; have a8 := t_sub e76 i59 (in_c 2 rfl) rfl; have a9 := (in_c 2 rfl); unfold In at a9; have oc := oc_220_0; omega⟩⟩, by first | (rw [shC_n (by rw [← e29x1]; exact c29x5)]; exact tlv_4 (tl_ne e35x17 (by have a0 := i59; unfold In at a0; have a1 := i8; unfold In at a1; have a2 := i29x5; unfold In at a2; have a3 := i35x9; unfold In at a3; have a4 := (inv_F hI 0 160 rfl e_2_3); unfold In at a4; have a5 := tx_i2l e80; have a6 := i77x30; unfold In at a6; have a7 := i77x13; unfold In at a7; have a8 := t_sub e76 i59 (in_c 2 rfl) rfl; have a9 := (in_c 2 rfl); unfold In at a9; have oc := oc_220_0; omega)) (by have a0 := i59; unfold In at a0; have a1 := i8; unfold In at a1; have a2 := i29x5; unfold In at a2; have a3 := i35x9; unfold In at a3; have a4 := (inv_F hI 0 160 rfl e_2_3); unfold In at a4; have a5 := tx_i2l e80; have a6 := i77x30; unfold In at a6; have a7 := i77x13; unfold In at a7; have a8 := t_sub e76 i59 (in_c 2 rfl) rfl; have a9 := (in_c 2 rfl); unfold In at a9; have oc := oc_220_0; omega) e77x30 (tx_i2l e80)) | (rw [shC_d (by rw [← e29x1]; exact c29x5)]; exact tlv_4 (tl_ne e35x17 (by have a0 := i59; unfold In at a0; have a1 := i8; unfold In at a1; have a2 := i29x5; unfold In at a2; have a3 := i35x9; unfold In at a3; have a4 := (inv_F hI 0 160 rfl e_2_3); unfold In at a4; have a5 := tx_i2l e80; have a6 := i77x30; unfold In at a6; have a7 := i77x13; unfold In at a7; have a8 := t_sub e76 i59 (in_c 2 rfl) rfl; have a9 := (in_c 2 rfl); unfold In at a9; have oc := oc_220_0; omega)) (by have a0 := i59; unfold In at a0; have a1 := i8; unfold In at a1; have a2 := i29x5; unfold In at a2; have a3 := i35x9; unfold In at a3; have a4 := (inv_F hI 0 160 rfl e_2_3); unfold In at a4; have a5 := tx_i2l e80; have a6 := i77x30; unfold In at a6; have a7 := i77x13; unfold In at a7; have a8 := t_sub e76 i59 (in_c 2 rfl) rfl; have a9 := (in_c 2 rfl); unfold In at a9; have oc := oc_220_0; omega) e77x30 (tx_i2l e80))⟩
                              exact g_lreturn (gd rfl) rfl (hP _ _ ⟨s, hI, fr_rf, z80, rfl, rfl, n81⟩)
                            · skip
                              have i77x13 := r_eq1 1 1 c77x13 i77x1 (in_c 1 rfl) rfl
                              refine g_aload_n 17 (gd rfl) rfl rfl ?_
                              refine g_getA (q2 := 37) 20 (gd rfl) rfl rfl rfl rfl ?_
                              refine g_iload_n 21 (gd rfl) rfl rfl ?_
                              refine g_iaload 22 (gd rfl) rfl (n := 160) rfl (in_ix i8 rfl) (fun z77x21 e77x21 => ?_)
                              have i77x21 := inv_I hI (n := 160) (t := 0) 0 1000000 rfl (in_ix i8 rfl) rfl e77x21
                              refine g_goto 31 (gd rfl) rfl ?_
                              refine g_ireturn (gd rfl) rfl rfl (hp77 _ _ ?_)
                              show GG _ _ _ _ _ _ _ _ [.int z77x21] _ _ _
                              refine g_i2l 81 (gd rfl) rfl (fun z80 e80 => ?_)
                              have i80 := l_i e80 i77x21
                              have n81 : (In x1 0 159 ∧ In x2 0 4) ∧ (z80).toInt = TLV (shC s) x1.toNatClampNeg x2.toInt := by exact ⟨⟨⟨by have a0 := i59; unfold In at a0; have a1 := i8; unfold In at a1; have a2 := i29x5; unfold In at a2; have a3 := i35x9; unfold In at a3; have a4 := (inv_F hI 0 160 rfl e_2_3); unfold In at a4; have a5 := tx_i2l e80; have a6 := i77x21; unfold In at a6; have a7 := i77x13; unfold In at a7; have a8 := t_sub e76 i59 (in_c 2 rfl) rfl; have a9 := (in_c 2 rfl); unfold In at a9; have oc := oc_220_0; omega, by have a0 := i59; unfold In at a0; have a1 := i8; unfold In at a1; have a2 := i29x5; unfold In at a2; have a3 := i35x9; unfold In at a3; have a4 := (inv_F hI 0 160 rfl e_2_3); unfold In at a4; have a5 := tx_i2l e80; have a6 := i77x21; unfold In at a6; have a7 := i77x13; unfold In at a7; have a8 := t_sub e76 i59 (in_c 2 rfl) rfl; have a9 := (in_c 2 rfl); unfold In at a9; have oc := oc_220_0; omega⟩, ⟨by have a0 := i59; unfold In at a0; have a1 := i8; unfold In at a1; have a2 := i29x5; unfold In at a2; have a3 := i35x9; unfold In at a3; have a4 := (inv_F hI 0 160 rfl e_2_3); unfold In at a4; have a5 := tx_i2l e80; have a6 := i77x21; unfold In at a6; have a7 := i77x13; unfold In at a7; have a8 := t_sub e76 i59 (in_c 2 rfl) rfl; have a9 := (in_c 2 rfl); unfold In at a9; have oc := oc_220_0; omega, by have a0 := i59; unfold In at a0; have a1 := i8; unfold In at a1; have a2 := i29x5; unfold In at a2; have a3 := i35x9; unfold In at a3; have a4 := (inv_F hI 0 160 rfl e_2_3); unfold In at a4; have a5 := tx_i2l e80; have a6 := i77x21; unfold In at a6; have a7 := i77x13; unfold In at a7; have a8 := t_sub e76 i59 (in_c 2 rfl) rfl; have a9 := (in_c 2 rfl); unfold In at a9; have oc := oc_220_0; omega⟩⟩, by first | (rw [shC_n (by rw [← e29x1]; exact c29x5)]; exact tlv_3 (tl_ne e35x17 (by have a0 := i59; unfold In at a0; have a1 := i8; unfold In at a1; have a2 := i29x5; unfold In at a2; have a3 := i35x9; unfold In at a3; have a4 := (inv_F hI 0 160 rfl e_2_3); unfold In at a4; have a5 := tx_i2l e80; have a6 := i77x21; unfold In at a6; have a7 := i77x13; unfold In at a7; have a8 := t_sub e76 i59 (in_c 2 rfl) rfl; have a9 := (in_c 2 rfl); unfold In at a9; have oc := oc_220_0; omega)) (by have a0 := i59; unfold In at a0; have a1 := i8; unfold In at a1; have a2 := i29x5; unfold In at a2; have a3 := i35x9; unfold In at a3; have a4 := (inv_F hI 0 160 rfl e_2_3); unfold In at a4; have a5 := tx_i2l e80; have a6 := i77x21; unfold In at a6; have a7 := i77x13; unfold In at a7; have a8 := t_sub e76 i59 (in_c 2 rfl) rfl; have a9 := (in_c 2 rfl); unfold In at a9; have oc := oc_220_0; omega) e77x21 (tx_i2l e80)) | (rw [shC_d (by rw [← e29x1]; exact c29x5)]; exact tlv_3 (tl_ne e35x17 (by have a0 := i59; unfold In at a0; have a1 := i8; unfold In at a1; have a2 := i29x5; unfold In at a2; have a3 := i35x9; unfold In at a3; have a4 := (inv_F hI 0 160 rfl e_2_3); unfold In at a4; have a5 := tx_i2l e80; have a6 := i77x21; unfold In at a6; have a7 := i77x13; unfold In at a7; have a8 := t_sub e76 i59 (in_c 2 rfl) rfl; have a9 := (in_c 2 rfl); unfold In at a9; have oc := oc_220_0; omega)) (by have a0 := i59; unfold In at a0; have a1 := i8; unfold In at a1; have a2 := i29x5; unfold In at a2; have a3 := i35x9; unfold In at a3; have a4 := (inv_F hI 0 160 rfl e_2_3); unfold In at a4; have a5 := tx_i2l e80; have a6 := i77x21; unfold In at a6; have a7 := i77x13; unfold In at a7; have a8 := t_sub e76 i59 (in_c 2 rfl) rfl; have a9 := (in_c 2 rfl); unfold In at a9; have oc := oc_220_0; omega) e77x21 (tx_i2l e80))⟩
                              exact g_lreturn (gd rfl) rfl (hP _ _ ⟨s, hI, fr_rf, z80, rfl, rfl, n81⟩)
                          · skip
                            have i77x1 := z_eq 0 0 c77x1 i76 rfl
                            refine g_aload_n 5 (gd rfl) rfl rfl ?_
                            refine g_getA (q2 := 36) 8 (gd rfl) rfl rfl rfl rfl ?_
                            refine g_iload_n 9 (gd rfl) rfl rfl ?_
                            refine g_iaload 10 (gd rfl) rfl (n := 160) rfl (in_ix i8 rfl) (fun z77x9 e77x9 => ?_)
                            have i77x9 := inv_I hI (n := 160) (t := 0) (-1000000) 1000000 rfl (in_ix i8 rfl) rfl e77x9
                            refine g_ireturn (gd rfl) rfl rfl (hp77 _ _ ?_)
                            show GG _ _ _ _ _ _ _ _ [.int z77x9] _ _ _
                            refine g_i2l 81 (gd rfl) rfl (fun z80 e80 => ?_)
                            have i80 := l_i e80 i77x9
                            have n81 : (In x1 0 159 ∧ In x2 0 4) ∧ (z80).toInt = TLV (shC s) x1.toNatClampNeg x2.toInt := by exact ⟨⟨⟨by have a0 := i59; unfold In at a0; have a1 := i8; unfold In at a1; have a2 := i29x5; unfold In at a2; have a3 := i35x9; unfold In at a3; have a4 := (inv_F hI 0 160 rfl e_2_3); unfold In at a4; have a5 := tx_i2l e80; have a6 := i77x9; unfold In at a6; have a7 := i77x1; unfold In at a7; have a8 := t_sub e76 i59 (in_c 2 rfl) rfl; have a9 := (in_c 2 rfl); unfold In at a9; have oc := oc_220_0; omega, by have a0 := i59; unfold In at a0; have a1 := i8; unfold In at a1; have a2 := i29x5; unfold In at a2; have a3 := i35x9; unfold In at a3; have a4 := (inv_F hI 0 160 rfl e_2_3); unfold In at a4; have a5 := tx_i2l e80; have a6 := i77x9; unfold In at a6; have a7 := i77x1; unfold In at a7; have a8 := t_sub e76 i59 (in_c 2 rfl) rfl; have a9 := (in_c 2 rfl); unfold In at a9; have oc := oc_220_0; omega⟩, ⟨by have a0 := i59; unfold In at a0; have a1 := i8; unfold In at a1; have a2 := i29x5; unfold In at a2; have a3 := i35x9; unfold In at a3; have a4 := (inv_F hI 0 160 rfl e_2_3); unfold In at a4; have a5 := tx_i2l e80; have a6 := i77x9; unfold In at a6; have a7 := i77x1; unfold In at a7; have a8 := t_sub e76 i59 (in_c 2 rfl) rfl; have a9 := (in_c 2 rfl); unfold In at a9; have oc := oc_220_0; omega, by have a0 := i59; unfold In at a0; have a1 := i8; unfold In at a1; have a2 := i29x5; unfold In at a2; have a3 := i35x9; unfold In at a3; have a4 := (inv_F hI 0 160 rfl e_2_3); unfold In at a4; have a5 := tx_i2l e80; have a6 := i77x9; unfold In at a6; have a7 := i77x1; unfold In at a7; have a8 := t_sub e76 i59 (in_c 2 rfl) rfl; have a9 := (in_c 2 rfl); unfold In at a9; have oc := oc_220_0; omega⟩⟩, by first | (rw [shC_n (by rw [← e29x1]; exact c29x5)]; exact tlv_2 (tl_ne e35x17 (by have a0 := i59; unfold In at a0; have a1 := i8; unfold In at a1; have a2 := i29x5; unfold In at a2; have a3 := i35x9; unfold In at a3; have a4 := (inv_F hI 0 160 rfl e_2_3); unfold In at a4; have a5 := tx_i2l e80; have a6 := i77x9; unfold In at a6; have a7 := i77x1; unfold In at a7; have a8 := t_sub e76 i59 (in_c 2 rfl) rfl; have a9 := (in_c 2 rfl); unfold In at a9; have oc := oc_220_0; omega)) (by have a0 := i59; unfold In at a0; have a1 := i8; unfold In at a1; have a2 := i29x5; unfold In at a2; have a3 := i35x9; unfold In at a3; have a4 := (inv_F hI 0 160 rfl e_2_3); unfold In at a4; have a5 := tx_i2l e80; have a6 := i77x9; unfold In at a6; have a7 := i77x1; unfold In at a7; have a8 := t_sub e76 i59 (in_c 2 rfl) rfl; have a9 := (in_c 2 rfl); unfold In at a9; have oc := oc_220_0; omega) e77x9 (tx_i2l e80)) | (rw [shC_d (by rw [← e29x1]; exact c29x5)]; exact tlv_2 (tl_ne e35x17 (by have a0 := i59; unfold In at a0; have a1 := i8; unfold In at a1; have a2 := i29x5; unfold In at a2; have a3 := i35x9; unfold In at a3; have a4 := (inv_F hI 0 160 rfl e_2_3); unfold In at a4; have a5 := tx_i2l e80; have a6 := i77x9; unfold In at a6; have a7 := i77x1; unfold In at a7; have a8 := t_sub e76 i59 (in_c 2 rfl) rfl; have a9 := (in_c 2 rfl); unfold In at a9; have oc := oc_220_0; omega)) (by have a0 := i59; unfold In at a0; have a1 := i8; unfold In at a1; have a2 := i29x5; unfold In at a2; have a3 := i35x9; unfold In at a3; have a4 := (inv_F hI 0 160 rfl e_2_3); unfold In at a4; have a5 := tx_i2l e80; have a6 := i77x9; unfold In at a6; have a7 := i77x1; unfold In at a7; have a8 := t_sub e76 i59 (in_c 2 rfl) rfl; have a9 := (in_c 2 rfl); unfold In at a9; have oc := oc_220_0; omega) e77x9 (tx_i2l e80))⟩
                            exact g_lreturn (gd rfl) rfl (hP _ _ ⟨s, hI, fr_rf, z80, rfl, rfl, n81⟩)
                        · skip
                          have i59 := r_eq1 1 1 c59 i46 (in_c 1 rfl) rfl
                          refine g_aload_n 63 (gd rfl) rfl rfl ?_
                          refine g_getA (q2 := 35) 66 (gd rfl) rfl rfl rfl rfl ?_
                          refine g_iload_n 67 (gd rfl) rfl rfl ?_
                          refine g_iaload 68 (gd rfl) rfl (n := 160) rfl (in_ix i8 rfl) (fun z67 e67 => ?_)
                          have i67 := inv_I hI (n := 160) (t := 0) 0 31 rfl (in_ix i8 rfl) rfl e67
                          refine g_i2l 69 (gd rfl) rfl (fun z68 e68 => ?_)
                          have i68 := l_i e68 i67
                          refine g_goto 81 (gd rfl) rfl ?_
                          have n81 : (In x1 0 159 ∧ In x2 0 4) ∧ (z68).toInt = TLV (shC s) x1.toNatClampNeg x2.toInt := by exact ⟨⟨⟨by have a0 := i59; unfold In at a0; have a1 := i8; unfold In at a1; have a2 := i29x5; unfold In at a2; have a3 := i35x9; unfold In at a3; have a4 := (inv_F hI 0 160 rfl e_2_3); unfold In at a4; have a5 := tx_i2l e68; have a6 := i67; unfold In at a6; have oc := oc_220_0; omega, by have a0 := i59; unfold In at a0; have a1 := i8; unfold In at a1; have a2 := i29x5; unfold In at a2; have a3 := i35x9; unfold In at a3; have a4 := (inv_F hI 0 160 rfl e_2_3); unfold In at a4; have a5 := tx_i2l e68; have a6 := i67; unfold In at a6; have oc := oc_220_0; omega⟩, ⟨by have a0 := i59; unfold In at a0; have a1 := i8; unfold In at a1; have a2 := i29x5; unfold In at a2; have a3 := i35x9; unfold In at a3; have a4 := (inv_F hI 0 160 rfl e_2_3); unfold In at a4; have a5 := tx_i2l e68; have a6 := i67; unfold In at a6; have oc := oc_220_0; omega, by have a0 := i59; unfold In at a0; have a1 := i8; unfold In at a1; have a2 := i29x5; unfold In at a2; have a3 := i35x9; unfold In at a3; have a4 := (inv_F hI 0 160 rfl e_2_3); unfold In at a4; have a5 := tx_i2l e68; have a6 := i67; unfold In at a6; have oc := oc_220_0; omega⟩⟩, by first | (rw [shC_n (by rw [← e29x1]; exact c29x5)]; exact tlv_1 (tl_ne e35x17 (by have a0 := i59; unfold In at a0; have a1 := i8; unfold In at a1; have a2 := i29x5; unfold In at a2; have a3 := i35x9; unfold In at a3; have a4 := (inv_F hI 0 160 rfl e_2_3); unfold In at a4; have a5 := tx_i2l e68; have a6 := i67; unfold In at a6; have oc := oc_220_0; omega)) (by have a0 := i59; unfold In at a0; have a1 := i8; unfold In at a1; have a2 := i29x5; unfold In at a2; have a3 := i35x9; unfold In at a3; have a4 := (inv_F hI 0 160 rfl e_2_3); unfold In at a4; have a5 := tx_i2l e68; have a6 := i67; unfold In at a6; have oc := oc_220_0; omega) e67 (tx_i2l e68)) | (rw [shC_d (by rw [← e29x1]; exact c29x5)]; exact tlv_1 (tl_ne e35x17 (by have a0 := i59; unfold In at a0; have a1 := i8; unfold In at a1; have a2 := i29x5; unfold In at a2; have a3 := i35x9; unfold In at a3; have a4 := (inv_F hI 0 160 rfl e_2_3); unfold In at a4; have a5 := tx_i2l e68; have a6 := i67; unfold In at a6; have oc := oc_220_0; omega)) (by have a0 := i59; unfold In at a0; have a1 := i8; unfold In at a1; have a2 := i29x5; unfold In at a2; have a3 := i35x9; unfold In at a3; have a4 := (inv_F hI 0 160 rfl e_2_3); unfold In at a4; have a5 := tx_i2l e68; have a6 := i67; unfold In at a6; have oc := oc_220_0; omega) e67 (tx_i2l e68))⟩
                          exact g_lreturn (gd rfl) rfl (hP _ _ ⟨s, hI, fr_rf, z68, rfl, rfl, n81⟩)
                      · skip
                        have i46 := z_eq 0 0 c46 i17 rfl
                        refine g_aload_n 50 (gd rfl) rfl rfl ?_
                        refine g_getA (q2 := 34) 53 (gd rfl) rfl rfl rfl rfl ?_
                        refine g_iload_n 54 (gd rfl) rfl rfl ?_
                        refine g_iaload 55 (gd rfl) rfl (n := 160) rfl (in_ix i8 rfl) (fun z54 e54 => ?_)
                        have q54 : z35x17 = z54 := (e35x17).trans e54.symm
                        subst q54
                        refine g_i2l 56 (gd rfl) rfl (fun z55 e55 => ?_)
                        have i55 := l_i e55 i35x19
                        have n56 : (In x1 0 159 ∧ In x2 0 4) ∧ (z55).toInt = TLV (shC s) x1.toNatClampNeg x2.toInt := by exact ⟨⟨⟨by have a0 := i46; unfold In at a0; have a1 := i8; unfold In at a1; have a2 := i29x5; unfold In at a2; have a3 := i35x9; unfold In at a3; have a4 := (inv_F hI 0 160 rfl e_2_3); unfold In at a4; have a5 := tx_i2l e55; have a6 := i35x19; unfold In at a6; have oc := oc_220_0; omega, by have a0 := i46; unfold In at a0; have a1 := i8; unfold In at a1; have a2 := i29x5; unfold In at a2; have a3 := i35x9; unfold In at a3; have a4 := (inv_F hI 0 160 rfl e_2_3); unfold In at a4; have a5 := tx_i2l e55; have a6 := i35x19; unfold In at a6; have oc := oc_220_0; omega⟩, ⟨by have a0 := i46; unfold In at a0; have a1 := i8; unfold In at a1; have a2 := i29x5; unfold In at a2; have a3 := i35x9; unfold In at a3; have a4 := (inv_F hI 0 160 rfl e_2_3); unfold In at a4; have a5 := tx_i2l e55; have a6 := i35x19; unfold In at a6; have oc := oc_220_0; omega, by have a0 := i46; unfold In at a0; have a1 := i8; unfold In at a1; have a2 := i29x5; unfold In at a2; have a3 := i35x9; unfold In at a3; have a4 := (inv_F hI 0 160 rfl e_2_3); unfold In at a4; have a5 := tx_i2l e55; have a6 := i35x19; unfold In at a6; have oc := oc_220_0; omega⟩⟩, by first | (rw [shC_n (by rw [← e29x1]; exact c29x5)]; exact tlv_0 (tl_ne e35x17 (by have a0 := i46; unfold In at a0; have a1 := i8; unfold In at a1; have a2 := i29x5; unfold In at a2; have a3 := i35x9; unfold In at a3; have a4 := (inv_F hI 0 160 rfl e_2_3); unfold In at a4; have a5 := tx_i2l e55; have a6 := i35x19; unfold In at a6; have oc := oc_220_0; omega)) (by have a0 := i46; unfold In at a0; have a1 := i8; unfold In at a1; have a2 := i29x5; unfold In at a2; have a3 := i35x9; unfold In at a3; have a4 := (inv_F hI 0 160 rfl e_2_3); unfold In at a4; have a5 := tx_i2l e55; have a6 := i35x19; unfold In at a6; have oc := oc_220_0; omega) e35x17 (tx_i2l e55)) | (rw [shC_d (by rw [← e29x1]; exact c29x5)]; exact tlv_0 (tl_ne e35x17 (by have a0 := i46; unfold In at a0; have a1 := i8; unfold In at a1; have a2 := i29x5; unfold In at a2; have a3 := i35x9; unfold In at a3; have a4 := (inv_F hI 0 160 rfl e_2_3); unfold In at a4; have a5 := tx_i2l e55; have a6 := i35x19; unfold In at a6; have oc := oc_220_0; omega)) (by have a0 := i46; unfold In at a0; have a1 := i8; unfold In at a1; have a2 := i29x5; unfold In at a2; have a3 := i35x9; unfold In at a3; have a4 := (inv_F hI 0 160 rfl e_2_3); unfold In at a4; have a5 := tx_i2l e55; have a6 := i35x19; unfold In at a6; have oc := oc_220_0; omega) e35x17 (tx_i2l e55))⟩
                        exact g_lreturn (gd rfl) rfl (hP _ _ ⟨s, hI, fr_rf, z55, rfl, rfl, n56⟩)
                    · skip
                      exact zn_eq c38 (in_c 1 rfl) rfl
            · skip
              have i29x5 := r_eq1 (-1) (-1) c29x5 ro_0_2 (in_c (-1) rfl) rfl
              refine g_aload_n 9 (gd rfl) rfl rfl ?_
              refine g_getA (q2 := 1) 12 (gd rfl) rfl rfl rfl rfl ?_
              refine g_getA (q2 := 2) 15 (gd rfl) rfl rfl rfl rfl ?_
              refine g_goto 22 (gd rfl) rfl ?_
              refine g_areturn (gd rfl) rfl (hp29 _ _ ?_)
              show GG _ _ _ _ _ _ _ _ [.ref (A 2)] _ _ _
              refine g_astore_n 33 (gd rfl) rfl (Nat.le_of_ble_eq_true rfl) ?_
              refine g_aload_n 34 (gd rfl) rfl rfl ?_
              refine g_iload_n 35 (gd rfl) rfl rfl ?_
              refine g_callv (X := _) (As := [.int x1]) (r := []) (b := A 2) (q := 2) 38 (gd rfl) rfl rfl rfl rfl rfl (ww_o rfl) (Nat.le_of_ble_eq_true rfl) (mc := 0) (ms := 0) (Nat.zero_le _) (Nat.zero_le _) (P := fun v u => _) ?_ (fun e u h => h) (fun v u h => h)
              intro po35 xx35 hp35 hx35
              refine g_enter2 (k := 96) (N := 300) (by omega) rfl (Nat.le_of_ble_eq_true rfl) ?_
              refine g_iload_n 1 (gd rfl) rfl rfl ?_
              refine g_if_lt 4 26 (gd rfl) rfl rfl (fun c35x1 => ?_) (fun c35x1 => ?_)
              · skip
                exact zn_lt c35x1 i8 rfl
              · skip
                refine g_iload_n 5 (gd rfl) rfl rfl ?_
                refine g_aload_n 6 (gd rfl) rfl rfl ?_
                refine g_getI 9 (gd rfl) rfl rfl rfl (fun z35x6 e35x6 => ?_)
                have q35x6 : u_2_3 = z35x6 := (e_2_3).trans e35x6.symm
                subst q35x6
                refine g_cmp_ge 12 26 (gd rfl) rfl rfl (fun c35x9 => ?_) (fun c35x9 => ?_)
                · skip
                  have i35x9 := r_le1 0 159 c35x9 (inv_F hI 0 160 rfl e_2_3) i8 rfl
                  refine g_iconst 0 27 (gd rfl) rfl rfl ?_
                  refine g_ireturn (gd rfl) rfl (nb01 (in_w 0 1 (in_c 0 rfl) rfl)) (hp35 _ _ ?_)
                  show GG _ _ _ _ _ _ _ _ [.int (Int32.ofInt 0)] _ _ _
                  refine g_if_ne 41 45 (gd rfl) rfl rfl (fun c38 => ?_) (fun c38 => ?_)
                  · skip
                    exact zn_ne c38 (in_c 0 rfl) rfl
                  · skip
                    refine g_ldc2_w 9000000000000000 44 (gd rfl) rfl rfl ?_
                    have n44 : (In x1 0 159 ∧ In x2 0 4) ∧ ((Int64.ofInt 9000000000000000)).toInt = TLV (shC s) x1.toNatClampNeg x2.toInt := by exact ⟨⟨⟨by have a0 := i17; unfold In at a0; have a1 := i8; unfold In at a1; have a2 := i29x5; unfold In at a2; have a3 := (inv_F hI 0 160 rfl e_32_3); unfold In at a3; have a4 := i35x9; unfold In at a4; have oc := oc_220_0; omega, by have a0 := i17; unfold In at a0; have a1 := i8; unfold In at a1; have a2 := i29x5; unfold In at a2; have a3 := (inv_F hI 0 160 rfl e_32_3); unfold In at a3; have a4 := i35x9; unfold In at a4; have oc := oc_220_0; omega⟩, ⟨by have a0 := i17; unfold In at a0; have a1 := i8; unfold In at a1; have a2 := i29x5; unfold In at a2; have a3 := (inv_F hI 0 160 rfl e_32_3); unfold In at a3; have a4 := i35x9; unfold In at a4; have oc := oc_220_0; omega, by have a0 := i17; unfold In at a0; have a1 := i8; unfold In at a1; have a2 := i29x5; unfold In at a2; have a3 := (inv_F hI 0 160 rfl e_32_3); unfold In at a3; have a4 := i35x9; unfold In at a4; have oc := oc_220_0; omega⟩⟩, by first | (rw [shC_n (by rw [← e29x1]; exact c29x5)]; exact tlv_no (by have hq := q_0 x1.toNatClampNeg (by show x1.toInt.toNat < 160; have a0 := i17; unfold In at a0; have a1 := i8; unfold In at a1; have a2 := i29x5; unfold In at a2; have a3 := (inv_F hI 0 160 rfl e_32_3); unfold In at a3; have a4 := i35x9; unfold In at a4; have oc := oc_220_0; omega); have e6 : x1.toNatClampNeg = x1.toInt.toNat := rfl; rw [← e_2_3] at hq; show (s.1 4 x1.toNatClampNeg).toInt = -1; exact Classical.byContradiction fun hn => (by have h9 := hq hn; have a0 := i17; unfold In at a0; have a1 := i8; unfold In at a1; have a2 := i29x5; unfold In at a2; have a3 := (inv_F hI 0 160 rfl e_32_3); unfold In at a3; have a4 := i35x9; unfold In at a4; have oc := oc_220_0; omega)) (by decide)) | (rw [shC_d (by rw [← e29x1]; exact c29x5)]; exact tlv_no (by have hq := q_1 x1.toNatClampNeg (by show x1.toInt.toNat < 160; have a0 := i17; unfold In at a0; have a1 := i8; unfold In at a1; have a2 := i29x5; unfold In at a2; have a3 := (inv_F hI 0 160 rfl e_32_3); unfold In at a3; have a4 := i35x9; unfold In at a4; have oc := oc_220_0; omega); have e6 : x1.toNatClampNeg = x1.toInt.toNat := rfl; rw [← e_32_3] at hq; show (s.1 34 x1.toNatClampNeg).toInt = -1; exact Classical.byContradiction fun hn => (by have h9 := hq hn; have a0 := i17; unfold In at a0; have a1 := i8; unfold In at a1; have a2 := i29x5; unfold In at a2; have a3 := (inv_F hI 0 160 rfl e_32_3); unfold In at a3; have a4 := i35x9; unfold In at a4; have oc := oc_220_0; omega)) (by decide))⟩
                    exact g_lreturn (gd rfl) rfl (hP _ _ ⟨s, hI, fr_rf, (Int64.ofInt 9000000000000000), rfl, rfl, n44⟩)
                · skip
                  have i35x9 := r_lt2 1 160 c35x9 i8 (inv_F hI 0 160 rfl e_2_3) rfl
                  refine g_aload_n 13 (gd rfl) rfl rfl ?_
                  refine g_getA (q2 := 4) 16 (gd rfl) rfl rfl rfl rfl ?_
                  refine g_iload_n 17 (gd rfl) rfl rfl ?_
                  refine g_iaload 18 (gd rfl) rfl (n := 160) rfl (in_ix i8 rfl) (fun z35x17 e35x17 => ?_)
                  have i35x17 := inv_I hI (n := 160) (t := 0) (-1) 31 rfl (in_ix i8 rfl) rfl e35x17
                  refine g_iconst (-1) 19 (gd rfl) rfl rfl ?_
                  refine g_cmp_eq 22 26 (gd rfl) rfl rfl (fun c35x19 => ?_) (fun c35x19 => ?_)
                  · skip
                    have i35x19 := r_eq1 (-1) (-1) c35x19 i35x17 (in_c (-1) rfl) rfl
                    refine g_iconst 0 27 (gd rfl) rfl rfl ?_
                    refine g_ireturn (gd rfl) rfl (nb01 (in_w 0 1 (in_c 0 rfl) rfl)) (hp35 _ _ ?_)
                    show GG _ _ _ _ _ _ _ _ [.int (Int32.ofInt 0)] _ _ _
                    refine g_if_ne 41 45 (gd rfl) rfl rfl (fun c38 => ?_) (fun c38 => ?_)
                    · skip
                      exact zn_ne c38 (in_c 0 rfl) rfl
                    · skip
                      refine g_ldc2_w 9000000000000000 44 (gd rfl) rfl rfl ?_
                      have n44 : (In x1 0 159 ∧ In x2 0 4) ∧ ((Int64.ofInt 9000000000000000)).toInt = TLV (shC s) x1.toNatClampNeg x2.toInt := by exact ⟨⟨⟨by have a0 := i17; unfold In at a0; have a1 := i8; unfold In at a1; have a2 := i29x5; unfold In at a2; have a3 := (inv_F hI 0 160 rfl e_32_3); unfold In at a3; have a4 := i35x9; unfold In at a4; have oc := oc_220_0; omega, by have a0 := i17; unfold In at a0; have a1 := i8; unfold In at a1; have a2 := i29x5; unfold In at a2; have a3 := (inv_F hI 0 160 rfl e_32_3); unfold In at a3; have a4 := i35x9; unfold In at a4; have oc := oc_220_0; omega⟩, ⟨by have a0 := i17; unfold In at a0; have a1 := i8; unfold In at a1; have a2 := i29x5; unfold In at a2; have a3 := (inv_F hI 0 160 rfl e_32_3); unfold In at a3; have a4 := i35x9; unfold In at a4; have oc := oc_220_0; omega, by have a0 := i17; unfold In at a0; have a1 := i8; unfold In at a1; have a2 := i29x5; unfold In at a2; have a3 := (inv_F hI 0 160 rfl e_32_3); unfold In at a3; have a4 := i35x9; unfold In at a4; have oc := oc_220_0; omega⟩⟩, by first | (rw [shC_n (by rw [← e29x1]; exact c29x5)]; exact tlv_no (tl_eq e35x17 (by have a0 := i17; unfold In at a0; have a1 := i8; unfold In at a1; have a2 := i29x5; unfold In at a2; have a3 := (inv_F hI 0 160 rfl e_32_3); unfold In at a3; have a4 := i35x9; unfold In at a4; have oc := oc_220_0; omega)) (by decide)) | (rw [shC_d (by rw [← e29x1]; exact c29x5)]; exact tlv_no (tl_eq e35x17 (by have a0 := i17; unfold In at a0; have a1 := i8; unfold In at a1; have a2 := i29x5; unfold In at a2; have a3 := (inv_F hI 0 160 rfl e_32_3); unfold In at a3; have a4 := i35x9; unfold In at a4; have oc := oc_220_0; omega)) (by decide))⟩
                      exact g_lreturn (gd rfl) rfl (hP _ _ ⟨s, hI, fr_rf, (Int64.ofInt 9000000000000000), rfl, rfl, n44⟩)
                  · skip
                    have i35x19 := r_ne1 0 31 c35x19 i35x17 (in_c (-1) rfl) rfl
                    refine g_iconst 1 23 (gd rfl) rfl rfl ?_
                    refine g_goto 27 (gd rfl) rfl ?_
                    refine g_ireturn (gd rfl) rfl (nb01 (in_w 0 1 (in_c 1 rfl) rfl)) (hp35 _ _ ?_)
                    show GG _ _ _ _ _ _ _ _ [.int (Int32.ofInt 1)] _ _ _
                    refine g_if_ne 41 45 (gd rfl) rfl rfl (fun c38 => ?_) (fun c38 => ?_)
                    · skip
                      refine g_iload_n 46 (gd rfl) rfl rfl ?_
                      refine g_if_ne 49 57 (gd rfl) rfl rfl (fun c46 => ?_) (fun c46 => ?_)
                      · skip
                        have i46 := z_ne 1 4 c46 i17 rfl
                        refine g_iload_n 58 (gd rfl) rfl rfl ?_
                        refine g_iconst 1 59 (gd rfl) rfl rfl ?_
                        refine g_cmp_ne 62 72 (gd rfl) rfl rfl (fun c59 => ?_) (fun c59 => ?_)
                        · skip
                          have i59 := r_ne1 2 4 c59 i46 (in_c 1 rfl) rfl
                          refine g_aload_n 73 (gd rfl) rfl rfl ?_
                          refine g_iload_n 74 (gd rfl) rfl rfl ?_
                          refine g_iload_n 75 (gd rfl) rfl rfl ?_
                          refine g_iconst 2 76 (gd rfl) rfl rfl ?_
                          refine g_isub 77 (gd rfl) rfl (fun z76 e76 => ?_)
                          have i76 := in_sub 0 2 e76 i59 (in_c 2 rfl) rfl rfl
                          refine g_callv (X := _) (As := [.int x1, .int z76]) (r := []) (b := A 2) (q := 2) 80 (gd rfl) rfl rfl rfl rfl rfl (ww_o rfl) (Nat.le_of_ble_eq_true rfl) (mc := 0) (ms := 0) (Nat.zero_le _) (Nat.zero_le _) (P := fun v u => _) ?_ (fun e u h => h) (fun v u h => h)
                          intro po77 xx77 hp77 hx77
                          refine g_enter2 (k := 100) (N := 300) (by omega) rfl (Nat.le_of_ble_eq_true rfl) ?_
                          refine g_iload_n 1 (gd rfl) rfl rfl ?_
                          refine g_if_ne 4 11 (gd rfl) rfl rfl (fun c77x1 => ?_) (fun c77x1 => ?_)
                          · skip
                            have i77x1 := z_ne 1 2 c77x1 i76 rfl
                            refine g_iload_n 12 (gd rfl) rfl rfl ?_
                            refine g_iconst 1 13 (gd rfl) rfl rfl ?_
                            refine g_cmp_ne 16 25 (gd rfl) rfl rfl (fun c77x13 => ?_) (fun c77x13 => ?_)
                            · skip
                              have i77x13 := r_ne1 2 2 c77x13 i77x1 (in_c 1 rfl) rfl
                              refine g_aload_n 26 (gd rfl) rfl rfl ?_
                              refine g_getA (q2 := 8) 29 (gd rfl) rfl rfl rfl rfl ?_
                              refine g_iload_n 30 (gd rfl) rfl rfl ?_
                              refine g_iaload 31 (gd rfl) rfl (n := 160) rfl (in_ix i8 rfl) (fun z77x30 e77x30 => ?_)
                              have i77x30 := inv_I hI (n := 160) (t := 0) 0 25 rfl (in_ix i8 rfl) rfl e77x30
                              refine g_ireturn (gd rfl) rfl rfl (hp77 _ _ ?_)
                              show GG _ _ _ _ _ _ _ _ [.int z77x30] _ _ _
                              refine g_i2l 81 (gd rfl) rfl (fun z80 e80 => ?_)
                              have i80 := l_i e80 i77x30
                              have n81 : (In x1 0 159 ∧ In x2 0 4) ∧ (z80).toInt = TLV (shC s) x1.toNatClampNeg x2.toInt := by exact ⟨⟨⟨by have a0 := i59; unfold In at a0; have a1 := i8; unfold In at a1; have a2 := i29x5; unfold In at a2; have a3 := (inv_F hI 0 160 rfl e_32_3); unfold In at a3; have a4 := i35x9; unfold In at a4; have a5 := tx_i2l e80; have a6 := i77x30; unfold In at a6; have a7 := i77x13; unfold In at a7; have a8 := t_sub e76 i59 (in_c 2 rfl) rfl; have a9 := (in_c 2 rfl); unfold In at a9; have oc := oc_220_0; omega, by have a0 := i59; unfold In at a0; have a1 := i8; unfold In at a1; have a2 := i29x5; unfold In at a2; have a3 := (inv_F hI 0 160 rfl e_32_3); unfold In at a3; have a4 := i35x9; unfold In at a4; have a5 := tx_i2l e80; have a6 := i77x30; unfold In at a6; have a7 := i77x13; unfold In at a7; have a8 := t_sub e76 i59 (in_c 2 rfl) rfl; have a9 := (in_c 2 rfl); unfold In at a9; have oc := oc_220_0; omega⟩, ⟨by have a0 := i59; unfold In at a0; have a1 := i8; unfold In at a1; have a2 := i29x5; unfold In at a2; have a3 := (inv_F hI 0 160 rfl e_32_3); unfold In at a3; have a4 := i35x9; unfold In at a4; have a5 := tx_i2l e80; have a6 := i77x30; unfold In at a6; have a7 := i77x13; unfold In at a7; have a8 := t_sub e76 i59 (in_c 2 rfl) rfl; have a9 := (in_c 2 rfl); unfold In at a9; have oc := oc_220_0; omega, by have a0 := i59; unfold In at a0; have a1 := i8; unfold In at a1; have a2 := i29x5; unfold In at a2; have a3 := (inv_F hI 0 160 rfl e_32_3); unfold In at a3; have a4 := i35x9; unfold In at a4; have a5 := tx_i2l e80; have a6 := i77x30; unfold In at a6; have a7 := i77x13; unfold In at a7; have a8 := t_sub e76 i59 (in_c 2 rfl) rfl; have a9 := (in_c 2 rfl); unfold In at a9; have oc := oc_220_0; omega⟩⟩, by first | (rw [shC_n (by rw [← e29x1]; exact c29x5)]; exact tlv_4 (tl_ne e35x17 (by have a0 := i59; unfold In at a0; have a1 := i8; unfold In at a1; have a2 := i29x5; unfold In at a2; have a3 := (inv_F hI 0 160 rfl e_32_3); unfold In at a3; have a4 := i35x9; unfold In at a4; have a5 := tx_i2l e80; have a6 := i77x30; unfold In at a6; have a7 := i77x13; unfold In at a7; have a8 := t_sub e76 i59 (in_c 2 rfl) rfl; have a9 := (in_c 2 rfl); unfold In at a9; have oc := oc_220_0; omega)) (by have a0 := i59; unfold In at a0; have a1 := i8; unfold In at a1; have a2 := i29x5; unfold In at a2; have a3 := (inv_F hI 0 160 rfl e_32_3); unfold In at a3; have a4 := i35x9; unfold In at a4; have a5 := tx_i2l e80; have a6 := i77x30; unfold In at a6; have a7 := i77x13; unfold In at a7; have a8 := t_sub e76 i59 (in_c 2 rfl) rfl; have a9 := (in_c 2 rfl); unfold In at a9; have oc := oc_220_0; omega) e77x30 (tx_i2l e80)) | (rw [shC_d (by rw [← e29x1]; exact c29x5)]; exact tlv_4 (tl_ne e35x17 (by have a0 := i59; unfold In at a0; have a1 := i8; unfold In at a1; have a2 := i29x5; unfold In at a2; have a3 := (inv_F hI 0 160 rfl e_32_3); unfold In at a3; have a4 := i35x9; unfold In at a4; have a5 := tx_i2l e80; have a6 := i77x30; unfold In at a6; have a7 := i77x13; unfold In at a7; have a8 := t_sub e76 i59 (in_c 2 rfl) rfl; have a9 := (in_c 2 rfl); unfold In at a9; have oc := oc_220_0; omega)) (by have a0 := i59; unfold In at a0; have a1 := i8; unfold In at a1; have a2 := i29x5; unfold In at a2; have a3 := (inv_F hI 0 160 rfl e_32_3); unfold In at a3; have a4 := i35x9; unfold In at a4; have a5 := tx_i2l e80; have a6 := i77x30; unfold In at a6; have a7 := i77x13; unfold In at a7; have a8 := t_sub e76 i59 (in_c 2 rfl) rfl; have a9 := (in_c 2 rfl); unfold In at a9; have oc := oc_220_0; omega) e77x30 (tx_i2l e80))⟩
                              exact g_lreturn (gd rfl) rfl (hP _ _ ⟨s, hI, fr_rf, z80, rfl, rfl, n81⟩)
                            · skip
                              have i77x13 := r_eq1 1 1 c77x13 i77x1 (in_c 1 rfl) rfl
                              refine g_aload_n 17 (gd rfl) rfl rfl ?_
                              refine g_getA (q2 := 7) 20 (gd rfl) rfl rfl rfl rfl ?_
                              refine g_iload_n 21 (gd rfl) rfl rfl ?_
                              refine g_iaload 22 (gd rfl) rfl (n := 160) rfl (in_ix i8 rfl) (fun z77x21 e77x21 => ?_)
                              have i77x21 := inv_I hI (n := 160) (t := 0) 0 1000000 rfl (in_ix i8 rfl) rfl e77x21
                              refine g_goto 31 (gd rfl) rfl ?_
                              refine g_ireturn (gd rfl) rfl rfl (hp77 _ _ ?_)
                              show GG _ _ _ _ _ _ _ _ [.int z77x21] _ _ _
                              refine g_i2l 81 (gd rfl) rfl (fun z80 e80 => ?_)
                              have i80 := l_i e80 i77x21
                              have n81 : (In x1 0 159 ∧ In x2 0 4) ∧ (z80).toInt = TLV (shC s) x1.toNatClampNeg x2.toInt := by exact ⟨⟨⟨by have a0 := i59; unfold In at a0; have a1 := i8; unfold In at a1; have a2 := i29x5; unfold In at a2; have a3 := (inv_F hI 0 160 rfl e_32_3); unfold In at a3; have a4 := i35x9; unfold In at a4; have a5 := tx_i2l e80; have a6 := i77x21; unfold In at a6; have a7 := i77x13; unfold In at a7; have a8 := t_sub e76 i59 (in_c 2 rfl) rfl; have a9 := (in_c 2 rfl); unfold In at a9; have oc := oc_220_0; omega, by have a0 := i59; unfold In at a0; have a1 := i8; unfold In at a1; have a2 := i29x5; unfold In at a2; have a3 := (inv_F hI 0 160 rfl e_32_3); unfold In at a3; have a4 := i35x9; unfold In at a4; have a5 := tx_i2l e80; have a6 := i77x21; unfold In at a6; have a7 := i77x13; unfold In at a7; have a8 := t_sub e76 i59 (in_c 2 rfl) rfl; have a9 := (in_c 2 rfl); unfold In at a9; have oc := oc_220_0; omega⟩, ⟨by have a0 := i59; unfold In at a0; have a1 := i8; unfold In at a1; have a2 := i29x5; unfold In at a2; have a3 := (inv_F hI 0 160 rfl e_32_3); unfold In at a3; have a4 := i35x9; unfold In at a4; have a5 := tx_i2l e80; have a6 := i77x21; unfold In at a6; have a7 := i77x13; unfold In at a7; have a8 := t_sub e76 i59 (in_c 2 rfl) rfl; have a9 := (in_c 2 rfl); unfold In at a9; have oc := oc_220_0; omega, by have a0 := i59; unfold In at a0; have a1 := i8; unfold In at a1; have a2 := i29x5; unfold In at a2; have a3 := (inv_F hI 0 160 rfl e_32_3); unfold In at a3; have a4 := i35x9; unfold In at a4; have a5 := tx_i2l e80; have a6 := i77x21; unfold In at a6; have a7 := i77x13; unfold In at a7; have a8 := t_sub e76 i59 (in_c 2 rfl) rfl; have a9 := (in_c 2 rfl); unfold In at a9; have oc := oc_220_0; omega⟩⟩, by first | (rw [shC_n (by rw [← e29x1]; exact c29x5)]; exact tlv_3 (tl_ne e35x17 (by have a0 := i59; unfold In at a0; have a1 := i8; unfold In at a1; have a2 := i29x5; unfold In at a2; have a3 := (inv_F hI 0 160 rfl e_32_3); unfold In at a3; have a4 := i35x9; unfold In at a4; have a5 := tx_i2l e80; have a6 := i77x21; unfold In at a6; have a7 := i77x13; unfold In at a7; have a8 := t_sub e76 i59 (in_c 2 rfl) rfl; have a9 := (in_c 2 rfl); unfold In at a9; have oc := oc_220_0; omega)) (by have a0 := i59; unfold In at a0; have a1 := i8; unfold In at a1; have a2 := i29x5; unfold In at a2; have a3 := (inv_F hI 0 160 rfl e_32_3); unfold In at a3; have a4 := i35x9; unfold In at a4; have a5 := tx_i2l e80; have a6 := i77x21; unfold In at a6; have a7 := i77x13; unfold In at a7; have a8 := t_sub e76 i59 (in_c 2 rfl) rfl; have a9 := (in_c 2 rfl); unfold In at a9; have oc := oc_220_0; omega) e77x21 (tx_i2l e80)) | (rw [shC_d (by rw [← e29x1]; exact c29x5)]; exact tlv_3 (tl_ne e35x17 (by have a0 := i59; unfold In at a0; have a1 := i8; unfold In at a1; have a2 := i29x5; unfold In at a2; have a3 := (inv_F hI 0 160 rfl e_32_3); unfold In at a3; have a4 := i35x9; unfold In at a4; have a5 := tx_i2l e80; have a6 := i77x21; unfold In at a6; have a7 := i77x13; unfold In at a7; have a8 := t_sub e76 i59 (in_c 2 rfl) rfl; have a9 := (in_c 2 rfl); unfold In at a9; have oc := oc_220_0; omega)) (by have a0 := i59; unfold In at a0; have a1 := i8; unfold In at a1; have a2 := i29x5; unfold In at a2; have a3 := (inv_F hI 0 160 rfl e_32_3); unfold In at a3; have a4 := i35x9; unfold In at a4; have a5 := tx_i2l e80; have a6 := i77x21; unfold In at a6; have a7 := i77x13; unfold In at a7; have a8 := t_sub e76 i59 (in_c 2 rfl) rfl; have a9 := (in_c 2 rfl); unfold In at a9; have oc := oc_220_0; omega) e77x21 (tx_i2l e80))⟩
                              exact g_lreturn (gd rfl) rfl (hP _ _ ⟨s, hI, fr_rf, z80, rfl, rfl, n81⟩)
                          · skip
                            have i77x1 := z_eq 0 0 c77x1 i76 rfl
                            refine g_aload_n 5 (gd rfl) rfl rfl ?_
                            refine g_getA (q2 := 6) 8 (gd rfl) rfl rfl rfl rfl ?_
                            refine g_iload_n 9 (gd rfl) rfl rfl ?_
                            refine g_iaload 10 (gd rfl) rfl (n := 160) rfl (in_ix i8 rfl) (fun z77x9 e77x9 => ?_)
                            have i77x9 := inv_I hI (n := 160) (t := 0) (-1000000) 1000000 rfl (in_ix i8 rfl) rfl e77x9
                            refine g_ireturn (gd rfl) rfl rfl (hp77 _ _ ?_)
                            show GG _ _ _ _ _ _ _ _ [.int z77x9] _ _ _
                            refine g_i2l 81 (gd rfl) rfl (fun z80 e80 => ?_)
                            have i80 := l_i e80 i77x9
                            have n81 : (In x1 0 159 ∧ In x2 0 4) ∧ (z80).toInt = TLV (shC s) x1.toNatClampNeg x2.toInt := by exact ⟨⟨⟨by have a0 := i59; unfold In at a0; have a1 := i8; unfold In at a1; have a2 := i29x5; unfold In at a2; have a3 := (inv_F hI 0 160 rfl e_32_3); unfold In at a3; have a4 := i35x9; unfold In at a4; have a5 := tx_i2l e80; have a6 := i77x9; unfold In at a6; have a7 := i77x1; unfold In at a7; have a8 := t_sub e76 i59 (in_c 2 rfl) rfl; have a9 := (in_c 2 rfl); unfold In at a9; have oc := oc_220_0; omega, by have a0 := i59; unfold In at a0; have a1 := i8; unfold In at a1; have a2 := i29x5; unfold In at a2; have a3 := (inv_F hI 0 160 rfl e_32_3); unfold In at a3; have a4 := i35x9; unfold In at a4; have a5 := tx_i2l e80; have a6 := i77x9; unfold In at a6; have a7 := i77x1; unfold In at a7; have a8 := t_sub e76 i59 (in_c 2 rfl) rfl; have a9 := (in_c 2 rfl); unfold In at a9; have oc := oc_220_0; omega⟩, ⟨by have a0 := i59; unfold In at a0; have a1 := i8; unfold In at a1; have a2 := i29x5; unfold In at a2; have a3 := (inv_F hI 0 160 rfl e_32_3); unfold In at a3; have a4 := i35x9; unfold In at a4; have a5 := tx_i2l e80; have a6 := i77x9; unfold In at a6; have a7 := i77x1; unfold In at a7; have a8 := t_sub e76 i59 (in_c 2 rfl) rfl; have a9 := (in_c 2 rfl); unfold In at a9; have oc := oc_220_0; omega, by have a0 := i59; unfold In at a0; have a1 := i8; unfold In at a1; have a2 := i29x5; unfold In at a2; have a3 := (inv_F hI 0 160 rfl e_32_3); unfold In at a3; have a4 := i35x9; unfold In at a4; have a5 := tx_i2l e80; have a6 := i77x9; unfold In at a6; have a7 := i77x1; unfold In at a7; have a8 := t_sub e76 i59 (in_c 2 rfl) rfl; have a9 := (in_c 2 rfl); unfold In at a9; have oc := oc_220_0; omega⟩⟩, by first | (rw [shC_n (by rw [← e29x1]; exact c29x5)]; exact tlv_2 (tl_ne e35x17 (by have a0 := i59; unfold In at a0; have a1 := i8; unfold In at a1; have a2 := i29x5; unfold In at a2; have a3 := (inv_F hI 0 160 rfl e_32_3); unfold In at a3; have a4 := i35x9; unfold In at a4; have a5 := tx_i2l e80; have a6 := i77x9; unfold In at a6; have a7 := i77x1; unfold In at a7; have a8 := t_sub e76 i59 (in_c 2 rfl) rfl; have a9 := (in_c 2 rfl); unfold In at a9; have oc := oc_220_0; omega)) (by have a0 := i59; unfold In at a0; have a1 := i8; unfold In at a1; have a2 := i29x5; unfold In at a2; have a3 := (inv_F hI 0 160 rfl e_32_3); unfold In at a3; have a4 := i35x9; unfold In at a4; have a5 := tx_i2l e80; have a6 := i77x9; unfold In at a6; have a7 := i77x1; unfold In at a7; have a8 := t_sub e76 i59 (in_c 2 rfl) rfl; have a9 := (in_c 2 rfl); unfold In at a9; have oc := oc_220_0; omega) e77x9 (tx_i2l e80)) | (rw [shC_d (by rw [← e29x1]; exact c29x5)]; exact tlv_2 (tl_ne e35x17 (by have a0 := i59; unfold In at a0; have a1 := i8; unfold In at a1; have a2 := i29x5; unfold In at a2; have a3 := (inv_F hI 0 160 rfl e_32_3); unfold In at a3; have a4 := i35x9; unfold In at a4; have a5 := tx_i2l e80; have a6 := i77x9; unfold In at a6; have a7 := i77x1; unfold In at a7; have a8 := t_sub e76 i59 (in_c 2 rfl) rfl; have a9 := (in_c 2 rfl); unfold In at a9; have oc := oc_220_0; omega)) (by have a0 := i59; unfold In at a0; have a1 := i8; unfold In at a1; have a2 := i29x5; unfold In at a2; have a3 := (inv_F hI 0 160 rfl e_32_3); unfold In at a3; have a4 := i35x9; unfold In at a4; have a5 := tx_i2l e80; have a6 := i77x9; unfold In at a6; have a7 := i77x1; unfold In at a7; have a8 := t_sub e76 i59 (in_c 2 rfl) rfl; have a9 := (in_c 2 rfl); unfold In at a9; have oc := oc_220_0; omega) e77x9 (tx_i2l e80))⟩
                            exact g_lreturn (gd rfl) rfl (hP _ _ ⟨s, hI, fr_rf, z80, rfl, rfl, n81⟩)
                        · skip
                          have i59 := r_eq1 1 1 c59 i46 (in_c 1 rfl) rfl
                          refine g_aload_n 63 (gd rfl) rfl rfl ?_
                          refine g_getA (q2 := 5) 66 (gd rfl) rfl rfl rfl rfl ?_
                          refine g_iload_n 67 (gd rfl) rfl rfl ?_
                          refine g_iaload 68 (gd rfl) rfl (n := 160) rfl (in_ix i8 rfl) (fun z67 e67 => ?_)
                          have i67 := inv_I hI (n := 160) (t := 0) 0 31 rfl (in_ix i8 rfl) rfl e67
                          refine g_i2l 69 (gd rfl) rfl (fun z68 e68 => ?_)
                          have i68 := l_i e68 i67
                          refine g_goto 81 (gd rfl) rfl ?_
                          have n81 : (In x1 0 159 ∧ In x2 0 4) ∧ (z68).toInt = TLV (shC s) x1.toNatClampNeg x2.toInt := by exact ⟨⟨⟨by have a0 := i59; unfold In at a0; have a1 := i8; unfold In at a1; have a2 := i29x5; unfold In at a2; have a3 := (inv_F hI 0 160 rfl e_32_3); unfold In at a3; have a4 := i35x9; unfold In at a4; have a5 := tx_i2l e68; have a6 := i67; unfold In at a6; have oc := oc_220_0; omega, by have a0 := i59; unfold In at a0; have a1 := i8; unfold In at a1; have a2 := i29x5; unfold In at a2; have a3 := (inv_F hI 0 160 rfl e_32_3); unfold In at a3; have a4 := i35x9; unfold In at a4; have a5 := tx_i2l e68; have a6 := i67; unfold In at a6; have oc := oc_220_0; omega⟩, ⟨by have a0 := i59; unfold In at a0; have a1 := i8; unfold In at a1; have a2 := i29x5; unfold In at a2; have a3 := (inv_F hI 0 160 rfl e_32_3); unfold In at a3; have a4 := i35x9; unfold In at a4; have a5 := tx_i2l e68; have a6 := i67; unfold In at a6; have oc := oc_220_0; omega, by have a0 := i59; unfold In at a0; have a1 := i8; unfold In at a1; have a2 := i29x5; unfold In at a2; have a3 := (inv_F hI 0 160 rfl e_32_3); unfold In at a3; have a4 := i35x9; unfold In at a4; have a5 := tx_i2l e68; have a6 := i67; unfold In at a6; have oc := oc_220_0; omega⟩⟩, by first | (rw [shC_n (by rw [← e29x1]; exact c29x5)]; exact tlv_1 (tl_ne e35x17 (by have a0 := i59; unfold In at a0; have a1 := i8; unfold In at a1; have a2 := i29x5; unfold In at a2; have a3 := (inv_F hI 0 160 rfl e_32_3); unfold In at a3; have a4 := i35x9; unfold In at a4; have a5 := tx_i2l e68; have a6 := i67; unfold In at a6; have oc := oc_220_0; omega)) (by have a0 := i59; unfold In at a0; have a1 := i8; unfold In at a1; have a2 := i29x5; unfold In at a2; have a3 := (inv_F hI 0 160 rfl e_32_3); unfold In at a3; have a4 := i35x9; unfold In at a4; have a5 := tx_i2l e68; have a6 := i67; unfold In at a6; have oc := oc_220_0; omega) e67 (tx_i2l e68)) | (rw [shC_d (by rw [← e29x1]; exact c29x5)]; exact tlv_1 (tl_ne e35x17 (by have a0 := i59; unfold In at a0; have a1 := i8; unfold In at a1; have a2 := i29x5; unfold In at a2; have a3 := (inv_F hI 0 160 rfl e_32_3); unfold In at a3; have a4 := i35x9; unfold In at a4; have a5 := tx_i2l e68; have a6 := i67; unfold In at a6; have oc := oc_220_0; omega)) (by have a0 := i59; unfold In at a0; have a1 := i8; unfold In at a1; have a2 := i29x5; unfold In at a2; have a3 := (inv_F hI 0 160 rfl e_32_3); unfold In at a3; have a4 := i35x9; unfold In at a4; have a5 := tx_i2l e68; have a6 := i67; unfold In at a6; have oc := oc_220_0; omega) e67 (tx_i2l e68))⟩
                          exact g_lreturn (gd rfl) rfl (hP _ _ ⟨s, hI, fr_rf, z68, rfl, rfl, n81⟩)
                      · skip
                        have i46 := z_eq 0 0 c46 i17 rfl
                        refine g_aload_n 50 (gd rfl) rfl rfl ?_
                        refine g_getA (q2 := 4) 53 (gd rfl) rfl rfl rfl rfl ?_
                        refine g_iload_n 54 (gd rfl) rfl rfl ?_
                        refine g_iaload 55 (gd rfl) rfl (n := 160) rfl (in_ix i8 rfl) (fun z54 e54 => ?_)
                        have q54 : z35x17 = z54 := (e35x17).trans e54.symm
                        subst q54
                        refine g_i2l 56 (gd rfl) rfl (fun z55 e55 => ?_)
                        have i55 := l_i e55 i35x19
                        have n56 : (In x1 0 159 ∧ In x2 0 4) ∧ (z55).toInt = TLV (shC s) x1.toNatClampNeg x2.toInt := by exact ⟨⟨⟨by have a0 := i46; unfold In at a0; have a1 := i8; unfold In at a1; have a2 := i29x5; unfold In at a2; have a3 := (inv_F hI 0 160 rfl e_32_3); unfold In at a3; have a4 := i35x9; unfold In at a4; have a5 := tx_i2l e55; have a6 := i35x19; unfold In at a6; have oc := oc_220_0; omega, by have a0 := i46; unfold In at a0; have a1 := i8; unfold In at a1; have a2 := i29x5; unfold In at a2; have a3 := (inv_F hI 0 160 rfl e_32_3); unfold In at a3; have a4 := i35x9; unfold In at a4; have a5 := tx_i2l e55; have a6 := i35x19; unfold In at a6; have oc := oc_220_0; omega⟩, ⟨by have a0 := i46; unfold In at a0; have a1 := i8; unfold In at a1; have a2 := i29x5; unfold In at a2; have a3 := (inv_F hI 0 160 rfl e_32_3); unfold In at a3; have a4 := i35x9; unfold In at a4; have a5 := tx_i2l e55; have a6 := i35x19; unfold In at a6; have oc := oc_220_0; omega, by have a0 := i46; unfold In at a0; have a1 := i8; unfold In at a1; have a2 := i29x5; unfold In at a2; have a3 := (inv_F hI 0 160 rfl e_32_3); unfold In at a3; have a4 := i35x9; unfold In at a4; have a5 := tx_i2l e55; have a6 := i35x19; unfold In at a6; have oc := oc_220_0; omega⟩⟩, by first | (rw [shC_n (by rw [← e29x1]; exact c29x5)]; exact tlv_0 (tl_ne e35x17 (by have a0 := i46; unfold In at a0; have a1 := i8; unfold In at a1; have a2 := i29x5; unfold In at a2; have a3 := (inv_F hI 0 160 rfl e_32_3); unfold In at a3; have a4 := i35x9; unfold In at a4; have a5 := tx_i2l e55; have a6 := i35x19; unfold In at a6; have oc := oc_220_0; omega)) (by have a0 := i46; unfold In at a0; have a1 := i8; unfold In at a1; have a2 := i29x5; unfold In at a2; have a3 := (inv_F hI 0 160 rfl e_32_3); unfold In at a3; have a4 := i35x9; unfold In at a4; have a5 := tx_i2l e55; have a6 := i35x19; unfold In at a6; have oc := oc_220_0; omega) e35x17 (tx_i2l e55)) | (rw [shC_d (by rw [← e29x1]; exact c29x5)]; exact tlv_0 (tl_ne e35x17 (by have a0 := i46; unfold In at a0; have a1 := i8; unfold In at a1; have a2 := i29x5; unfold In at a2; have a3 := (inv_F hI 0 160 rfl e_32_3); unfold In at a3; have a4 := i35x9; unfold In at a4; have a5 := tx_i2l e55; have a6 := i35x19; unfold In at a6; have oc := oc_220_0; omega)) (by have a0 := i46; unfold In at a0; have a1 := i8; unfold In at a1; have a2 := i29x5; unfold In at a2; have a3 := (inv_F hI 0 160 rfl e_32_3); unfold In at a3; have a4 := i35x9; unfold In at a4; have a5 := tx_i2l e55; have a6 := i35x19; unfold In at a6; have oc := oc_220_0; omega) e35x17 (tx_i2l e55))⟩
                        exact g_lreturn (gd rfl) rfl (hP _ _ ⟨s, hI, fr_rf, z55, rfl, rfl, n56⟩)
                    · skip
                      exact zn_eq c38 (in_c 1 rfl) rfl
          · skip
            exact zn_eq c25 (in_c 1 rfl) rfl

theorem oc_290_109 : (Int32.ofInt (-1)).toInt = (-1) ∧ (Int32.ofInt 0).toInt = 0 ∧ (Int32.ofInt 1).toInt = 1 ∧ (Int32.ofInt 2).toInt = 2 ∧ (Int32.ofInt 3).toInt = 3 ∧ (Int64.ofInt 0).toInt = 0 ∧ (Int64.ofInt 4).toInt = 4 ∧ (Int64.ofInt 159).toInt = 159 ∧ (Int64.ofInt 9000000000000000).toInt = 9000000000000000 := ⟨rfl, rfl, rfl, rfl, rfl, rfl, rfl, rfl, rfl⟩
/-- GraphHouseModel.told -/
theorem f_290 {Z : AmZ} {A : Nat → Nat} {s : GS} {ex : va_W} {d : Nat} {X : AmX} {x1 : Int32} {x2 : Int32} (hd : 4 ≤ d) (hI : Inv s)  : GC Z d 290 [.ref (A 109), .int x1, .int x2] (WW Z A s ++ ex) 0 0 (fun v u => ∃ t : GS, Inv t ∧ Fr fm_290 s t ∧ ∃ z : Int64, v = some (.long z) ∧ u = WW Z A t ++ ex ∧ (TLR s t x1 x2 z)) X := by
  intro post xp hP hX
  obtain ⟨u_109_19, e_109_19⟩ : ∃ w, w = s.2.2.1 109 19 := ⟨_, rfl⟩
  have ro_109_19 := inv_F hI 0 160 rfl e_109_19
  refine g_enter2 (k := 290) (N := 900) (by omega) rfl (Nat.le_of_ble_eq_true rfl) ?_
  refine g_aload_n 1 (gd rfl) rfl rfl ?_
  refine g_iload_n 2 (gd rfl) rfl rfl ?_
  refine g_i2l 3 (gd rfl) rfl (fun z2 e2 => ?_)
  have i2 := l_i e2 (i_rng x1)
  refine g_lconst 0 4 (gd rfl) rfl rfl ?_
  refine g_ldc2_w 159 7 (gd rfl) rfl rfl ?_
  refine g_calls (As := [.long z2, .long (Int64.ofInt 0), .long (Int64.ofInt 159)]) (r := [.ref (A 109)]) 10 (gd rfl) rfl rfl rfl rfl rfl (Nat.le_of_ble_eq_true rfl) (mc := 0) (ms := 0) (Nat.zero_le _) (Nat.zero_le _) (P := fun v u => _) ?_ (fun v u h => h)
  intro po7 xx7 hp7 hx7
  refine g_enter2 (k := 269) (N := 300) (by omega) rfl (Nat.le_of_ble_eq_true rfl) ?_
  refine g_lload_n 1 (gd rfl) rfl rfl ?_
  refine g_lload_n 2 (gd rfl) rfl rfl ?_
  refine g_lcmp 3 (gd rfl) rfl (fun z7x2 e7x2 => ?_)
  have i7x2 := lc_in e7x2
  refine g_if_lt 6 17 (gd rfl) rfl rfl (fun c7x3 => ?_) (fun c7x3 => ?_)
  · skip
    have i7x3 := z_lt (-1) (-1) c7x3 i7x2 rfl
    have c7x3a := lc_lt e7x2 c7x3
    have i7x3a := lr_lt1 (-2147483648) (-1) c7x3a i2 (l_c 0 rfl) rfl
    have i7x3b := l_b e2 i7x3a
    refine g_iconst 0 18 (gd rfl) rfl rfl ?_
    refine g_ireturn (gd rfl) rfl (nb01 (in_w 0 1 (in_c 0 rfl) rfl)) (hp7 _ _ ?_)
    show GG _ _ _ _ _ _ _ _ [.int (Int32.ofInt 0), .ref (A 109)] _ _ _
    refine g_if_eq 13 29 (gd rfl) rfl rfl (fun c10 => ?_) (fun c10 => ?_)
    · skip
      refine g_iconst 0 30 (gd rfl) rfl rfl ?_
      refine g_callv (X := _) (As := [.int (Int32.ofInt 0)]) (r := []) (b := A 109) (q := 109) 33 (gd rfl) rfl rfl rfl rfl rfl (ww_o rfl) (Nat.le_of_ble_eq_true rfl) (mc := 0) (ms := 0) (Nat.zero_le _) (Nat.zero_le _) (P := fun v u => _) ?_ (fun e u h => h) (fun v u h => h)
      intro po30 xx30 hp30 hx30
      refine g_enter2 (k := 271) (N := 300) (by omega) rfl (Nat.le_of_ble_eq_true rfl) ?_
      refine g_aload_n 1 (gd rfl) rfl rfl ?_
      refine g_iload_n 2 (gd rfl) rfl rfl ?_
      refine g_iconst 1 3 (gd rfl) rfl rfl ?_
      refine g_callv (X := _) (As := [.int (Int32.ofInt 0), .int (Int32.ofInt 1)]) (r := []) (b := A 109) (q := 109) 6 (gd rfl) rfl rfl rfl rfl rfl (ww_o rfl) (Nat.le_of_ble_eq_true rfl) (mc := 0) (ms := 0) (Nat.zero_le _) (Nat.zero_le _) (P := fun v u => _) ?_ (fun e u h => h) (fun v u h => h)
      intro po30x3 xx30x3 hp30x3 hx30x3
      refine g_enter2 (k := 270) (N := 300) (by omega) rfl (Nat.le_of_ble_eq_true rfl) ?_
      refine g_aload_n 1 (gd rfl) rfl rfl ?_
      refine g_iload_n 2 (gd rfl) rfl rfl ?_
      refine g_if_ne 5 9 (gd rfl) rfl rfl (fun c30x3x2 => ?_) (fun c30x3x2 => ?_)
      · skip
        exact zn_ne c30x3x2 (in_c 0 rfl) rfl
      · skip
        refine g_iconst 1 6 (gd rfl) rfl rfl ?_
        refine g_goto 18 (gd rfl) rfl ?_
        refine g_putI 21 (gd rfl) rfl rfl rfl rfl ?_
        have hI30x3x18 := inv_sF (q := 109) (j := 0) hI rfl (in_w 0 2 (in_c 1 rfl) rfl)
        refine g_aload_n 22 (gd rfl) rfl rfl ?_
        refine g_getI 25 (gd rfl) rfl rfl rfl (fun z30x3x22 e30x3x22 => ?_)
        have q30x3x22 : (Int32.ofInt 1) = z30x3x22 := (sF_get).trans e30x3x22.symm
        subst q30x3x22
        refine g_if_le 28 32 (gd rfl) rfl rfl (fun c30x3x25 => ?_) (fun c30x3x25 => ?_)
        · skip
          exact zn_le c30x3x25 (in_c 1 rfl) rfl
        · skip
          refine g_iconst 1 29 (gd rfl) rfl rfl ?_
          refine g_goto 33 (gd rfl) rfl ?_
          refine g_ireturn (gd rfl) rfl (nb01 (in_w 0 1 (in_c 1 rfl) rfl)) (hp30x3 _ _ ?_)
          show GG _ _ _ _ _ _ _ _ [.int (Int32.ofInt 1)] _ _ _
          refine g_ireturn (gd rfl) rfl (nb01 (in_w 0 1 (in_c 1 rfl) rfl)) (hp30 _ _ ?_)
          show GG _ _ _ _ _ _ _ _ [.int (Int32.ofInt 1)] _ _ _
          refine g_if_eq 36 38 (gd rfl) rfl rfl (fun c33 => ?_) (fun c33 => ?_)
          · skip
            exact zn_eq c33 (in_c 1 rfl) rfl
          · skip
            refine g_lconst 0 37 (gd rfl) rfl rfl ?_
            have n37 : TLR s (sF s 109 0 (Int32.ofInt 1)) x1 x2 (Int64.ofInt 0) := by exact Or.inl ⟨rfl, by unfold In; have a0 := ro_109_19; unfold In at a0; have a1 := i7x3b; unfold In at a1; have a2 := (in_c 1 rfl); unfold In at a2; have a3 := tx_i2l e2; have oc := oc_290_109; omega⟩
            exact g_lreturn (gd rfl) rfl (hP _ _ ⟨(sF s 109 0 (Int32.ofInt 1)), hI30x3x18, (fr_sF rfl fr_rf), (Int64.ofInt 0), rfl, rfl, n37⟩)
    · skip
      exact zn_ne c10 (in_c 0 rfl) rfl
  · skip
    have i7x3 := z_ge 0 1 c7x3 i7x2 rfl
    have c7x3a := lc_ge e7x2 c7x3
    have i7x3a := lr_le2 0 2147483647 c7x3a (l_c 0 rfl) i2 rfl
    have i7x3b := l_b e2 i7x3a
    refine g_lload_n 7 (gd rfl) rfl rfl ?_
    refine g_lload 9 (gd rfl) rfl rfl ?_
    refine g_lcmp 10 (gd rfl) rfl (fun z7x9 e7x9 => ?_)
    have i7x9 := lc_in e7x9
    refine g_if_gt 13 17 (gd rfl) rfl rfl (fun c7x10 => ?_) (fun c7x10 => ?_)
    · skip
      have i7x10 := z_gt 1 1 c7x10 i7x9 rfl
      have c7x10a := lc_gt e7x9 c7x10
      have i7x10a := lr_lt2 160 2147483647 c7x10a (l_c 159 rfl) i7x3a rfl
      have i7x10b := l_b e2 i7x10a
      refine g_iconst 0 18 (gd rfl) rfl rfl ?_
      refine g_ireturn (gd rfl) rfl (nb01 (in_w 0 1 (in_c 0 rfl) rfl)) (hp7 _ _ ?_)
      show GG _ _ _ _ _ _ _ _ [.int (Int32.ofInt 0), .ref (A 109)] _ _ _
      refine g_if_eq 13 29 (gd rfl) rfl rfl (fun c10 => ?_) (fun c10 => ?_)
      · skip
        refine g_iconst 0 30 (gd rfl) rfl rfl ?_
        refine g_callv (X := _) (As := [.int (Int32.ofInt 0)]) (r := []) (b := A 109) (q := 109) 33 (gd rfl) rfl rfl rfl rfl rfl (ww_o rfl) (Nat.le_of_ble_eq_true rfl) (mc := 0) (ms := 0) (Nat.zero_le _) (Nat.zero_le _) (P := fun v u => _) ?_ (fun e u h => h) (fun v u h => h)
        intro po30 xx30 hp30 hx30
        refine g_enter2 (k := 271) (N := 300) (by omega) rfl (Nat.le_of_ble_eq_true rfl) ?_
        refine g_aload_n 1 (gd rfl) rfl rfl ?_
        refine g_iload_n 2 (gd rfl) rfl rfl ?_
        refine g_iconst 1 3 (gd rfl) rfl rfl ?_
        refine g_callv (X := _) (As := [.int (Int32.ofInt 0), .int (Int32.ofInt 1)]) (r := []) (b := A 109) (q := 109) 6 (gd rfl) rfl rfl rfl rfl rfl (ww_o rfl) (Nat.le_of_ble_eq_true rfl) (mc := 0) (ms := 0) (Nat.zero_le _) (Nat.zero_le _) (P := fun v u => _) ?_ (fun e u h => h) (fun v u h => h)
        intro po30x3 xx30x3 hp30x3 hx30x3
        refine g_enter2 (k := 270) (N := 300) (by omega) rfl (Nat.le_of_ble_eq_true rfl) ?_
        refine g_aload_n 1 (gd rfl) rfl rfl ?_
        refine g_iload_n 2 (gd rfl) rfl rfl ?_
        refine g_if_ne 5 9 (gd rfl) rfl rfl (fun c30x3x2 => ?_) (fun c30x3x2 => ?_)
        · skip
          exact zn_ne c30x3x2 (in_c 0 rfl) rfl
        · skip
          refine g_iconst 1 6 (gd rfl) rfl rfl ?_
          refine g_goto 18 (gd rfl) rfl ?_
          refine g_putI 21 (gd rfl) rfl rfl rfl rfl ?_
          have hI30x3x18 := inv_sF (q := 109) (j := 0) hI rfl (in_w 0 2 (in_c 1 rfl) rfl)
          refine g_aload_n 22 (gd rfl) rfl rfl ?_
          refine g_getI 25 (gd rfl) rfl rfl rfl (fun z30x3x22 e30x3x22 => ?_)
          have q30x3x22 : (Int32.ofInt 1) = z30x3x22 := (sF_get).trans e30x3x22.symm
          subst q30x3x22
          refine g_if_le 28 32 (gd rfl) rfl rfl (fun c30x3x25 => ?_) (fun c30x3x25 => ?_)
          · skip
            exact zn_le c30x3x25 (in_c 1 rfl) rfl
          · skip
            refine g_iconst 1 29 (gd rfl) rfl rfl ?_
            refine g_goto 33 (gd rfl) rfl ?_
            refine g_ireturn (gd rfl) rfl (nb01 (in_w 0 1 (in_c 1 rfl) rfl)) (hp30x3 _ _ ?_)
            show GG _ _ _ _ _ _ _ _ [.int (Int32.ofInt 1)] _ _ _
            refine g_ireturn (gd rfl) rfl (nb01 (in_w 0 1 (in_c 1 rfl) rfl)) (hp30 _ _ ?_)
            show GG _ _ _ _ _ _ _ _ [.int (Int32.ofInt 1)] _ _ _
            refine g_if_eq 36 38 (gd rfl) rfl rfl (fun c33 => ?_) (fun c33 => ?_)
            · skip
              exact zn_eq c33 (in_c 1 rfl) rfl
            · skip
              refine g_lconst 0 37 (gd rfl) rfl rfl ?_
              have n37 : TLR s (sF s 109 0 (Int32.ofInt 1)) x1 x2 (Int64.ofInt 0) := by exact Or.inl ⟨rfl, by unfold In; have a0 := ro_109_19; unfold In at a0; have a1 := i7x10b; unfold In at a1; have a2 := (in_c 1 rfl); unfold In at a2; have a3 := tx_i2l e2; have oc := oc_290_109; omega⟩
              exact g_lreturn (gd rfl) rfl (hP _ _ ⟨(sF s 109 0 (Int32.ofInt 1)), hI30x3x18, (fr_sF rfl fr_rf), (Int64.ofInt 0), rfl, rfl, n37⟩)
      · skip
        exact zn_ne c10 (in_c 0 rfl) rfl
    · skip
      have i7x10 := z_le (-1) 0 c7x10 i7x9 rfl
      have c7x10a := lc_le e7x9 c7x10
      have i7x10a := lr_le1 0 159 c7x10a i7x3a (l_c 159 rfl) rfl
      have i7x10b := l_b e2 i7x10a
      refine g_iconst 1 14 (gd rfl) rfl rfl ?_
      refine g_goto 18 (gd rfl) rfl ?_
      refine g_ireturn (gd rfl) rfl (nb01 (in_w 0 1 (in_c 1 rfl) rfl)) (hp7 _ _ ?_)
      show GG _ _ _ _ _ _ _ _ [.int (Int32.ofInt 1), .ref (A 109)] _ _ _
      refine g_if_eq 13 29 (gd rfl) rfl rfl (fun c10 => ?_) (fun c10 => ?_)
      · skip
        exact zn_eq c10 (in_c 1 rfl) rfl
      · skip
        refine g_iload_n 14 (gd rfl) rfl rfl ?_
        refine g_i2l 15 (gd rfl) rfl (fun z14 e14 => ?_)
        have i14 := l_i e14 (i_rng x2)
        refine g_lconst 0 16 (gd rfl) rfl rfl ?_
        refine g_ldc2_w 4 19 (gd rfl) rfl rfl ?_
        refine g_calls (As := [.long z14, .long (Int64.ofInt 0), .long (Int64.ofInt 4)]) (r := [.ref (A 109)]) 22 (gd rfl) rfl rfl rfl rfl rfl (Nat.le_of_ble_eq_true rfl) (mc := 0) (ms := 0) (Nat.zero_le _) (Nat.zero_le _) (P := fun v u => _) ?_ (fun v u h => h)
        intro po19 xx19 hp19 hx19
        refine g_enter2 (k := 269) (N := 300) (by omega) rfl (Nat.le_of_ble_eq_true rfl) ?_
        refine g_lload_n 1 (gd rfl) rfl rfl ?_
        refine g_lload_n 2 (gd rfl) rfl rfl ?_
        refine g_lcmp 3 (gd rfl) rfl (fun z19x2 e19x2 => ?_)
        have i19x2 := lc_in e19x2
        refine g_if_lt 6 17 (gd rfl) rfl rfl (fun c19x3 => ?_) (fun c19x3 => ?_)
        · skip
          have i19x3 := z_lt (-1) (-1) c19x3 i19x2 rfl
          have c19x3a := lc_lt e19x2 c19x3
          have i19x3a := lr_lt1 (-2147483648) (-1) c19x3a i14 (l_c 0 rfl) rfl
          have i19x3b := l_b e14 i19x3a
          refine g_iconst 0 18 (gd rfl) rfl rfl ?_
          refine g_ireturn (gd rfl) rfl (nb01 (in_w 0 1 (in_c 0 rfl) rfl)) (hp19 _ _ ?_)
          show GG _ _ _ _ _ _ _ _ [.int (Int32.ofInt 0), .ref (A 109)] _ _ _
          refine g_if_eq 25 29 (gd rfl) rfl rfl (fun c22 => ?_) (fun c22 => ?_)
          · skip
            refine g_iconst 0 30 (gd rfl) rfl rfl ?_
            refine g_callv (X := _) (As := [.int (Int32.ofInt 0)]) (r := []) (b := A 109) (q := 109) 33 (gd rfl) rfl rfl rfl rfl rfl (ww_o rfl) (Nat.le_of_ble_eq_true rfl) (mc := 0) (ms := 0) (Nat.zero_le _) (Nat.zero_le _) (P := fun v u => _) ?_ (fun e u h => h) (fun v u h => h)
            intro po30 xx30 hp30 hx30
            refine g_enter2 (k := 271) (N := 300) (by omega) rfl (Nat.le_of_ble_eq_true rfl) ?_
            refine g_aload_n 1 (gd rfl) rfl rfl ?_
            refine g_iload_n 2 (gd rfl) rfl rfl ?_
            refine g_iconst 1 3 (gd rfl) rfl rfl ?_
            refine g_callv (X := _) (As := [.int (Int32.ofInt 0), .int (Int32.ofInt 1)]) (r := []) (b := A 109) (q := 109) 6 (gd rfl) rfl rfl rfl rfl rfl (ww_o rfl) (Nat.le_of_ble_eq_true rfl) (mc := 0) (ms := 0) (Nat.zero_le _) (Nat.zero_le _) (P := fun v u => _) ?_ (fun e u h => h) (fun v u h => h)
            intro po30x3 xx30x3 hp30x3 hx30x3
            refine g_enter2 (k := 270) (N := 300) (by omega) rfl (Nat.le_of_ble_eq_true rfl) ?_
            refine g_aload_n 1 (gd rfl) rfl rfl ?_
            refine g_iload_n 2 (gd rfl) rfl rfl ?_
            refine g_if_ne 5 9 (gd rfl) rfl rfl (fun c30x3x2 => ?_) (fun c30x3x2 => ?_)
            · skip
              exact zn_ne c30x3x2 (in_c 0 rfl) rfl
            · skip
              refine g_iconst 1 6 (gd rfl) rfl rfl ?_
              refine g_goto 18 (gd rfl) rfl ?_
              refine g_putI 21 (gd rfl) rfl rfl rfl rfl ?_
              have hI30x3x18 := inv_sF (q := 109) (j := 0) hI rfl (in_w 0 2 (in_c 1 rfl) rfl)
              refine g_aload_n 22 (gd rfl) rfl rfl ?_
              refine g_getI 25 (gd rfl) rfl rfl rfl (fun z30x3x22 e30x3x22 => ?_)
              have q30x3x22 : (Int32.ofInt 1) = z30x3x22 := (sF_get).trans e30x3x22.symm
              subst q30x3x22
              refine g_if_le 28 32 (gd rfl) rfl rfl (fun c30x3x25 => ?_) (fun c30x3x25 => ?_)
              · skip
                exact zn_le c30x3x25 (in_c 1 rfl) rfl
              · skip
                refine g_iconst 1 29 (gd rfl) rfl rfl ?_
                refine g_goto 33 (gd rfl) rfl ?_
                refine g_ireturn (gd rfl) rfl (nb01 (in_w 0 1 (in_c 1 rfl) rfl)) (hp30x3 _ _ ?_)
                show GG _ _ _ _ _ _ _ _ [.int (Int32.ofInt 1)] _ _ _
                refine g_ireturn (gd rfl) rfl (nb01 (in_w 0 1 (in_c 1 rfl) rfl)) (hp30 _ _ ?_)
                show GG _ _ _ _ _ _ _ _ [.int (Int32.ofInt 1)] _ _ _
                refine g_if_eq 36 38 (gd rfl) rfl rfl (fun c33 => ?_) (fun c33 => ?_)
                · skip
                  exact zn_eq c33 (in_c 1 rfl) rfl
                · skip
                  refine g_lconst 0 37 (gd rfl) rfl rfl ?_
                  have n37 : TLR s (sF s 109 0 (Int32.ofInt 1)) x1 x2 (Int64.ofInt 0) := by exact Or.inl ⟨rfl, by unfold In; have a0 := i7x10b; unfold In at a0; have a1 := ro_109_19; unfold In at a1; have a2 := i19x3b; unfold In at a2; have a3 := (in_c 1 rfl); unfold In at a3; have a4 := tx_i2l e14; have a5 := tx_i2l e2; have oc := oc_290_109; omega⟩
                  exact g_lreturn (gd rfl) rfl (hP _ _ ⟨(sF s 109 0 (Int32.ofInt 1)), hI30x3x18, (fr_sF rfl fr_rf), (Int64.ofInt 0), rfl, rfl, n37⟩)
          · skip
            exact zn_ne c22 (in_c 0 rfl) rfl
        · skip
          have i19x3 := z_ge 0 1 c19x3 i19x2 rfl
          have c19x3a := lc_ge e19x2 c19x3
          have i19x3a := lr_le2 0 2147483647 c19x3a (l_c 0 rfl) i14 rfl
          have i19x3b := l_b e14 i19x3a
          refine g_lload_n 7 (gd rfl) rfl rfl ?_
          refine g_lload 9 (gd rfl) rfl rfl ?_
          refine g_lcmp 10 (gd rfl) rfl (fun z19x9 e19x9 => ?_)
          have i19x9 := lc_in e19x9
          refine g_if_gt 13 17 (gd rfl) rfl rfl (fun c19x10 => ?_) (fun c19x10 => ?_)
          · skip
            have i19x10 := z_gt 1 1 c19x10 i19x9 rfl
            have c19x10a := lc_gt e19x9 c19x10
            have i19x10a := lr_lt2 5 2147483647 c19x10a (l_c 4 rfl) i19x3a rfl
            have i19x10b := l_b e14 i19x10a
            refine g_iconst 0 18 (gd rfl) rfl rfl ?_
            refine g_ireturn (gd rfl) rfl (nb01 (in_w 0 1 (in_c 0 rfl) rfl)) (hp19 _ _ ?_)
            show GG _ _ _ _ _ _ _ _ [.int (Int32.ofInt 0), .ref (A 109)] _ _ _
            refine g_if_eq 25 29 (gd rfl) rfl rfl (fun c22 => ?_) (fun c22 => ?_)
            · skip
              refine g_iconst 0 30 (gd rfl) rfl rfl ?_
              refine g_callv (X := _) (As := [.int (Int32.ofInt 0)]) (r := []) (b := A 109) (q := 109) 33 (gd rfl) rfl rfl rfl rfl rfl (ww_o rfl) (Nat.le_of_ble_eq_true rfl) (mc := 0) (ms := 0) (Nat.zero_le _) (Nat.zero_le _) (P := fun v u => _) ?_ (fun e u h => h) (fun v u h => h)
              intro po30 xx30 hp30 hx30
              refine g_enter2 (k := 271) (N := 300) (by omega) rfl (Nat.le_of_ble_eq_true rfl) ?_
              refine g_aload_n 1 (gd rfl) rfl rfl ?_
              refine g_iload_n 2 (gd rfl) rfl rfl ?_
              refine g_iconst 1 3 (gd rfl) rfl rfl ?_
              refine g_callv (X := _) (As := [.int (Int32.ofInt 0), .int (Int32.ofInt 1)]) (r := []) (b := A 109) (q := 109) 6 (gd rfl) rfl rfl rfl rfl rfl (ww_o rfl) (Nat.le_of_ble_eq_true rfl) (mc := 0) (ms := 0) (Nat.zero_le _) (Nat.zero_le _) (P := fun v u => _) ?_ (fun e u h => h) (fun v u h => h)
              intro po30x3 xx30x3 hp30x3 hx30x3
              refine g_enter2 (k := 270) (N := 300) (by omega) rfl (Nat.le_of_ble_eq_true rfl) ?_
              refine g_aload_n 1 (gd rfl) rfl rfl ?_
              refine g_iload_n 2 (gd rfl) rfl rfl ?_
              refine g_if_ne 5 9 (gd rfl) rfl rfl (fun c30x3x2 => ?_) (fun c30x3x2 => ?_)
              · skip
                exact zn_ne c30x3x2 (in_c 0 rfl) rfl
              · skip
                refine g_iconst 1 6 (gd rfl) rfl rfl ?_
                refine g_goto 18 (gd rfl) rfl ?_
                refine g_putI 21 (gd rfl) rfl rfl rfl rfl ?_
                have hI30x3x18 := inv_sF (q := 109) (j := 0) hI rfl (in_w 0 2 (in_c 1 rfl) rfl)
                refine g_aload_n 22 (gd rfl) rfl rfl ?_
                refine g_getI 25 (gd rfl) rfl rfl rfl (fun z30x3x22 e30x3x22 => ?_)
                have q30x3x22 : (Int32.ofInt 1) = z30x3x22 := (sF_get).trans e30x3x22.symm
                subst q30x3x22
                refine g_if_le 28 32 (gd rfl) rfl rfl (fun c30x3x25 => ?_) (fun c30x3x25 => ?_)
                · skip
                  exact zn_le c30x3x25 (in_c 1 rfl) rfl
                · skip
                  refine g_iconst 1 29 (gd rfl) rfl rfl ?_
                  refine g_goto 33 (gd rfl) rfl ?_
                  refine g_ireturn (gd rfl) rfl (nb01 (in_w 0 1 (in_c 1 rfl) rfl)) (hp30x3 _ _ ?_)
                  show GG _ _ _ _ _ _ _ _ [.int (Int32.ofInt 1)] _ _ _
                  refine g_ireturn (gd rfl) rfl (nb01 (in_w 0 1 (in_c 1 rfl) rfl)) (hp30 _ _ ?_)
                  show GG _ _ _ _ _ _ _ _ [.int (Int32.ofInt 1)] _ _ _
                  refine g_if_eq 36 38 (gd rfl) rfl rfl (fun c33 => ?_) (fun c33 => ?_)
                  · skip
                    exact zn_eq c33 (in_c 1 rfl) rfl
                  · skip
                    refine g_lconst 0 37 (gd rfl) rfl rfl ?_
                    have n37 : TLR s (sF s 109 0 (Int32.ofInt 1)) x1 x2 (Int64.ofInt 0) := by exact Or.inl ⟨rfl, by unfold In; have a0 := i7x10b; unfold In at a0; have a1 := ro_109_19; unfold In at a1; have a2 := i19x10b; unfold In at a2; have a3 := (in_c 1 rfl); unfold In at a3; have a4 := tx_i2l e14; have a5 := tx_i2l e2; have oc := oc_290_109; omega⟩
                    exact g_lreturn (gd rfl) rfl (hP _ _ ⟨(sF s 109 0 (Int32.ofInt 1)), hI30x3x18, (fr_sF rfl fr_rf), (Int64.ofInt 0), rfl, rfl, n37⟩)
            · skip
              exact zn_ne c22 (in_c 0 rfl) rfl
          · skip
            have i19x10 := z_le (-1) 0 c19x10 i19x9 rfl
            have c19x10a := lc_le e19x9 c19x10
            have i19x10a := lr_le1 0 4 c19x10a i19x3a (l_c 4 rfl) rfl
            have i19x10b := l_b e14 i19x10a
            refine g_iconst 1 14 (gd rfl) rfl rfl ?_
            refine g_goto 18 (gd rfl) rfl ?_
            refine g_ireturn (gd rfl) rfl (nb01 (in_w 0 1 (in_c 1 rfl) rfl)) (hp19 _ _ ?_)
            show GG _ _ _ _ _ _ _ _ [.int (Int32.ofInt 1), .ref (A 109)] _ _ _
            refine g_if_eq 25 29 (gd rfl) rfl rfl (fun c22 => ?_) (fun c22 => ?_)
            · skip
              exact zn_eq c22 (in_c 1 rfl) rfl
            · skip
              refine g_iconst 1 26 (gd rfl) rfl rfl ?_
              refine g_goto 30 (gd rfl) rfl ?_
              refine g_callv (X := _) (As := [.int (Int32.ofInt 1)]) (r := []) (b := A 109) (q := 109) 33 (gd rfl) rfl rfl rfl rfl rfl (ww_o rfl) (Nat.le_of_ble_eq_true rfl) (mc := 0) (ms := 0) (Nat.zero_le _) (Nat.zero_le _) (P := fun v u => _) ?_ (fun e u h => h) (fun v u h => h)
              intro po30 xx30 hp30 hx30
              refine g_enter2 (k := 271) (N := 300) (by omega) rfl (Nat.le_of_ble_eq_true rfl) ?_
              refine g_aload_n 1 (gd rfl) rfl rfl ?_
              refine g_iload_n 2 (gd rfl) rfl rfl ?_
              refine g_iconst 1 3 (gd rfl) rfl rfl ?_
              refine g_callv (X := _) (As := [.int (Int32.ofInt 1), .int (Int32.ofInt 1)]) (r := []) (b := A 109) (q := 109) 6 (gd rfl) rfl rfl rfl rfl rfl (ww_o rfl) (Nat.le_of_ble_eq_true rfl) (mc := 0) (ms := 0) (Nat.zero_le _) (Nat.zero_le _) (P := fun v u => _) ?_ (fun e u h => h) (fun v u h => h)
              intro po30x3 xx30x3 hp30x3 hx30x3
              refine g_enter2 (k := 270) (N := 300) (by omega) rfl (Nat.le_of_ble_eq_true rfl) ?_
              refine g_aload_n 1 (gd rfl) rfl rfl ?_
              refine g_iload_n 2 (gd rfl) rfl rfl ?_
              refine g_if_ne 5 9 (gd rfl) rfl rfl (fun c30x3x2 => ?_) (fun c30x3x2 => ?_)
              · skip
                refine g_iload_n 10 (gd rfl) rfl rfl ?_
                refine g_if_ne 13 17 (gd rfl) rfl rfl (fun c30x3x10 => ?_) (fun c30x3x10 => ?_)
                · skip
                  refine g_iconst 0 18 (gd rfl) rfl rfl ?_
                  refine g_putI 21 (gd rfl) rfl rfl rfl rfl ?_
                  have hI30x3x18 := inv_sF (q := 109) (j := 0) hI rfl (in_w 0 2 (in_c 0 rfl) rfl)
                  refine g_aload_n 22 (gd rfl) rfl rfl ?_
                  refine g_getI 25 (gd rfl) rfl rfl rfl (fun z30x3x22 e30x3x22 => ?_)
                  have q30x3x22 : (Int32.ofInt 0) = z30x3x22 := (sF_get).trans e30x3x22.symm
                  subst q30x3x22
                  refine g_if_le 28 32 (gd rfl) rfl rfl (fun c30x3x25 => ?_) (fun c30x3x25 => ?_)
                  · skip
                    refine g_iconst 0 33 (gd rfl) rfl rfl ?_
                    refine g_ireturn (gd rfl) rfl (nb01 (in_w 0 1 (in_c 0 rfl) rfl)) (hp30x3 _ _ ?_)
                    show GG _ _ _ _ _ _ _ _ [.int (Int32.ofInt 0)] _ _ _
                    refine g_ireturn (gd rfl) rfl (nb01 (in_w 0 1 (in_c 0 rfl) rfl)) (hp30 _ _ ?_)
                    show GG _ _ _ _ _ _ _ _ [.int (Int32.ofInt 0)] _ _ _
                    refine g_if_eq 36 38 (gd rfl) rfl rfl (fun c33 => ?_) (fun c33 => ?_)
                    · skip
                      refine g_aload_n 39 (gd rfl) rfl rfl ?_
                      refine g_getI 42 (gd rfl) rfl rfl rfl (fun z39 e39 => ?_)
                      have q39 : u_109_19 = z39 := (sF_ne rfl (e_109_19)).trans e39.symm
                      subst q39
                      refine g_iload_n 43 (gd rfl) rfl rfl ?_
                      refine g_iadd 44 (gd rfl) rfl (fun z43 e43 => ?_)
                      have i43 := in_add 0 319 e43 ro_109_19 i7x10b rfl rfl
                      refine g_istore_n 45 (gd rfl) rfl (Nat.le_of_ble_eq_true rfl) ?_
                      refine g_aload_n 46 (gd rfl) rfl rfl ?_
                      refine g_getA (q2 := 112) 49 (gd rfl) rfl rfl rfl rfl ?_
                      refine g_iload_n 50 (gd rfl) rfl rfl ?_
                      refine g_baload 51 (gd rfl) rfl (n := 480) rfl (in_ix i43 rfl) (fun z50 e50 => ?_)
                      have i50 := inv_I hI30x3x18 (n := 480) (t := 3) 0 1 rfl (in_ix i43 rfl) rfl e50
                      refine g_if_ne 54 58 (gd rfl) rfl rfl (fun c51 => ?_) (fun c51 => ?_)
                      · skip
                        have i51 := z_ne 1 1 c51 i50 rfl
                        refine g_iload_n 59 (gd rfl) rfl rfl ?_
                        refine g_if_ne 62 72 (gd rfl) rfl rfl (fun c59 => ?_) (fun c59 => ?_)
                        · skip
                          have i59 := z_ne 1 4 c59 i19x10b rfl
                          refine g_iload_n 73 (gd rfl) rfl rfl ?_
                          refine g_iconst 1 74 (gd rfl) rfl rfl ?_
                          refine g_cmp_ne 77 87 (gd rfl) rfl rfl (fun c74 => ?_) (fun c74 => ?_)
                          · skip
                            have i74 := r_ne1 2 4 c74 i59 (in_c 1 rfl) rfl
                            refine g_iload_n 88 (gd rfl) rfl rfl ?_
                            refine g_iconst 2 89 (gd rfl) rfl rfl ?_
                            refine g_cmp_ne 92 102 (gd rfl) rfl rfl (fun c89 => ?_) (fun c89 => ?_)
                            · skip
                              have i89 := r_ne1 3 4 c89 i74 (in_c 2 rfl) rfl
                              refine g_iload_n 103 (gd rfl) rfl rfl ?_
                              refine g_iconst 3 104 (gd rfl) rfl rfl ?_
                              refine g_cmp_ne 107 117 (gd rfl) rfl rfl (fun c104 => ?_) (fun c104 => ?_)
                              · skip
                                have i104 := r_ne1 4 4 c104 i89 (in_c 3 rfl) rfl
                                refine g_aload_n 118 (gd rfl) rfl rfl ?_
                                refine g_getA (q2 := 117) 121 (gd rfl) rfl rfl rfl rfl ?_
                                refine g_iload_n 122 (gd rfl) rfl rfl ?_
                                refine g_iaload 123 (gd rfl) rfl (n := 480) rfl (in_ix i43 rfl) (fun z122 e122 => ?_)
                                have i122 := inv_I hI30x3x18 (n := 480) (t := 0) 0 25 rfl (in_ix i43 rfl) rfl e122
                                refine g_i2l 124 (gd rfl) rfl (fun z123 e123 => ?_)
                                have i123 := l_i e123 i122
                                have n124 : TLR s (sF s 109 0 (Int32.ofInt 0)) x1 x2 z123 := by have hix := tg_ix hI e_109_19 (show z43.toInt = u_109_19.toInt + x1.toInt from (by have a0 := i104; unfold In at a0; have a1 := i7x10b; unfold In at a1; have a2 := ro_109_19; unfold In at a2; have a3 := i43; unfold In at a3; have a4 := t_add e43 ro_109_19 i7x10b rfl; have a5 := (in_c 0 rfl); unfold In at a5; have a6 := tx_i2l e123; have a7 := i122; unfold In at a7; have a8 := tx_i2l e14; have a9 := tx_i2l e2; have oc := oc_290_109; omega)) ⟨by have a0 := i104; unfold In at a0; have a1 := i7x10b; unfold In at a1; have a2 := ro_109_19; unfold In at a2; have a3 := i43; unfold In at a3; have a4 := t_add e43 ro_109_19 i7x10b rfl; have a5 := (in_c 0 rfl); unfold In at a5; have a6 := tx_i2l e123; have a7 := i122; unfold In at a7; have a8 := tx_i2l e14; have a9 := tx_i2l e2; have oc := oc_290_109; omega, by have a0 := i104; unfold In at a0; have a1 := i7x10b; unfold In at a1; have a2 := ro_109_19; unfold In at a2; have a3 := i43; unfold In at a3; have a4 := t_add e43 ro_109_19 i7x10b rfl; have a5 := (in_c 0 rfl); unfold In at a5; have a6 := tx_i2l e123; have a7 := i122; unfold In at a7; have a8 := tx_i2l e14; have a9 := tx_i2l e2; have oc := oc_290_109; omega⟩; exact Or.inr ⟨rfl, ⟨⟨by have a0 := i104; unfold In at a0; have a1 := i7x10b; unfold In at a1; have a2 := ro_109_19; unfold In at a2; have a3 := i43; unfold In at a3; have a4 := t_add e43 ro_109_19 i7x10b rfl; have a5 := (in_c 0 rfl); unfold In at a5; have a6 := tx_i2l e123; have a7 := i122; unfold In at a7; have a8 := tx_i2l e14; have a9 := tx_i2l e2; have oc := oc_290_109; omega, by have a0 := i104; unfold In at a0; have a1 := i7x10b; unfold In at a1; have a2 := ro_109_19; unfold In at a2; have a3 := i43; unfold In at a3; have a4 := t_add e43 ro_109_19 i7x10b rfl; have a5 := (in_c 0 rfl); unfold In at a5; have a6 := tx_i2l e123; have a7 := i122; unfold In at a7; have a8 := tx_i2l e14; have a9 := tx_i2l e2; have oc := oc_290_109; omega⟩, ⟨by have a0 := i104; unfold In at a0; have a1 := i7x10b; unfold In at a1; have a2 := ro_109_19; unfold In at a2; have a3 := i43; unfold In at a3; have a4 := t_add e43 ro_109_19 i7x10b rfl; have a5 := (in_c 0 rfl); unfold In at a5; have a6 := tx_i2l e123; have a7 := i122; unfold In at a7; have a8 := tx_i2l e14; have a9 := tx_i2l e2; have oc := oc_290_109; omega, by have a0 := i104; unfold In at a0; have a1 := i7x10b; unfold In at a1; have a2 := ro_109_19; unfold In at a2; have a3 := i43; unfold In at a3; have a4 := t_add e43 ro_109_19 i7x10b rfl; have a5 := (in_c 0 rfl); unfold In at a5; have a6 := tx_i2l e123; have a7 := i122; unfold In at a7; have a8 := tx_i2l e14; have a9 := tx_i2l e2; have oc := oc_290_109; omega⟩⟩, tlv_4 (tg_ne hI (e50.trans (congrArg (s.1 112) hix)) (by have a0 := i104; unfold In at a0; have a1 := i7x10b; unfold In at a1; have a2 := ro_109_19; unfold In at a2; have a3 := i43; unfold In at a3; have a4 := t_add e43 ro_109_19 i7x10b rfl; have a5 := (in_c 0 rfl); unfold In at a5; have a6 := tx_i2l e123; have a7 := i122; unfold In at a7; have a8 := tx_i2l e14; have a9 := tx_i2l e2; have oc := oc_290_109; omega) (by rw [← hix]; show z43.toInt.toNat < 480; have a0 := i104; unfold In at a0; have a1 := i7x10b; unfold In at a1; have a2 := ro_109_19; unfold In at a2; have a3 := i43; unfold In at a3; have a4 := t_add e43 ro_109_19 i7x10b rfl; have a5 := (in_c 0 rfl); unfold In at a5; have a6 := tx_i2l e123; have a7 := i122; unfold In at a7; have a8 := tx_i2l e14; have a9 := tx_i2l e2; have oc := oc_290_109; omega)) (by have a0 := i104; unfold In at a0; have a1 := i7x10b; unfold In at a1; have a2 := ro_109_19; unfold In at a2; have a3 := i43; unfold In at a3; have a4 := t_add e43 ro_109_19 i7x10b rfl; have a5 := (in_c 0 rfl); unfold In at a5; have a6 := tx_i2l e123; have a7 := i122; unfold In at a7; have a8 := tx_i2l e14; have a9 := tx_i2l e2; have oc := oc_290_109; omega) (e122.trans (congrArg (s.1 117) hix)) (tx_i2l e123)⟩
                                exact g_lreturn (gd rfl) rfl (hP _ _ ⟨(sF s 109 0 (Int32.ofInt 0)), hI30x3x18, (fr_sF rfl fr_rf), z123, rfl, rfl, n124⟩)
                              · skip
                                have i104 := r_eq1 3 3 c104 i89 (in_c 3 rfl) rfl
                                refine g_aload_n 108 (gd rfl) rfl rfl ?_
                                refine g_getA (q2 := 116) 111 (gd rfl) rfl rfl rfl rfl ?_
                                refine g_iload_n 112 (gd rfl) rfl rfl ?_
                                refine g_iaload 113 (gd rfl) rfl (n := 480) rfl (in_ix i43 rfl) (fun z112 e112 => ?_)
                                have i112 := inv_I hI30x3x18 (n := 480) (t := 0) 0 1000000 rfl (in_ix i43 rfl) rfl e112
                                refine g_i2l 114 (gd rfl) rfl (fun z113 e113 => ?_)
                                have i113 := l_i e113 i112
                                refine g_goto 124 (gd rfl) rfl ?_
                                have n124 : TLR s (sF s 109 0 (Int32.ofInt 0)) x1 x2 z113 := by have hix := tg_ix hI e_109_19 (show z43.toInt = u_109_19.toInt + x1.toInt from (by have a0 := i104; unfold In at a0; have a1 := i7x10b; unfold In at a1; have a2 := ro_109_19; unfold In at a2; have a3 := i43; unfold In at a3; have a4 := t_add e43 ro_109_19 i7x10b rfl; have a5 := (in_c 0 rfl); unfold In at a5; have a6 := tx_i2l e113; have a7 := i112; unfold In at a7; have a8 := tx_i2l e14; have a9 := tx_i2l e2; have oc := oc_290_109; omega)) ⟨by have a0 := i104; unfold In at a0; have a1 := i7x10b; unfold In at a1; have a2 := ro_109_19; unfold In at a2; have a3 := i43; unfold In at a3; have a4 := t_add e43 ro_109_19 i7x10b rfl; have a5 := (in_c 0 rfl); unfold In at a5; have a6 := tx_i2l e113; have a7 := i112; unfold In at a7; have a8 := tx_i2l e14; have a9 := tx_i2l e2; have oc := oc_290_109; omega, by have a0 := i104; unfold In at a0; have a1 := i7x10b; unfold In at a1; have a2 := ro_109_19; unfold In at a2; have a3 := i43; unfold In at a3; have a4 := t_add e43 ro_109_19 i7x10b rfl; have a5 := (in_c 0 rfl); unfold In at a5; have a6 := tx_i2l e113; have a7 := i112; unfold In at a7; have a8 := tx_i2l e14; have a9 := tx_i2l e2; have oc := oc_290_109; omega⟩; exact Or.inr ⟨rfl, ⟨⟨by have a0 := i104; unfold In at a0; have a1 := i7x10b; unfold In at a1; have a2 := ro_109_19; unfold In at a2; have a3 := i43; unfold In at a3; have a4 := t_add e43 ro_109_19 i7x10b rfl; have a5 := (in_c 0 rfl); unfold In at a5; have a6 := tx_i2l e113; have a7 := i112; unfold In at a7; have a8 := tx_i2l e14; have a9 := tx_i2l e2; have oc := oc_290_109; omega, by have a0 := i104; unfold In at a0; have a1 := i7x10b; unfold In at a1; have a2 := ro_109_19; unfold In at a2; have a3 := i43; unfold In at a3; have a4 := t_add e43 ro_109_19 i7x10b rfl; have a5 := (in_c 0 rfl); unfold In at a5; have a6 := tx_i2l e113; have a7 := i112; unfold In at a7; have a8 := tx_i2l e14; have a9 := tx_i2l e2; have oc := oc_290_109; omega⟩, ⟨by have a0 := i104; unfold In at a0; have a1 := i7x10b; unfold In at a1; have a2 := ro_109_19; unfold In at a2; have a3 := i43; unfold In at a3; have a4 := t_add e43 ro_109_19 i7x10b rfl; have a5 := (in_c 0 rfl); unfold In at a5; have a6 := tx_i2l e113; have a7 := i112; unfold In at a7; have a8 := tx_i2l e14; have a9 := tx_i2l e2; have oc := oc_290_109; omega, by have a0 := i104; unfold In at a0; have a1 := i7x10b; unfold In at a1; have a2 := ro_109_19; unfold In at a2; have a3 := i43; unfold In at a3; have a4 := t_add e43 ro_109_19 i7x10b rfl; have a5 := (in_c 0 rfl); unfold In at a5; have a6 := tx_i2l e113; have a7 := i112; unfold In at a7; have a8 := tx_i2l e14; have a9 := tx_i2l e2; have oc := oc_290_109; omega⟩⟩, tlv_3 (tg_ne hI (e50.trans (congrArg (s.1 112) hix)) (by have a0 := i104; unfold In at a0; have a1 := i7x10b; unfold In at a1; have a2 := ro_109_19; unfold In at a2; have a3 := i43; unfold In at a3; have a4 := t_add e43 ro_109_19 i7x10b rfl; have a5 := (in_c 0 rfl); unfold In at a5; have a6 := tx_i2l e113; have a7 := i112; unfold In at a7; have a8 := tx_i2l e14; have a9 := tx_i2l e2; have oc := oc_290_109; omega) (by rw [← hix]; show z43.toInt.toNat < 480; have a0 := i104; unfold In at a0; have a1 := i7x10b; unfold In at a1; have a2 := ro_109_19; unfold In at a2; have a3 := i43; unfold In at a3; have a4 := t_add e43 ro_109_19 i7x10b rfl; have a5 := (in_c 0 rfl); unfold In at a5; have a6 := tx_i2l e113; have a7 := i112; unfold In at a7; have a8 := tx_i2l e14; have a9 := tx_i2l e2; have oc := oc_290_109; omega)) (by have a0 := i104; unfold In at a0; have a1 := i7x10b; unfold In at a1; have a2 := ro_109_19; unfold In at a2; have a3 := i43; unfold In at a3; have a4 := t_add e43 ro_109_19 i7x10b rfl; have a5 := (in_c 0 rfl); unfold In at a5; have a6 := tx_i2l e113; have a7 := i112; unfold In at a7; have a8 := tx_i2l e14; have a9 := tx_i2l e2; have oc := oc_290_109; omega) (e112.trans (congrArg (s.1 116) hix)) (tx_i2l e113)⟩
                                exact g_lreturn (gd rfl) rfl (hP _ _ ⟨(sF s 109 0 (Int32.ofInt 0)), hI30x3x18, (fr_sF rfl fr_rf), z113, rfl, rfl, n124⟩)
                            · skip
                              have i89 := r_eq1 2 2 c89 i74 (in_c 2 rfl) rfl
                              refine g_aload_n 93 (gd rfl) rfl rfl ?_
                              refine g_getA (q2 := 115) 96 (gd rfl) rfl rfl rfl rfl ?_
                              refine g_iload_n 97 (gd rfl) rfl rfl ?_
                              refine g_iaload 98 (gd rfl) rfl (n := 480) rfl (in_ix i43 rfl) (fun z97 e97 => ?_)
                              have i97 := inv_I hI30x3x18 (n := 480) (t := 0) (-1000000) 1000000 rfl (in_ix i43 rfl) rfl e97
                              refine g_i2l 99 (gd rfl) rfl (fun z98 e98 => ?_)
                              have i98 := l_i e98 i97
                              refine g_goto 124 (gd rfl) rfl ?_
                              have n124 : TLR s (sF s 109 0 (Int32.ofInt 0)) x1 x2 z98 := by have hix := tg_ix hI e_109_19 (show z43.toInt = u_109_19.toInt + x1.toInt from (by have a0 := i89; unfold In at a0; have a1 := i7x10b; unfold In at a1; have a2 := ro_109_19; unfold In at a2; have a3 := i43; unfold In at a3; have a4 := t_add e43 ro_109_19 i7x10b rfl; have a5 := (in_c 0 rfl); unfold In at a5; have a6 := tx_i2l e98; have a7 := i97; unfold In at a7; have a8 := tx_i2l e14; have a9 := tx_i2l e2; have oc := oc_290_109; omega)) ⟨by have a0 := i89; unfold In at a0; have a1 := i7x10b; unfold In at a1; have a2 := ro_109_19; unfold In at a2; have a3 := i43; unfold In at a3; have a4 := t_add e43 ro_109_19 i7x10b rfl; have a5 := (in_c 0 rfl); unfold In at a5; have a6 := tx_i2l e98; have a7 := i97; unfold In at a7; have a8 := tx_i2l e14; have a9 := tx_i2l e2; have oc := oc_290_109; omega, by have a0 := i89; unfold In at a0; have a1 := i7x10b; unfold In at a1; have a2 := ro_109_19; unfold In at a2; have a3 := i43; unfold In at a3; have a4 := t_add e43 ro_109_19 i7x10b rfl; have a5 := (in_c 0 rfl); unfold In at a5; have a6 := tx_i2l e98; have a7 := i97; unfold In at a7; have a8 := tx_i2l e14; have a9 := tx_i2l e2; have oc := oc_290_109; omega⟩; exact Or.inr ⟨rfl, ⟨⟨by have a0 := i89; unfold In at a0; have a1 := i7x10b; unfold In at a1; have a2 := ro_109_19; unfold In at a2; have a3 := i43; unfold In at a3; have a4 := t_add e43 ro_109_19 i7x10b rfl; have a5 := (in_c 0 rfl); unfold In at a5; have a6 := tx_i2l e98; have a7 := i97; unfold In at a7; have a8 := tx_i2l e14; have a9 := tx_i2l e2; have oc := oc_290_109; omega, by have a0 := i89; unfold In at a0; have a1 := i7x10b; unfold In at a1; have a2 := ro_109_19; unfold In at a2; have a3 := i43; unfold In at a3; have a4 := t_add e43 ro_109_19 i7x10b rfl; have a5 := (in_c 0 rfl); unfold In at a5; have a6 := tx_i2l e98; have a7 := i97; unfold In at a7; have a8 := tx_i2l e14; have a9 := tx_i2l e2; have oc := oc_290_109; omega⟩, ⟨by have a0 := i89; unfold In at a0; have a1 := i7x10b; unfold In at a1; have a2 := ro_109_19; unfold In at a2; have a3 := i43; unfold In at a3; have a4 := t_add e43 ro_109_19 i7x10b rfl; have a5 := (in_c 0 rfl); unfold In at a5; have a6 := tx_i2l e98; have a7 := i97; unfold In at a7; have a8 := tx_i2l e14; have a9 := tx_i2l e2; have oc := oc_290_109; omega, by have a0 := i89; unfold In at a0; have a1 := i7x10b; unfold In at a1; have a2 := ro_109_19; unfold In at a2; have a3 := i43; unfold In at a3; have a4 := t_add e43 ro_109_19 i7x10b rfl; have a5 := (in_c 0 rfl); unfold In at a5; have a6 := tx_i2l e98; have a7 := i97; unfold In at a7; have a8 := tx_i2l e14; have a9 := tx_i2l e2; have oc := oc_290_109; omega⟩⟩, tlv_2 (tg_ne hI (e50.trans (congrArg (s.1 112) hix)) (by have a0 := i89; unfold In at a0; have a1 := i7x10b; unfold In at a1; have a2 := ro_109_19; unfold In at a2; have a3 := i43; unfold In at a3; have a4 := t_add e43 ro_109_19 i7x10b rfl; have a5 := (in_c 0 rfl); unfold In at a5; have a6 := tx_i2l e98; have a7 := i97; unfold In at a7; have a8 := tx_i2l e14; have a9 := tx_i2l e2; have oc := oc_290_109; omega) (by rw [← hix]; show z43.toInt.toNat < 480; have a0 := i89; unfold In at a0; have a1 := i7x10b; unfold In at a1; have a2 := ro_109_19; unfold In at a2; have a3 := i43; unfold In at a3; have a4 := t_add e43 ro_109_19 i7x10b rfl; have a5 := (in_c 0 rfl); unfold In at a5; have a6 := tx_i2l e98; have a7 := i97; unfold In at a7; have a8 := tx_i2l e14; have a9 := tx_i2l e2; have oc := oc_290_109; omega)) (by have a0 := i89; unfold In at a0; have a1 := i7x10b; unfold In at a1; have a2 := ro_109_19; unfold In at a2; have a3 := i43; unfold In at a3; have a4 := t_add e43 ro_109_19 i7x10b rfl; have a5 := (in_c 0 rfl); unfold In at a5; have a6 := tx_i2l e98; have a7 := i97; unfold In at a7; have a8 := tx_i2l e14; have a9 := tx_i2l e2; have oc := oc_290_109; omega) (e97.trans (congrArg (s.1 115) hix)) (tx_i2l e98)⟩
                              exact g_lreturn (gd rfl) rfl (hP _ _ ⟨(sF s 109 0 (Int32.ofInt 0)), hI30x3x18, (fr_sF rfl fr_rf), z98, rfl, rfl, n124⟩)
                          · skip
                            have i74 := r_eq1 1 1 c74 i59 (in_c 1 rfl) rfl
                            refine g_aload_n 78 (gd rfl) rfl rfl ?_
                            refine g_getA (q2 := 114) 81 (gd rfl) rfl rfl rfl rfl ?_
                            refine g_iload_n 82 (gd rfl) rfl rfl ?_
                            refine g_iaload 83 (gd rfl) rfl (n := 480) rfl (in_ix i43 rfl) (fun z82 e82 => ?_)
                            have i82 := inv_I hI30x3x18 (n := 480) (t := 0) 0 31 rfl (in_ix i43 rfl) rfl e82
                            refine g_i2l 84 (gd rfl) rfl (fun z83 e83 => ?_)
                            have i83 := l_i e83 i82
                            refine g_goto 124 (gd rfl) rfl ?_
                            have n124 : TLR s (sF s 109 0 (Int32.ofInt 0)) x1 x2 z83 := by have hix := tg_ix hI e_109_19 (show z43.toInt = u_109_19.toInt + x1.toInt from (by have a0 := i74; unfold In at a0; have a1 := i7x10b; unfold In at a1; have a2 := ro_109_19; unfold In at a2; have a3 := i43; unfold In at a3; have a4 := t_add e43 ro_109_19 i7x10b rfl; have a5 := (in_c 0 rfl); unfold In at a5; have a6 := tx_i2l e83; have a7 := i82; unfold In at a7; have a8 := tx_i2l e14; have a9 := tx_i2l e2; have oc := oc_290_109; omega)) ⟨by have a0 := i74; unfold In at a0; have a1 := i7x10b; unfold In at a1; have a2 := ro_109_19; unfold In at a2; have a3 := i43; unfold In at a3; have a4 := t_add e43 ro_109_19 i7x10b rfl; have a5 := (in_c 0 rfl); unfold In at a5; have a6 := tx_i2l e83; have a7 := i82; unfold In at a7; have a8 := tx_i2l e14; have a9 := tx_i2l e2; have oc := oc_290_109; omega, by have a0 := i74; unfold In at a0; have a1 := i7x10b; unfold In at a1; have a2 := ro_109_19; unfold In at a2; have a3 := i43; unfold In at a3; have a4 := t_add e43 ro_109_19 i7x10b rfl; have a5 := (in_c 0 rfl); unfold In at a5; have a6 := tx_i2l e83; have a7 := i82; unfold In at a7; have a8 := tx_i2l e14; have a9 := tx_i2l e2; have oc := oc_290_109; omega⟩; exact Or.inr ⟨rfl, ⟨⟨by have a0 := i74; unfold In at a0; have a1 := i7x10b; unfold In at a1; have a2 := ro_109_19; unfold In at a2; have a3 := i43; unfold In at a3; have a4 := t_add e43 ro_109_19 i7x10b rfl; have a5 := (in_c 0 rfl); unfold In at a5; have a6 := tx_i2l e83; have a7 := i82; unfold In at a7; have a8 := tx_i2l e14; have a9 := tx_i2l e2; have oc := oc_290_109; omega, by have a0 := i74; unfold In at a0; have a1 := i7x10b; unfold In at a1; have a2 := ro_109_19; unfold In at a2; have a3 := i43; unfold In at a3; have a4 := t_add e43 ro_109_19 i7x10b rfl; have a5 := (in_c 0 rfl); unfold In at a5; have a6 := tx_i2l e83; have a7 := i82; unfold In at a7; have a8 := tx_i2l e14; have a9 := tx_i2l e2; have oc := oc_290_109; omega⟩, ⟨by have a0 := i74; unfold In at a0; have a1 := i7x10b; unfold In at a1; have a2 := ro_109_19; unfold In at a2; have a3 := i43; unfold In at a3; have a4 := t_add e43 ro_109_19 i7x10b rfl; have a5 := (in_c 0 rfl); unfold In at a5; have a6 := tx_i2l e83; have a7 := i82; unfold In at a7; have a8 := tx_i2l e14; have a9 := tx_i2l e2; have oc := oc_290_109; omega, by have a0 := i74; unfold In at a0; have a1 := i7x10b; unfold In at a1; have a2 := ro_109_19; unfold In at a2; have a3 := i43; unfold In at a3; have a4 := t_add e43 ro_109_19 i7x10b rfl; have a5 := (in_c 0 rfl); unfold In at a5; have a6 := tx_i2l e83; have a7 := i82; unfold In at a7; have a8 := tx_i2l e14; have a9 := tx_i2l e2; have oc := oc_290_109; omega⟩⟩, tlv_1 (tg_ne hI (e50.trans (congrArg (s.1 112) hix)) (by have a0 := i74; unfold In at a0; have a1 := i7x10b; unfold In at a1; have a2 := ro_109_19; unfold In at a2; have a3 := i43; unfold In at a3; have a4 := t_add e43 ro_109_19 i7x10b rfl; have a5 := (in_c 0 rfl); unfold In at a5; have a6 := tx_i2l e83; have a7 := i82; unfold In at a7; have a8 := tx_i2l e14; have a9 := tx_i2l e2; have oc := oc_290_109; omega) (by rw [← hix]; show z43.toInt.toNat < 480; have a0 := i74; unfold In at a0; have a1 := i7x10b; unfold In at a1; have a2 := ro_109_19; unfold In at a2; have a3 := i43; unfold In at a3; have a4 := t_add e43 ro_109_19 i7x10b rfl; have a5 := (in_c 0 rfl); unfold In at a5; have a6 := tx_i2l e83; have a7 := i82; unfold In at a7; have a8 := tx_i2l e14; have a9 := tx_i2l e2; have oc := oc_290_109; omega)) (by have a0 := i74; unfold In at a0; have a1 := i7x10b; unfold In at a1; have a2 := ro_109_19; unfold In at a2; have a3 := i43; unfold In at a3; have a4 := t_add e43 ro_109_19 i7x10b rfl; have a5 := (in_c 0 rfl); unfold In at a5; have a6 := tx_i2l e83; have a7 := i82; unfold In at a7; have a8 := tx_i2l e14; have a9 := tx_i2l e2; have oc := oc_290_109; omega) (e82.trans (congrArg (s.1 114) hix)) (tx_i2l e83)⟩
                            exact g_lreturn (gd rfl) rfl (hP _ _ ⟨(sF s 109 0 (Int32.ofInt 0)), hI30x3x18, (fr_sF rfl fr_rf), z83, rfl, rfl, n124⟩)
                        · skip
                          have i59 := z_eq 0 0 c59 i19x10b rfl
                          refine g_aload_n 63 (gd rfl) rfl rfl ?_
                          refine g_getA (q2 := 113) 66 (gd rfl) rfl rfl rfl rfl ?_
                          refine g_iload_n 67 (gd rfl) rfl rfl ?_
                          refine g_iaload 68 (gd rfl) rfl (n := 480) rfl (in_ix i43 rfl) (fun z67 e67 => ?_)
                          have i67 := inv_I hI30x3x18 (n := 480) (t := 0) 0 31 rfl (in_ix i43 rfl) rfl e67
                          refine g_i2l 69 (gd rfl) rfl (fun z68 e68 => ?_)
                          have i68 := l_i e68 i67
                          refine g_goto 124 (gd rfl) rfl ?_
                          have n124 : TLR s (sF s 109 0 (Int32.ofInt 0)) x1 x2 z68 := by have hix := tg_ix hI e_109_19 (show z43.toInt = u_109_19.toInt + x1.toInt from (by have a0 := i59; unfold In at a0; have a1 := i7x10b; unfold In at a1; have a2 := ro_109_19; unfold In at a2; have a3 := i43; unfold In at a3; have a4 := t_add e43 ro_109_19 i7x10b rfl; have a5 := (in_c 0 rfl); unfold In at a5; have a6 := tx_i2l e68; have a7 := i67; unfold In at a7; have a8 := tx_i2l e14; have a9 := tx_i2l e2; have oc := oc_290_109; omega)) ⟨by have a0 := i59; unfold In at a0; have a1 := i7x10b; unfold In at a1; have a2 := ro_109_19; unfold In at a2; have a3 := i43; unfold In at a3; have a4 := t_add e43 ro_109_19 i7x10b rfl; have a5 := (in_c 0 rfl); unfold In at a5; have a6 := tx_i2l e68; have a7 := i67; unfold In at a7; have a8 := tx_i2l e14; have a9 := tx_i2l e2; have oc := oc_290_109; omega, by have a0 := i59; unfold In at a0; have a1 := i7x10b; unfold In at a1; have a2 := ro_109_19; unfold In at a2; have a3 := i43; unfold In at a3; have a4 := t_add e43 ro_109_19 i7x10b rfl; have a5 := (in_c 0 rfl); unfold In at a5; have a6 := tx_i2l e68; have a7 := i67; unfold In at a7; have a8 := tx_i2l e14; have a9 := tx_i2l e2; have oc := oc_290_109; omega⟩; exact Or.inr ⟨rfl, ⟨⟨by have a0 := i59; unfold In at a0; have a1 := i7x10b; unfold In at a1; have a2 := ro_109_19; unfold In at a2; have a3 := i43; unfold In at a3; have a4 := t_add e43 ro_109_19 i7x10b rfl; have a5 := (in_c 0 rfl); unfold In at a5; have a6 := tx_i2l e68; have a7 := i67; unfold In at a7; have a8 := tx_i2l e14; have a9 := tx_i2l e2; have oc := oc_290_109; omega, by have a0 := i59; unfold In at a0; have a1 := i7x10b; unfold In at a1; have a2 := ro_109_19; unfold In at a2; have a3 := i43; unfold In at a3; have a4 := t_add e43 ro_109_19 i7x10b rfl; have a5 := (in_c 0 rfl); unfold In at a5; have a6 := tx_i2l e68; have a7 := i67; unfold In at a7; have a8 := tx_i2l e14; have a9 := tx_i2l e2; have oc := oc_290_109; omega⟩, ⟨by have a0 := i59; unfold In at a0; have a1 := i7x10b; unfold In at a1; have a2 := ro_109_19; unfold In at a2; have a3 := i43; unfold In at a3; have a4 := t_add e43 ro_109_19 i7x10b rfl; have a5 := (in_c 0 rfl); unfold In at a5; have a6 := tx_i2l e68; have a7 := i67; unfold In at a7; have a8 := tx_i2l e14; have a9 := tx_i2l e2; have oc := oc_290_109; omega, by have a0 := i59; unfold In at a0; have a1 := i7x10b; unfold In at a1; have a2 := ro_109_19; unfold In at a2; have a3 := i43; unfold In at a3; have a4 := t_add e43 ro_109_19 i7x10b rfl; have a5 := (in_c 0 rfl); unfold In at a5; have a6 := tx_i2l e68; have a7 := i67; unfold In at a7; have a8 := tx_i2l e14; have a9 := tx_i2l e2; have oc := oc_290_109; omega⟩⟩, tlv_0 (tg_ne hI (e50.trans (congrArg (s.1 112) hix)) (by have a0 := i59; unfold In at a0; have a1 := i7x10b; unfold In at a1; have a2 := ro_109_19; unfold In at a2; have a3 := i43; unfold In at a3; have a4 := t_add e43 ro_109_19 i7x10b rfl; have a5 := (in_c 0 rfl); unfold In at a5; have a6 := tx_i2l e68; have a7 := i67; unfold In at a7; have a8 := tx_i2l e14; have a9 := tx_i2l e2; have oc := oc_290_109; omega) (by rw [← hix]; show z43.toInt.toNat < 480; have a0 := i59; unfold In at a0; have a1 := i7x10b; unfold In at a1; have a2 := ro_109_19; unfold In at a2; have a3 := i43; unfold In at a3; have a4 := t_add e43 ro_109_19 i7x10b rfl; have a5 := (in_c 0 rfl); unfold In at a5; have a6 := tx_i2l e68; have a7 := i67; unfold In at a7; have a8 := tx_i2l e14; have a9 := tx_i2l e2; have oc := oc_290_109; omega)) (by have a0 := i59; unfold In at a0; have a1 := i7x10b; unfold In at a1; have a2 := ro_109_19; unfold In at a2; have a3 := i43; unfold In at a3; have a4 := t_add e43 ro_109_19 i7x10b rfl; have a5 := (in_c 0 rfl); unfold In at a5; have a6 := tx_i2l e68; have a7 := i67; unfold In at a7; have a8 := tx_i2l e14; have a9 := tx_i2l e2; have oc := oc_290_109; omega) (tg_is (e50.trans (congrArg (s.1 112) hix)) (by have a0 := i59; unfold In at a0; have a1 := i7x10b; unfold In at a1; have a2 := ro_109_19; unfold In at a2; have a3 := i43; unfold In at a3; have a4 := t_add e43 ro_109_19 i7x10b rfl; have a5 := (in_c 0 rfl); unfold In at a5; have a6 := tx_i2l e68; have a7 := i67; unfold In at a7; have a8 := tx_i2l e14; have a9 := tx_i2l e2; have oc := oc_290_109; omega) (e67.trans (congrArg (s.1 113) hix))) (tx_i2l e68)⟩
                          exact g_lreturn (gd rfl) rfl (hP _ _ ⟨(sF s 109 0 (Int32.ofInt 0)), hI30x3x18, (fr_sF rfl fr_rf), z68, rfl, rfl, n124⟩)
                      · skip
                        have i51 := z_eq 0 0 c51 i50 rfl
                        refine g_ldc2_w 9000000000000000 57 (gd rfl) rfl rfl ?_
                        have n57 : TLR s (sF s 109 0 (Int32.ofInt 0)) x1 x2 (Int64.ofInt 9000000000000000) := by have hix := tg_ix hI e_109_19 (show z43.toInt = u_109_19.toInt + x1.toInt from (by have a0 := i19x10b; unfold In at a0; have a1 := i7x10b; unfold In at a1; have a2 := ro_109_19; unfold In at a2; have a3 := i43; unfold In at a3; have a4 := t_add e43 ro_109_19 i7x10b rfl; have a5 := (in_c 0 rfl); unfold In at a5; have a6 := tx_i2l e14; have a7 := tx_i2l e2; have oc := oc_290_109; omega)) ⟨by have a0 := i19x10b; unfold In at a0; have a1 := i7x10b; unfold In at a1; have a2 := ro_109_19; unfold In at a2; have a3 := i43; unfold In at a3; have a4 := t_add e43 ro_109_19 i7x10b rfl; have a5 := (in_c 0 rfl); unfold In at a5; have a6 := tx_i2l e14; have a7 := tx_i2l e2; have oc := oc_290_109; omega, by have a0 := i19x10b; unfold In at a0; have a1 := i7x10b; unfold In at a1; have a2 := ro_109_19; unfold In at a2; have a3 := i43; unfold In at a3; have a4 := t_add e43 ro_109_19 i7x10b rfl; have a5 := (in_c 0 rfl); unfold In at a5; have a6 := tx_i2l e14; have a7 := tx_i2l e2; have oc := oc_290_109; omega⟩; exact Or.inr ⟨rfl, ⟨⟨by have a0 := i19x10b; unfold In at a0; have a1 := i7x10b; unfold In at a1; have a2 := ro_109_19; unfold In at a2; have a3 := i43; unfold In at a3; have a4 := t_add e43 ro_109_19 i7x10b rfl; have a5 := (in_c 0 rfl); unfold In at a5; have a6 := tx_i2l e14; have a7 := tx_i2l e2; have oc := oc_290_109; omega, by have a0 := i19x10b; unfold In at a0; have a1 := i7x10b; unfold In at a1; have a2 := ro_109_19; unfold In at a2; have a3 := i43; unfold In at a3; have a4 := t_add e43 ro_109_19 i7x10b rfl; have a5 := (in_c 0 rfl); unfold In at a5; have a6 := tx_i2l e14; have a7 := tx_i2l e2; have oc := oc_290_109; omega⟩, ⟨by have a0 := i19x10b; unfold In at a0; have a1 := i7x10b; unfold In at a1; have a2 := ro_109_19; unfold In at a2; have a3 := i43; unfold In at a3; have a4 := t_add e43 ro_109_19 i7x10b rfl; have a5 := (in_c 0 rfl); unfold In at a5; have a6 := tx_i2l e14; have a7 := tx_i2l e2; have oc := oc_290_109; omega, by have a0 := i19x10b; unfold In at a0; have a1 := i7x10b; unfold In at a1; have a2 := ro_109_19; unfold In at a2; have a3 := i43; unfold In at a3; have a4 := t_add e43 ro_109_19 i7x10b rfl; have a5 := (in_c 0 rfl); unfold In at a5; have a6 := tx_i2l e14; have a7 := tx_i2l e2; have oc := oc_290_109; omega⟩⟩, tlv_no (tg_no (e50.trans (congrArg (s.1 112) hix)) (by have a0 := i19x10b; unfold In at a0; have a1 := i7x10b; unfold In at a1; have a2 := ro_109_19; unfold In at a2; have a3 := i43; unfold In at a3; have a4 := t_add e43 ro_109_19 i7x10b rfl; have a5 := (in_c 0 rfl); unfold In at a5; have a6 := tx_i2l e14; have a7 := tx_i2l e2; have oc := oc_290_109; omega)) (by decide)⟩
                        exact g_lreturn (gd rfl) rfl (hP _ _ ⟨(sF s 109 0 (Int32.ofInt 0)), hI30x3x18, (fr_sF rfl fr_rf), (Int64.ofInt 9000000000000000), rfl, rfl, n57⟩)
                    · skip
                      exact zn_ne c33 (in_c 0 rfl) rfl
                  · skip
                    exact zn_gt c30x3x25 (in_c 0 rfl) rfl
                · skip
                  exact zn_eq c30x3x10 (in_c 1 rfl) rfl
              · skip
                exact zn_eq c30x3x2 (in_c 1 rfl) rfl
