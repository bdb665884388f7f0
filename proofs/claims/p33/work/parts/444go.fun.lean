/-! FUNCTIONAL CONTRACTS, by fgen.py -/
theorem oc_135_1_46 : (Int32.ofInt (-4)).toInt = (-4) ∧ (Int32.ofInt (-1)).toInt = (-1) ∧ (Int32.ofInt 0).toInt = 0 ∧ (Int32.ofInt 1).toInt = 1 ∧ (Int32.ofInt 7).toInt = 7 ∧ (Int32.ofInt 1000).toInt = 1000 := ⟨rfl, rfl, rfl, rfl, rfl, rfl⟩
/-- GraphHouse$Ledger.carryOut -/
theorem f_135_1_46 {Z : AmZ} {A : Nat → Nat} {s : GS} {ex : va_W} {d : Nat} {X : AmX} {u_2_0 : Int32} {u_2_1 : Int32} {u_30_0 : Int32} {u_46_1 : Int32} (hd : 10 ≤ d) (hI : Inv s) (e_2_0 : u_2_0 = s.2.2.1 2 0) (e_2_1 : u_2_1 = s.2.2.1 2 1) (e_30_0 : u_30_0 = s.2.2.1 30 0) (e_46_1 : u_46_1 = s.2.2.1 46 1) (q_0 : KL s) (q_1 : TQ s) : GC Z d 135 [.ref (A 1), .ref (A 46)] (WW Z A s ++ ex) (lgC s) (lgS s) (fun v u => ∃ a : Nat, ∃ t : GS, Inv t ∧ Fr fm_135_1_46 s t ∧ ∃ z : Int32, v = some (.int z) ∧ u = WW Z (ax A 30 a) t ++ ex ∧ In z (-4) 1000 ∧ (KL t) ∧ ((z).toInt ≠ -4 → LOT (s.1 47) (s.2.2.1 46 1).toInt.toNat (gvC s) (z).toInt 0 0 (gvC t) ∧ (t.2.2.1 46 6).toInt = -1 ∧ (t.2.2.1 46 7).toInt = -1) ∧ ((z).toInt = -4 → LOT (s.1 47) (s.2.2.1 46 1).toInt.toNat (gvC s) (-4) (t.2.2.1 46 6).toInt (t.2.2.1 46 7).toInt (gvC t)) ∧ (TQ t) ∧ (LCO s t z)) X := by
  intro post xp hP hX
  have ro_46_1 := inv_F hI 0 1000 rfl e_46_1
  have ct17 : ∀ (k17 : Nat) (sc17 : GS) (ac17 : Nat) (cc17 : Nat) (cs17 : Nat) (y17_2 : Int32) (w17_46_2 : Int32) (w17_2_0 : Int32) (w17_2_1 : Int32) (w17_30_0 : Int32), Inv sc17 → Fr fm_135_1_46 s sc17 → (lgC sc17 ≤ cc17) → (lgS sc17 ≤ cs17) → (In y17_2 0 2001) → (w17_46_2 = sc17.2.2.1 46 2) → (w17_2_0 = sc17.2.2.1 2 0) → (w17_2_1 = sc17.2.2.1 2 1) → (w17_30_0 = sc17.2.2.1 30 0) → ((w17_46_2).toInt ≤ (u_46_1).toInt) → ((u_2_0).toInt ≤ (w17_2_0).toInt) → (KL sc17) → ((∀ p : Nat, p < 160 → sc17.1 18 p = s.1 4 p ∧ sc17.1 19 p = s.1 5 p) ∧ sc17.2.2.1 16 0 = s.2.2.1 2 0 ∧ sc17.2.2.1 16 1 = s.2.2.1 2 1) → (∀ k : Nat, (k : Int) < 7 * (s.2.2.1 2 0).toInt → sc17.1 30 k = s.1 30 k) → (GEQ (gvS sc17) (gvC s) ∧ TQS sc17) → (LRN (s.1 47) (s.2.2.1 46 1).toInt.toNat (gvC s) (y17_2).toInt.toNat (w17_46_2).toInt.toNat (gvC sc17)) → (TQ sc17) → ((sc17.2.2.1 46 6).toInt = -1 ∧ (sc17.2.2.1 46 7).toInt = -1) → (LGS s sc17 (y17_2).toInt.toNat) → 2001 - (y17_2).toInt < (k17 : Int) → GG Z (d - 1) 135 post (gx xp) (1 + k17 * 900) 17 (fun j => xlook j [(0, .ref (A 1)), (1, .ref (A 46)), (2, .int y17_2)]) [] (WW Z (ax A 30 ac17) sc17 ++ ex) cc17 cs17 := by
    intro k17
    induction k17 with
    | zero => intro sc17 ac17 cc17 cs17 y17_2 w17_46_2 w17_2_0 w17_2_1 w17_30_0 hIc17 hFc17 hcc17 hcs17 j17_2 v17_46_2 v17_2_0 v17_2_1 v17_30_0 n17_0 n17_1 g17_0 g17_1 g17_2 g17_3 g17_4 g17_5 g17_6 g17_7 mm17; exact m_no mm17 j17_2 rfl
    | succ k17 ih17 =>
      intro sc17 ac17 cc17 cs17 y17_2 w17_46_2 w17_2_0 w17_2_1 w17_30_0 hIc17 hFc17 hcc17 hcs17 j17_2 v17_46_2 v17_2_0 v17_2_1 v17_30_0 n17_0 n17_1 g17_0 g17_1 g17_2 g17_3 g17_4 g17_5 g17_6 g17_7 mm17
      refine gg_w (M := 1 + k17 * 900 + 900) gws ?_
      refine g_iload_n 18 (gd rfl) rfl rfl ?_
      refine g_sipush 1000 21 (gd rfl) rfl rfl ?_
      refine g_cmp_gt 24 68 (gd rfl) rfl rfl (fun c21 => ?_) (fun c21 => ?_)
      · skip
        have i21 := r_lt2 1001 2001 c21 (in_c 1000 rfl) j17_2 rfl
        refine g_bipush (-4) 70 (gd rfl) rfl rfl ?_
        have n70 : KL sc17 := by exact g17_0
        have n70a : ((Int32.ofInt (-4))).toInt ≠ -4 → LOT (s.1 47) (s.2.2.1 46 1).toInt.toNat (gvC s) ((Int32.ofInt (-4))).toInt 0 0 (gvC sc17) ∧ (sc17.2.2.1 46 6).toInt = -1 ∧ (sc17.2.2.1 46 7).toInt = -1 := by intro h; exact absurd rfl h
        have n70b : ((Int32.ofInt (-4))).toInt = -4 → LOT (s.1 47) (s.2.2.1 46 1).toInt.toNat (gvC s) (-4) (sc17.2.2.1 46 6).toInt (sc17.2.2.1 46 7).toInt (gvC sc17) := by intro _; exfalso; have h9 := lrn_l _ g17_4; (first | have a0 := in_u ro_46_1 | (have a0 := ro_46_1; unfold In at a0)); (first | have a1 := in_u ((inv_F hIc17 448 28000 rfl v17_30_0)) | (have a1 := (inv_F hIc17 448 28000 rfl v17_30_0); unfold In at a1)); (first | have a2 := in_u ((inv_F hIc17 0 32 rfl v17_2_1)) | (have a2 := (inv_F hIc17 0 32 rfl v17_2_1); unfold In at a2)); (first | have a3 := in_u ((inv_F hIc17 0 4000 rfl v17_2_0)) | (have a3 := (inv_F hIc17 0 4000 rfl v17_2_0); unfold In at a3)); (first | have a4 := in_u ((inv_F hIc17 0 1000 rfl v17_46_2)) | (have a4 := (inv_F hIc17 0 1000 rfl v17_46_2); unfold In at a4)); (first | have a5 := in_u i21 | (have a5 := i21; unfold In at a5)); have oc := oc_135_1_46; omega
        have n70c : TQ sc17 := by exact g17_5
        have n70d : LCO s sc17 (Int32.ofInt (-4)) := by exact ⟨fun h => absurd rfl h, fun _ => (by exfalso; have h9 := lrn_l _ g17_4; (first | have a0 := in_u ro_46_1 | (have a0 := ro_46_1; unfold In at a0)); (first | have a1 := in_u ((inv_F hIc17 448 28000 rfl v17_30_0)) | (have a1 := (inv_F hIc17 448 28000 rfl v17_30_0); unfold In at a1)); (first | have a2 := in_u ((inv_F hIc17 0 32 rfl v17_2_1)) | (have a2 := (inv_F hIc17 0 32 rfl v17_2_1); unfold In at a2)); (first | have a3 := in_u ((inv_F hIc17 0 4000 rfl v17_2_0)) | (have a3 := (inv_F hIc17 0 4000 rfl v17_2_0); unfold In at a3)); (first | have a4 := in_u ((inv_F hIc17 0 1000 rfl v17_46_2)) | (have a4 := (inv_F hIc17 0 1000 rfl v17_46_2); unfold In at a4)); (first | have a5 := in_u i21 | (have a5 := i21; unfold In at a5)); have oc := oc_135_1_46; omega)⟩
        exact g_ireturn (gd rfl) rfl rfl (hP _ _ ⟨ac17, sc17, hIc17, hFc17, (Int32.ofInt (-4)), rfl, rfl, in_w (-4) 1000 (in_c (-4) rfl) rfl, n70, n70a, n70b, n70c, n70d⟩)
      · skip
        have i21 := r_le1 0 1000 c21 j17_2 (in_c 1000 rfl) rfl
        refine g_aload_n 25 (gd rfl) rfl rfl ?_
        refine g_bipush 7 27 (gd rfl) rfl rfl ?_
        refine g_iconst 1 28 (gd rfl) rfl rfl ?_
        have v28 : u_46_1 = sc17.2.2.1 46 1 := fr_F e_46_1 hFc17 rfl
        have n28 : (w17_46_2).toInt ≤ (u_46_1).toInt := by first | exact n17_0 | ((first | have a0 := in_u ro_46_1 | (have a0 := ro_46_1; unfold In at a0)); (first | have a1 := in_u ((inv_F hIc17 448 28000 rfl v17_30_0)) | (have a1 := (inv_F hIc17 448 28000 rfl v17_30_0); unfold In at a1)); (first | have a2 := in_u ((inv_F hIc17 0 32 rfl v17_2_1)) | (have a2 := (inv_F hIc17 0 32 rfl v17_2_1); unfold In at a2)); (first | have a3 := in_u ((inv_F hIc17 0 4000 rfl v17_2_0)) | (have a3 := (inv_F hIc17 0 4000 rfl v17_2_0); unfold In at a3)); (first | have a4 := in_u ((inv_F hIc17 0 1000 rfl v17_46_2)) | (have a4 := (inv_F hIc17 0 1000 rfl v17_46_2); unfold In at a4)); (first | have a5 := in_u i21 | (have a5 := i21; unfold In at a5)); have oc := oc_135_1_46; omega)
        refine g_callv (X := _) (As := [.int (Int32.ofInt 7), .int (Int32.ofInt 1)]) (r := []) (b := A 46) (q := 46) 31 (gd rfl) rfl rfl rfl rfl rfl (ww_o rfl) (Nat.le_of_ble_eq_true rfl) (Nat.zero_le _) (Nat.zero_le _) (f_171_46 (A := (ax A 30 ac17)) (by omega) hIc17 (in_w 7 7 (in_c 7 rfl) rfl) (in_w 1 1 (in_c 1 rfl) rfl) v17_46_2 v28 n28) (fun e u h => h) (fun v u h => ?_)
        obtain ⟨s28, hI28, hF28, n28a, n28b, n28c, rfl, rfl, p28, p28a, p28b⟩ := h
        obtain ⟨z28a, e28⟩ : ∃ w, w = s28.2.2.1 46 2 := ⟨_, rfl⟩
        have i28a := inv_F hI28 0 1000 rfl e28
        obtain ⟨z28b, e28a⟩ : ∃ w, w = s28.2.2.1 46 4 := ⟨_, rfl⟩
        have i28b := inv_F hI28 0 1000 rfl e28a
        rw [← (show z28a = s28.2.2.1 46 2 from e28)] at n28a
        rw [← (show u_46_1 = s28.2.2.1 46 1 from fr_F (fr_F e_46_1 hFc17 rfl) hF28 rfl)] at n28a
        rw [← (show z28a = s28.2.2.1 46 2 from e28)] at n28b
        rw [← (show z28b = s28.2.2.1 46 4 from e28a)] at n28b
        rw [← (show w17_46_2 = sc17.2.2.1 46 2 from v17_46_2)] at n28c
        rw [← (show z28b = s28.2.2.1 46 4 from e28a)] at n28c
        show GG _ _ _ _ _ _ _ _ [] _ _ _
        have ht28 : TKN (s28.1 47) (s28.2.2.1 46 1).toInt.toNat (w17_46_2).toInt.toNat (s28.2.2.1 46 4).toInt.toNat (s28.2.2.1 46 2).toInt.toNat (s28.2.2.1 46 3).toInt (s28.2.2.1 46 5).toInt := (by rw [hF28.1 47 rfl, hF28.2.2.1 46 1 rfl, v17_46_2]; exact p28b)
        have hx28 : s28.1 47 = s.1 47 := (hF28.1 47 rfl).trans (hFc17.1 47 rfl)
        have hl28 : s28.2.2.1 46 1 = s.2.2.1 46 1 := (hF28.2.2.1 46 1 rfl).trans (hFc17.2.2.1 46 1 rfl)
        have hg28 : gvC s28 = gvC sc17 := gvC_cg hF28 rfl
        have hk28 : ∀ t : GS, (∀ a : Nat, TKN (s28.1 47) (s28.2.2.1 46 1).toInt.toNat a (s28.2.2.1 46 4).toInt.toNat (s28.2.2.1 46 2).toInt.toNat (s28.2.2.1 46 3).toInt (s28.2.2.1 46 5).toInt → ∃ c V, CMP (s28.1 47) (s28.2.2.1 46 1).toInt.toNat a (s28.2.2.1 46 4).toInt.toNat c V (t.2.2.1 46 2).toInt.toNat ∧ dkC (gvC s28) c V ∧ gvC t = opC (gvC s28) c V) → LRN (s.1 47) (s.2.2.1 46 1).toInt.toNat (gvC s) (y17_2.toInt.toNat + 1) (t.2.2.1 46 2).toInt.toNat (gvC t) := (fun t h => by obtain ⟨c, V, h1, h2, h3⟩ := h _ ht28; rw [hx28, hl28] at h1; rw [hg28] at h2 h3; exact ⟨_, _, _, c, V, g17_4, h1, h2, h3⟩)
        refine g_aload_n 32 (gd rfl) rfl rfl ?_
        refine g_getI (A := (ax A 30 ac17)) (q := 46) 35 (gd rfl) rfl rfl rfl (fun z32 e32 => ?_)
        have i32 := inv_F hI28 0 5 rfl e32
        refine g_if_ne 38 40 (gd rfl) rfl rfl (fun c35 => ?_) (fun c35 => ?_)
        · skip
          have i35 := z_ne 1 5 c35 i32 rfl
          refine g_aload_n 41 (gd rfl) rfl rfl ?_
          refine g_aload_n 42 (gd rfl) rfl rfl ?_
          have v42 : w17_2_0 = s28.2.2.1 2 0 := fr_F (v17_2_0) hF28 rfl
          have v42a : w17_2_1 = s28.2.2.1 2 1 := fr_F (v17_2_1) hF28 rfl
          have v42b : w17_30_0 = s28.2.2.1 30 0 := fr_F (v17_30_0) hF28 rfl
          have v42c : u_46_1 = s28.2.2.1 46 1 := fr_F (fr_F e_46_1 hFc17 rfl) hF28 rfl
          have n42 : (z28a).toInt ≤ (u_46_1).toInt := by (first | have a0 := in_u ro_46_1 | (have a0 := ro_46_1; unfold In at a0)); (first | have a1 := in_u ((inv_F hIc17 448 28000 rfl v17_30_0)) | (have a1 := (inv_F hIc17 448 28000 rfl v17_30_0); unfold In at a1)); (first | have a2 := in_u ((inv_F hIc17 0 32 rfl v17_2_1)) | (have a2 := (inv_F hIc17 0 32 rfl v17_2_1); unfold In at a2)); (first | have a3 := in_u ((inv_F hIc17 0 4000 rfl v17_2_0)) | (have a3 := (inv_F hIc17 0 4000 rfl v17_2_0); unfold In at a3)); (first | have a4 := in_u ((inv_F hIc17 0 1000 rfl v17_46_2)) | (have a4 := (inv_F hIc17 0 1000 rfl v17_46_2); unfold In at a4)); (first | have a5 := in_u i21 | (have a5 := i21; unfold In at a5)); (first | have a6 := in_u i35 | (have a6 := i35; unfold In at a6)); (first | have a7 := in_u i28b | (have a7 := i28b; unfold In at a7)); (first | have a8 := in_u i28a | (have a8 := i28a; unfold In at a8)); have oc := oc_135_1_46; omega
          have p42 : KL s28 := by exact kl_fr g17_0 hF28 rfl
          have p42a : (s28.2.2.1 46 3).toInt = 1 → In (s28.2.2.1 46 5) 0 25 := by exact p28a
          have p42b : ∃ a : Nat, TKN (s28.1 47) (s28.2.2.1 46 1).toInt.toNat a (s28.2.2.1 46 4).toInt.toNat (s28.2.2.1 46 2).toInt.toNat (s28.2.2.1 46 3).toInt (s28.2.2.1 46 5).toInt := by exact ⟨_, ht28⟩
          have p42c : TQ s28 := by exact tq_fr g17_5 hF28 rfl
          have p42d : (s28.2.2.1 46 3).toInt ≠ 0 := by rw [← (show z32 = s28.2.2.1 46 3 from e32)]; (first | have a0 := in_u ro_46_1 | (have a0 := ro_46_1; unfold In at a0)); (first | have a1 := in_u ((inv_F hIc17 448 28000 rfl v17_30_0)) | (have a1 := (inv_F hIc17 448 28000 rfl v17_30_0); unfold In at a1)); (first | have a2 := in_u ((inv_F hIc17 0 32 rfl v17_2_1)) | (have a2 := (inv_F hIc17 0 32 rfl v17_2_1); unfold In at a2)); (first | have a3 := in_u ((inv_F hIc17 0 4000 rfl v17_2_0)) | (have a3 := (inv_F hIc17 0 4000 rfl v17_2_0); unfold In at a3)); (first | have a4 := in_u ((inv_F hIc17 0 1000 rfl v17_46_2)) | (have a4 := (inv_F hIc17 0 1000 rfl v17_46_2); unfold In at a4)); (first | have a5 := in_u i21 | (have a5 := i21; unfold In at a5)); (first | have a6 := in_u i35 | (have a6 := i35; unfold In at a6)); (first | have a7 := in_u i28b | (have a7 := i28b; unfold In at a7)); (first | have a8 := in_u i28a | (have a8 := i28a; unfold In at a8)); have oc := oc_135_1_46; omega
          refine g_callv (X := _) (As := [.ref (A 46)]) (r := []) (b := A 1) (q := 1) 45 (gd rfl) rfl rfl rfl rfl rfl (ww_o rfl) (Nat.le_of_ble_eq_true rfl) (Nat.le_trans (lg_lc (inv_F hI28 448 28000 (q := 30) (j := 0) rfl rfl)).1 (by have h2 := (lg_cg (hF28.2.2.1 30 0 rfl)).1; omega)) (Nat.le_trans (lg_lc (inv_F hI28 448 28000 (q := 30) (j := 0) rfl rfl)).2 (by have h2 := (lg_cg (hF28.2.2.1 30 0 rfl)).2; omega)) (f_136_1_46 (A := (ax A 30 ac17)) (by omega) hI28 v42 v42a v42b e28 v42c e32 e28a rfl n42 p42 p42a p42b p42c p42d) (fun e u h => h) (fun v u h => ?_)
          obtain ⟨a42, s42, hI42, hF42, n42a, n42b, z42, rfl, rfl, i42, p42e, p42f, p42g, p42h, p42i, p42j, p42k, p42l, p42m, p42n⟩ := h
          rw [ax_ax]
          obtain ⟨z42a, e42⟩ : ∃ w, w = s42.2.2.1 46 2 := ⟨_, rfl⟩
          have i42a := inv_F hI42 0 1000 rfl e42
          obtain ⟨z42b, e42a⟩ : ∃ w, w = s42.2.2.1 2 0 := ⟨_, rfl⟩
          have i42b := inv_F hI42 0 4000 rfl e42a
          rw [← (show z42a = s42.2.2.1 46 2 from e42)] at n42a
          rw [← (show u_46_1 = s42.2.2.1 46 1 from fr_F (fr_F (fr_F e_46_1 hFc17 rfl) hF28 rfl) hF42 rfl)] at n42a
          rw [← (show w17_2_0 = s28.2.2.1 2 0 from fr_F (v17_2_0) hF28 rfl)] at n42b
          rw [← (show z42b = s42.2.2.1 2 0 from e42a)] at n42b
          show GG _ _ _ _ _ _ _ _ [.int z42] _ _ _
          have hv42 : _ = s42.2.2.1 2 0 := (show z42b = s42.2.2.1 2 0 from e42a)
          refine g_if_ne 48 62 (gd rfl) rfl rfl (fun c45 => ?_) (fun c45 => ?_)
          · skip
            have i45 := z_ne 1 1 c45 i42 rfl
            refine g_iinc 65 (gd rfl) rfl rfl (Nat.le_of_ble_eq_true rfl) (fun z62 e62 => ?_)
            have i62 := in_add 1 1001 e62 i21 (in_c 1 rfl) rfl rfl
            refine g_goto 17 (gd rfl) rfl ?_
            have hr17 : lgC s42 ≤ (cc17 - lc s28) := by have h := (lgt_st (s := s28) (t := s42) (inv_F hI28 448 28000 (q := 30) (j := 0) rfl rfl) (p42g c45) (kl_fr g17_0 hF28 rfl).2.1 (p42f c45)).1; have h2 := (lg_cg (hF28.2.2.1 30 0 rfl)).1; omega
            have hr17a : lgS s42 ≤ (cs17 - lsl s28) := by have h := (lgt_st (s := s28) (t := s42) (inv_F hI28 448 28000 (q := 30) (j := 0) rfl rfl) (p42g c45) (kl_fr g17_0 hF28 rfl).2.1 (p42f c45)).2; have h2 := (lg_cg (hF28.2.2.1 30 0 rfl)).2; omega
            have n17 : (z42a).toInt ≤ (u_46_1).toInt := by (first | have a0 := in_u ro_46_1 | (have a0 := ro_46_1; unfold In at a0)); (first | have a1 := in_u ((inv_F hIc17 448 28000 rfl v17_30_0)) | (have a1 := (inv_F hIc17 448 28000 rfl v17_30_0); unfold In at a1)); (first | have a2 := in_u ((inv_F hIc17 0 32 rfl v17_2_1)) | (have a2 := (inv_F hIc17 0 32 rfl v17_2_1); unfold In at a2)); (first | have a3 := in_u ((inv_F hIc17 0 4000 rfl v17_2_0)) | (have a3 := (inv_F hIc17 0 4000 rfl v17_2_0); unfold In at a3)); (first | have a4 := in_u ((inv_F hIc17 0 1000 rfl v17_46_2)) | (have a4 := (inv_F hIc17 0 1000 rfl v17_46_2); unfold In at a4)); (first | have a5 := in_u i21 | (have a5 := i21; unfold In at a5)); (first | have a6 := in_u i62 | (have a6 := i62; unfold In at a6)); have a7 := t_add e62 i21 (in_c 1 rfl) rfl; (first | have a8 := in_u ((in_c 1 rfl)) | (have a8 := (in_c 1 rfl); unfold In at a8)); (first | have a9 := in_u i42b | (have a9 := i42b; unfold In at a9)); (first | have a10 := in_u i42a | (have a10 := i42a; unfold In at a10)); have oc := oc_135_1_46; omega
            have n17a : (u_2_0).toInt ≤ (z42b).toInt := by (first | have a0 := in_u ro_46_1 | (have a0 := ro_46_1; unfold In at a0)); (first | have a1 := in_u ((inv_F hIc17 448 28000 rfl v17_30_0)) | (have a1 := (inv_F hIc17 448 28000 rfl v17_30_0); unfold In at a1)); (first | have a2 := in_u ((inv_F hIc17 0 32 rfl v17_2_1)) | (have a2 := (inv_F hIc17 0 32 rfl v17_2_1); unfold In at a2)); (first | have a3 := in_u ((inv_F hIc17 0 4000 rfl v17_2_0)) | (have a3 := (inv_F hIc17 0 4000 rfl v17_2_0); unfold In at a3)); (first | have a4 := in_u ((inv_F hIc17 0 1000 rfl v17_46_2)) | (have a4 := (inv_F hIc17 0 1000 rfl v17_46_2); unfold In at a4)); (first | have a5 := in_u i21 | (have a5 := i21; unfold In at a5)); (first | have a6 := in_u i62 | (have a6 := i62; unfold In at a6)); have a7 := t_add e62 i21 (in_c 1 rfl) rfl; (first | have a8 := in_u ((in_c 1 rfl)) | (have a8 := (in_c 1 rfl); unfold In at a8)); (first | have a9 := in_u i42b | (have a9 := i42b; unfold In at a9)); (first | have a10 := in_u i42a | (have a10 := i42a; unfold In at a10)); have oc := oc_135_1_46; omega
            have n17b : KL s42 := by exact p42e
            have n17c : (∀ p : Nat, p < 160 → s42.1 18 p = s.1 4 p ∧ s42.1 19 p = s.1 5 p) ∧ s42.2.2.1 16 0 = s.2.2.1 2 0 ∧ s42.2.2.1 16 1 = s.2.2.1 2 1 := by exact ⟨fun p hp => by rw [hF42.1 18 rfl, hF42.1 19 rfl, hF28.1 18 rfl, hF28.1 19 rfl]; exact g17_1.1 p hp, by rw [hF42.2.2.1 16 0 rfl, hF28.2.2.1 16 0 rfl]; exact g17_1.2.1, by rw [hF42.2.2.1 16 1 rfl, hF28.2.2.1 16 1 rfl]; exact g17_1.2.2⟩
            have n17d : ∀ k : Nat, (k : Int) < 7 * (s.2.2.1 2 0).toInt → s42.1 30 k = s.1 30 k := by exact fun k hk => by rw [p42h k (by rw [hF28.2.2.1 2 0 rfl, ← v17_2_0]; rw [← e_2_0] at hk; (first | have a0 := in_u ro_46_1 | (have a0 := ro_46_1; unfold In at a0)); (first | have a1 := in_u ((inv_F hIc17 448 28000 rfl v17_30_0)) | (have a1 := (inv_F hIc17 448 28000 rfl v17_30_0); unfold In at a1)); (first | have a2 := in_u ((inv_F hIc17 0 32 rfl v17_2_1)) | (have a2 := (inv_F hIc17 0 32 rfl v17_2_1); unfold In at a2)); (first | have a3 := in_u ((inv_F hIc17 0 4000 rfl v17_2_0)) | (have a3 := (inv_F hIc17 0 4000 rfl v17_2_0); unfold In at a3)); (first | have a4 := in_u ((inv_F hIc17 0 1000 rfl v17_46_2)) | (have a4 := (inv_F hIc17 0 1000 rfl v17_46_2); unfold In at a4)); (first | have a5 := in_u i21 | (have a5 := i21; unfold In at a5)); (first | have a6 := in_u i62 | (have a6 := i62; unfold In at a6)); have a7 := t_add e62 i21 (in_c 1 rfl) rfl; (first | have a8 := in_u ((in_c 1 rfl)) | (have a8 := (in_c 1 rfl); unfold In at a8)); (first | have a9 := in_u i42b | (have a9 := i42b; unfold In at a9)); (first | have a10 := in_u i42a | (have a10 := i42a; unfold In at a10)); have oc := oc_135_1_46; omega), hF28.1 30 rfl]; exact g17_2 k hk
            have n17e : GEQ (gvS s42) (gvC s) ∧ TQS s42 := by exact ⟨by rw [gvS_cg hF42 rfl, gvS_cg hF28 rfl]; exact g17_3.1, tqs_fr (tqs_fr g17_3.2 hF28 rfl) hF42 rfl⟩
            have n17f : LRN (s.1 47) (s.2.2.1 46 1).toInt.toNat (gvC s) (z62).toInt.toNat (z42a).toInt.toNat (gvC s42) := by have hn9 := hk28 _ (p42i c45); rw [show z62.toInt.toNat = y17_2.toInt.toNat + 1 from (by (first | have a0 := in_u ro_46_1 | (have a0 := ro_46_1; unfold In at a0)); (first | have a1 := in_u ((inv_F hIc17 448 28000 rfl v17_30_0)) | (have a1 := (inv_F hIc17 448 28000 rfl v17_30_0); unfold In at a1)); (first | have a2 := in_u ((inv_F hIc17 0 32 rfl v17_2_1)) | (have a2 := (inv_F hIc17 0 32 rfl v17_2_1); unfold In at a2)); (first | have a3 := in_u ((inv_F hIc17 0 4000 rfl v17_2_0)) | (have a3 := (inv_F hIc17 0 4000 rfl v17_2_0); unfold In at a3)); (first | have a4 := in_u ((inv_F hIc17 0 1000 rfl v17_46_2)) | (have a4 := (inv_F hIc17 0 1000 rfl v17_46_2); unfold In at a4)); (first | have a5 := in_u i21 | (have a5 := i21; unfold In at a5)); (first | have a6 := in_u i62 | (have a6 := i62; unfold In at a6)); have a7 := t_add e62 i21 (in_c 1 rfl) rfl; (first | have a8 := in_u ((in_c 1 rfl)) | (have a8 := (in_c 1 rfl); unfold In at a8)); (first | have a9 := in_u i42b | (have a9 := i42b; unfold In at a9)); (first | have a10 := in_u i42a | (have a10 := i42a; unfold In at a10)); have oc := oc_135_1_46; omega), ((show z42a = s42.2.2.1 46 2 from e42))]; exact hn9
            have n17g : TQ s42 := by exact p42k c45
            have n17h : (s42.2.2.1 46 6).toInt = -1 ∧ (s42.2.2.1 46 7).toInt = -1 := by exact ⟨by rw [(p42l c45).1, hF28.2.2.1 46 6 rfl]; exact g17_6.1, by rw [(p42l c45).2, hF28.2.2.1 46 7 rfl]; exact g17_6.2⟩
            have n17i : LGS s s42 (z62).toInt.toNat := by exact lgs_s g17_7 (show z62.toInt.toNat = y17_2.toInt.toNat + 1 from (by (first | have a0 := in_u ro_46_1 | (have a0 := ro_46_1; unfold In at a0)); (first | have a1 := in_u ((inv_F hIc17 448 28000 rfl v17_30_0)) | (have a1 := (inv_F hIc17 448 28000 rfl v17_30_0); unfold In at a1)); (first | have a2 := in_u ((inv_F hIc17 0 32 rfl v17_2_1)) | (have a2 := (inv_F hIc17 0 32 rfl v17_2_1); unfold In at a2)); (first | have a3 := in_u ((inv_F hIc17 0 4000 rfl v17_2_0)) | (have a3 := (inv_F hIc17 0 4000 rfl v17_2_0); unfold In at a3)); (first | have a4 := in_u ((inv_F hIc17 0 1000 rfl v17_46_2)) | (have a4 := (inv_F hIc17 0 1000 rfl v17_46_2); unfold In at a4)); (first | have a5 := in_u i21 | (have a5 := i21; unfold In at a5)); (first | have a6 := in_u i62 | (have a6 := i62; unfold In at a6)); have a7 := t_add e62 i21 (in_c 1 rfl) rfl; (first | have a8 := in_u ((in_c 1 rfl)) | (have a8 := (in_c 1 rfl); unfold In at a8)); (first | have a9 := in_u i42b | (have a9 := i42b; unfold In at a9)); (first | have a10 := in_u i42a | (have a10 := i42a; unfold In at a10)); have oc := oc_135_1_46; omega)) (lgc_fr (p42n c45) hF28 rfl) (inv_F hI (z := s.2.2.1 2 0) 0 4000 rfl rfl).1 (by rw [show z62.toInt.toNat = y17_2.toInt.toNat + 1 from (by (first | have a0 := in_u ro_46_1 | (have a0 := ro_46_1; unfold In at a0)); (first | have a1 := in_u ((inv_F hIc17 448 28000 rfl v17_30_0)) | (have a1 := (inv_F hIc17 448 28000 rfl v17_30_0); unfold In at a1)); (first | have a2 := in_u ((inv_F hIc17 0 32 rfl v17_2_1)) | (have a2 := (inv_F hIc17 0 32 rfl v17_2_1); unfold In at a2)); (first | have a3 := in_u ((inv_F hIc17 0 4000 rfl v17_2_0)) | (have a3 := (inv_F hIc17 0 4000 rfl v17_2_0); unfold In at a3)); (first | have a4 := in_u ((inv_F hIc17 0 1000 rfl v17_46_2)) | (have a4 := (inv_F hIc17 0 1000 rfl v17_46_2); unfold In at a4)); (first | have a5 := in_u i21 | (have a5 := i21; unfold In at a5)); (first | have a6 := in_u i62 | (have a6 := i62; unfold In at a6)); have a7 := t_add e62 i21 (in_c 1 rfl) rfl; (first | have a8 := in_u ((in_c 1 rfl)) | (have a8 := (in_c 1 rfl); unfold In at a8)); (first | have a9 := in_u i42b | (have a9 := i42b; unfold In at a9)); (first | have a10 := in_u i42a | (have a10 := i42a; unfold In at a10)); have oc := oc_135_1_46; omega)]; exact ⟨_, hk28 _ (p42i c45)⟩)
            exact gg_w (by first | exact Nat.le_add_right _ _ | exact gw2 | exact gw3 | exact gwe rfl | exact gwf rfl | exact gwg rfl | exact gwh rfl | omega) (gg_f (gf_cons rfl (gf_cons rfl (gf_cons rfl gf_nil))) (ih17 s42 a42 (cc17 - lc s28) (cs17 - lsl s28) z62 z42a z42b _ _ hI42 (fr_tr rfl (fr_tr rfl hFc17 hF28) hF42) hr17 hr17a (in_w 0 2001 i62 rfl) e42 e42a rfl rfl n17 n17a n17b n17c n17d n17e n17f n17g n17h n17i (m_up mm17 (t_add e62 i21 (in_c 1 rfl) rfl) (in_w 1 1 (in_c 1 rfl) rfl))))
          · skip
            have i45 := z_eq 0 0 c45 i42 rfl
            refine g_aload_n 49 (gd rfl) rfl rfl ?_
            refine g_getA (A := (ax A 30 a42)) (q := 1) (q2 := 2) 52 (gd rfl) rfl rfl rfl rfl ?_
            refine g_aload_n 53 (gd rfl) rfl rfl ?_
            refine g_getA (A := (ax A 30 a42)) (q := 1) (q2 := 16) 56 (gd rfl) rfl rfl rfl rfl ?_
            refine g_callv (X := _) (As := [.ref (A 16)]) (r := []) (b := A 2) (q := 2) 59 (gd rfl) rfl rfl rfl rfl rfl (ww_o rfl) (Nat.le_of_ble_eq_true rfl) (Nat.zero_le _) (Nat.zero_le _) (f_93_2_16 (A := (ax A 30 a42)) (by omega) hI42 ) (fun e u h => h) (fun v u h => ?_)
            obtain ⟨s56, hI56, hF56, rfl, rfl, p56, p56a, p56b, p56c, p56d, p56e, p56f, p56g, p56h⟩ := h
            show GG _ _ _ _ _ _ _ _ [] _ _ _
            refine g_bipush (-4) 61 (gd rfl) rfl rfl ?_
            have n61 : KL s56 := by have hFF : Fr fm_135_1_46 s s56 := (fr_tr rfl (fr_tr rfl (fr_tr rfl hFc17 hF28) hF42) hF56); exact kl_bk q_0 (fun k hk => by rw [hF56.1 30 rfl, p42h k (by rw [hF28.2.2.1 2 0 rfl, ← v17_2_0]; rw [← e_2_0] at hk; (first | have a0 := in_u ro_46_1 | (have a0 := ro_46_1; unfold In at a0)); (first | have a1 := in_u ((inv_F hIc17 448 28000 rfl v17_30_0)) | (have a1 := (inv_F hIc17 448 28000 rfl v17_30_0); unfold In at a1)); (first | have a2 := in_u ((inv_F hIc17 0 32 rfl v17_2_1)) | (have a2 := (inv_F hIc17 0 32 rfl v17_2_1); unfold In at a2)); (first | have a3 := in_u ((inv_F hIc17 0 4000 rfl v17_2_0)) | (have a3 := (inv_F hIc17 0 4000 rfl v17_2_0); unfold In at a3)); (first | have a4 := in_u ((inv_F hIc17 0 1000 rfl v17_46_2)) | (have a4 := (inv_F hIc17 0 1000 rfl v17_46_2); unfold In at a4)); (first | have a5 := in_u i21 | (have a5 := i21; unfold In at a5)); (first | have a6 := in_u i42a | (have a6 := i42a; unfold In at a6)); have oc := oc_135_1_46; omega), hF28.1 30 rfl]; exact g17_2 k hk) (by have h9 := p42e.2.1; rw [hF56.2.2.1 30 0 rfl]; rw [← hv42] at h9; rw [← e_2_0]; (first | have a0 := in_u ro_46_1 | (have a0 := ro_46_1; unfold In at a0)); (first | have a1 := in_u ((inv_F hIc17 448 28000 rfl v17_30_0)) | (have a1 := (inv_F hIc17 448 28000 rfl v17_30_0); unfold In at a1)); (first | have a2 := in_u ((inv_F hIc17 0 32 rfl v17_2_1)) | (have a2 := (inv_F hIc17 0 32 rfl v17_2_1); unfold In at a2)); (first | have a3 := in_u ((inv_F hIc17 0 4000 rfl v17_2_0)) | (have a3 := (inv_F hIc17 0 4000 rfl v17_2_0); unfold In at a3)); (first | have a4 := in_u ((inv_F hIc17 0 1000 rfl v17_46_2)) | (have a4 := (inv_F hIc17 0 1000 rfl v17_46_2); unfold In at a4)); (first | have a5 := in_u i21 | (have a5 := i21; unfold In at a5)); (first | have a6 := in_u i42a | (have a6 := i42a; unfold In at a6)); have oc := oc_135_1_46; omega) (by rw [p56b, hF42.2.2.1 16 0 rfl, hF28.2.2.1 16 0 rfl]; exact g17_1.2.1) (by rw [p56c, hF42.2.2.1 16 1 rfl, hF28.2.2.1 16 1 rfl]; exact g17_1.2.2) (kn_cp q_0.2.2.2.1.2 (fun p hp => by rw [p56 p hp, hF42.1 18 rfl, hF28.1 18 rfl]; exact (g17_1.1 p hp).1) (fun p hp => by rw [p56a p hp, hF42.1 19 rfl, hF28.1 19 rfl]; exact (g17_1.1 p hp).2)) (hFF.2.2.1 32 0 rfl) (hFF.2.2.1 32 1 rfl) (hFF.1 34 rfl) (hFF.1 35 rfl)
            have n61a : ((Int32.ofInt (-4))).toInt ≠ -4 → LOT (s.1 47) (s.2.2.1 46 1).toInt.toNat (gvC s) ((Int32.ofInt (-4))).toInt 0 0 (gvC s56) ∧ (s56.2.2.1 46 6).toInt = -1 ∧ (s56.2.2.1 46 7).toInt = -1 := by intro h; exact absurd rfl h
            have n61b : ((Int32.ofInt (-4))).toInt = -4 → LOT (s.1 47) (s.2.2.1 46 1).toInt.toNat (gvC s) (-4) (s56.2.2.1 46 6).toInt (s56.2.2.1 46 7).toInt (gvC s56) := by intro _; have h9 := p42j (by (first | have a0 := in_u ro_46_1 | (have a0 := ro_46_1; unfold In at a0)); (first | have a1 := in_u ((inv_F hIc17 448 28000 rfl v17_30_0)) | (have a1 := (inv_F hIc17 448 28000 rfl v17_30_0); unfold In at a1)); (first | have a2 := in_u ((inv_F hIc17 0 32 rfl v17_2_1)) | (have a2 := (inv_F hIc17 0 32 rfl v17_2_1); unfold In at a2)); (first | have a3 := in_u ((inv_F hIc17 0 4000 rfl v17_2_0)) | (have a3 := (inv_F hIc17 0 4000 rfl v17_2_0); unfold In at a3)); (first | have a4 := in_u ((inv_F hIc17 0 1000 rfl v17_46_2)) | (have a4 := (inv_F hIc17 0 1000 rfl v17_46_2); unfold In at a4)); (first | have a5 := in_u i21 | (have a5 := i21; unfold In at a5)); (first | have a6 := in_u i42a | (have a6 := i42a; unfold In at a6)); have oc := oc_135_1_46; omega) _ ht28; rw [hx28, hl28, hg28] at h9; refine Or.inr ⟨y17_2.toInt.toNat, w17_46_2.toInt.toNat, (s42.2.2.1 46 7).toInt.toNat, gvC sc17, g17_4, ?_, rfl, ?_, (show GEQ (gvC s56) (gvC s) from geq_t (show GEQ (gvC s56) (gvS s42) from ⟨p56d, p56, p56a, p56e, p56f, p56g, congrArg Int32.toInt p56c, congrArg Int32.toInt p56b⟩) (by rw [gvS_cg hF42 rfl, gvS_cg hF28 rfl]; exact g17_3.1))⟩; (rw [hF56.2.2.1 46 6 rfl]; exact h9); (rw [hF56.2.2.1 46 7 rfl]; have h8 := p42m (by (first | have a0 := in_u ro_46_1 | (have a0 := ro_46_1; unfold In at a0)); (first | have a1 := in_u ((inv_F hIc17 448 28000 rfl v17_30_0)) | (have a1 := (inv_F hIc17 448 28000 rfl v17_30_0); unfold In at a1)); (first | have a2 := in_u ((inv_F hIc17 0 32 rfl v17_2_1)) | (have a2 := (inv_F hIc17 0 32 rfl v17_2_1); unfold In at a2)); (first | have a3 := in_u ((inv_F hIc17 0 4000 rfl v17_2_0)) | (have a3 := (inv_F hIc17 0 4000 rfl v17_2_0); unfold In at a3)); (first | have a4 := in_u ((inv_F hIc17 0 1000 rfl v17_46_2)) | (have a4 := (inv_F hIc17 0 1000 rfl v17_46_2); unfold In at a4)); (first | have a5 := in_u i21 | (have a5 := i21; unfold In at a5)); (first | have a6 := in_u i42a | (have a6 := i42a; unfold In at a6)); have oc := oc_135_1_46; omega); omega)
            have n61c : TQ s56 := by intro p hp hn; rw [p56h]; exact (tqs_fr (tqs_fr g17_3.2 hF28 rfl) hF42 rfl) p hp (by rw [← p56 p hp]; exact hn)
            have n61d : LCO s s56 (Int32.ofInt (-4)) := by exact ⟨fun h => absurd rfl h, fun _ => (by obtain ⟨G, -, -, hpf, hgv, -⟩ := g17_7; intro k hk; rw [hF56.1 30 rfl, (show s42.1 30 k = s28.1 30 k from (by have hw : (s28.2.2.1 2 0).toInt = (sc17.2.2.1 2 0).toInt := congrArg Int32.toInt (hF28.2.2.1 2 0 rfl); first | exact p42h k (by omega) | exact p42g k (by omega))), hF28.1 30 rfl]; exact hpf k hk)⟩
            exact g_ireturn (gd rfl) rfl rfl (hP _ _ ⟨a42, s56, hI56, (fr_tr rfl (fr_tr rfl (fr_tr rfl hFc17 hF28) hF42) hF56), (Int32.ofInt (-4)), rfl, rfl, in_w (-4) 1000 (in_c (-4) rfl) rfl, n61, n61a, n61b, n61c, n61d⟩)
        · skip
          have i35 := z_eq 0 0 c35 i32 rfl
          refine g_iload_n 39 (gd rfl) rfl rfl ?_
          have n39 : KL s28 := by exact kl_fr g17_0 hF28 rfl
          have n39a : (y17_2).toInt ≠ -4 → LOT (s.1 47) (s.2.2.1 46 1).toInt.toNat (gvC s) (y17_2).toInt 0 0 (gvC s28) ∧ (s28.2.2.1 46 6).toInt = -1 ∧ (s28.2.2.1 46 7).toInt = -1 := by intro _; have h9 := ht28; rw [hx28, hl28, show (s28.2.2.1 46 3).toInt = 0 from (by rw [← (show z32 = s28.2.2.1 46 3 from e32)]; (first | have a0 := in_u ro_46_1 | (have a0 := ro_46_1; unfold In at a0)); (first | have a1 := in_u ((inv_F hIc17 448 28000 rfl v17_30_0)) | (have a1 := (inv_F hIc17 448 28000 rfl v17_30_0); unfold In at a1)); (first | have a2 := in_u ((inv_F hIc17 0 32 rfl v17_2_1)) | (have a2 := (inv_F hIc17 0 32 rfl v17_2_1); unfold In at a2)); (first | have a3 := in_u ((inv_F hIc17 0 4000 rfl v17_2_0)) | (have a3 := (inv_F hIc17 0 4000 rfl v17_2_0); unfold In at a3)); (first | have a4 := in_u ((inv_F hIc17 0 1000 rfl v17_46_2)) | (have a4 := (inv_F hIc17 0 1000 rfl v17_46_2); unfold In at a4)); (first | have a5 := in_u i21 | (have a5 := i21; unfold In at a5)); (first | have a6 := in_u i35 | (have a6 := i35; unfold In at a6)); (first | have a7 := in_u i28b | (have a7 := i28b; unfold In at a7)); (first | have a8 := in_u i28a | (have a8 := i28a; unfold In at a8)); have oc := oc_135_1_46; omega)] at h9; exact ⟨Or.inl ⟨y17_2.toInt.toNat, w17_46_2.toInt.toNat, gvC sc17, g17_4, ⟨_, _, _, h9⟩, (by (first | have a0 := in_u ro_46_1 | (have a0 := ro_46_1; unfold In at a0)); (first | have a1 := in_u ((inv_F hIc17 448 28000 rfl v17_30_0)) | (have a1 := (inv_F hIc17 448 28000 rfl v17_30_0); unfold In at a1)); (first | have a2 := in_u ((inv_F hIc17 0 32 rfl v17_2_1)) | (have a2 := (inv_F hIc17 0 32 rfl v17_2_1); unfold In at a2)); (first | have a3 := in_u ((inv_F hIc17 0 4000 rfl v17_2_0)) | (have a3 := (inv_F hIc17 0 4000 rfl v17_2_0); unfold In at a3)); (first | have a4 := in_u ((inv_F hIc17 0 1000 rfl v17_46_2)) | (have a4 := (inv_F hIc17 0 1000 rfl v17_46_2); unfold In at a4)); (first | have a5 := in_u i21 | (have a5 := i21; unfold In at a5)); (first | have a6 := in_u i35 | (have a6 := i35; unfold In at a6)); (first | have a7 := in_u i28b | (have a7 := i28b; unfold In at a7)); (first | have a8 := in_u i28a | (have a8 := i28a; unfold In at a8)); have oc := oc_135_1_46; omega), rfl, by rw [hg28]; exact geq_r⟩, by rw [hF28.2.2.1 46 6 rfl]; exact g17_6.1, by rw [hF28.2.2.1 46 7 rfl]; exact g17_6.2⟩
          have n39b : (y17_2).toInt = -4 → LOT (s.1 47) (s.2.2.1 46 1).toInt.toNat (gvC s) (-4) (s28.2.2.1 46 6).toInt (s28.2.2.1 46 7).toInt (gvC s28) := by intro h; exfalso; (first | have a0 := in_u ro_46_1 | (have a0 := ro_46_1; unfold In at a0)); (first | have a1 := in_u ((inv_F hIc17 448 28000 rfl v17_30_0)) | (have a1 := (inv_F hIc17 448 28000 rfl v17_30_0); unfold In at a1)); (first | have a2 := in_u ((inv_F hIc17 0 32 rfl v17_2_1)) | (have a2 := (inv_F hIc17 0 32 rfl v17_2_1); unfold In at a2)); (first | have a3 := in_u ((inv_F hIc17 0 4000 rfl v17_2_0)) | (have a3 := (inv_F hIc17 0 4000 rfl v17_2_0); unfold In at a3)); (first | have a4 := in_u ((inv_F hIc17 0 1000 rfl v17_46_2)) | (have a4 := (inv_F hIc17 0 1000 rfl v17_46_2); unfold In at a4)); (first | have a5 := in_u i21 | (have a5 := i21; unfold In at a5)); (first | have a6 := in_u i35 | (have a6 := i35; unfold In at a6)); (first | have a7 := in_u i28b | (have a7 := i28b; unfold In at a7)); (first | have a8 := in_u i28a | (have a8 := i28a; unfold In at a8)); have oc := oc_135_1_46; omega
          have n39c : TQ s28 := by exact tq_fr g17_5 hF28 rfl
          have n39d : LCO s s28 y17_2 := by exact ⟨fun _ => (by have q := g17_7; obtain ⟨G, b1, b2, b3, b4, b5⟩ := q; exact ⟨G, b1, by rw [b2]; exact hg28.symm, fun k hk => by rw [hF28.1 30 rfl]; exact b3 k hk, by rw [hF28.2.2.1 2 0 rfl]; exact b4, by rw [hF28.1 30 rfl]; exact b5⟩), fun h => (by exfalso; (first | have a0 := in_u ro_46_1 | (have a0 := ro_46_1; unfold In at a0)); (first | have a1 := in_u ((inv_F hIc17 448 28000 rfl v17_30_0)) | (have a1 := (inv_F hIc17 448 28000 rfl v17_30_0); unfold In at a1)); (first | have a2 := in_u ((inv_F hIc17 0 32 rfl v17_2_1)) | (have a2 := (inv_F hIc17 0 32 rfl v17_2_1); unfold In at a2)); (first | have a3 := in_u ((inv_F hIc17 0 4000 rfl v17_2_0)) | (have a3 := (inv_F hIc17 0 4000 rfl v17_2_0); unfold In at a3)); (first | have a4 := in_u ((inv_F hIc17 0 1000 rfl v17_46_2)) | (have a4 := (inv_F hIc17 0 1000 rfl v17_46_2); unfold In at a4)); (first | have a5 := in_u i21 | (have a5 := i21; unfold In at a5)); (first | have a6 := in_u i35 | (have a6 := i35; unfold In at a6)); (first | have a7 := in_u i28b | (have a7 := i28b; unfold In at a7)); (first | have a8 := in_u i28a | (have a8 := i28a; unfold In at a8)); have oc := oc_135_1_46; omega)⟩
          exact g_ireturn (gd rfl) rfl rfl (hP _ _ ⟨ac17, s28, hI28, (fr_tr rfl hFc17 hF28), y17_2, rfl, rfl, in_w (-4) 1000 i21 rfl, n39, n39a, n39b, n39c, n39d⟩)
  refine g_enter2 (k := 135) (N := 1802701) (by first | exact dq1 hd rfl | exact dq0 hd rfl | exact dq2 hd rfl | exact dq3 hd rfl | omega) rfl (Nat.le_of_ble_eq_true rfl) ?_
  refine g_aload_n 1 (gd rfl) rfl rfl ?_
  refine g_getA (q2 := 16) 4 (gd rfl) rfl rfl rfl rfl ?_
  refine g_aload_n 5 (gd rfl) rfl rfl ?_
  refine g_getA (q2 := 2) 8 (gd rfl) rfl rfl rfl rfl ?_
  refine g_callv (X := _) (As := [.ref (A 2)]) (r := []) (b := A 16) (q := 16) 11 (gd rfl) rfl rfl rfl rfl rfl (ww_o rfl) (Nat.le_of_ble_eq_true rfl) (Nat.zero_le _) (Nat.zero_le _) (f_93_16_2 (by first | exact dq1 hd rfl | exact dq0 hd rfl | exact dq2 hd rfl | exact dq3 hd rfl | omega) hI ) (fun e u h => h) (fun v u h => ?_)
  obtain ⟨s8, hI8, hF8, rfl, rfl, p8, p8a, p8b, p8c, p8d, p8e, p8f, p8g, p8h⟩ := h
  show GG _ _ _ _ _ _ _ _ [] _ _ _
  refine g_aload_n 12 (gd rfl) rfl rfl ?_
  refine g_callv (X := _) (As := []) (r := []) (b := A 46) (q := 46) 15 (gd rfl) rfl rfl rfl rfl rfl (ww_o rfl) (Nat.le_of_ble_eq_true rfl) (mc := 0) (ms := 0) (Nat.zero_le _) (Nat.zero_le _) (P := fun v u => _) ?_ (fun e u h => h) (fun v u h => h)
  intro po12 xx12 hp12 hx12
  refine g_enter2 (k := 167) (N := 300) (by first | exact dq1 hd rfl | exact dq0 hd rfl | exact dq2 hd rfl | exact dq3 hd rfl | omega) rfl (Nat.le_of_ble_eq_true rfl) ?_
  refine g_aload_n 1 (gd rfl) rfl rfl ?_
  refine g_iconst 0 2 (gd rfl) rfl rfl ?_
  refine g_putI 5 (gd rfl) rfl rfl rfl rfl ?_
  have hI12x2 := inv_sF (q := 46) (j := 2) hI8 rfl (in_w 0 1000 (in_c 0 rfl) rfl)
  refine g_aload_n 6 (gd rfl) rfl rfl ?_
  refine g_iconst (-1) 7 (gd rfl) rfl rfl ?_
  refine g_putI 10 (gd rfl) rfl rfl rfl rfl ?_
  have hI12x7 := inv_sF (q := 46) (j := 6) hI12x2 rfl (in_w (-1) 5 (in_c (-1) rfl) rfl)
  refine g_aload_n 11 (gd rfl) rfl rfl ?_
  refine g_iconst (-1) 12 (gd rfl) rfl rfl ?_
  refine g_putI 15 (gd rfl) rfl rfl rfl rfl ?_
  have hI12x12 := inv_sF (q := 46) (j := 7) hI12x7 rfl (in_w (-1) 1000 (in_c (-1) rfl) rfl)
  refine g_return (gd rfl) rfl (hp12 _ _ ?_)
  show GG _ _ _ _ _ _ _ _ [] _ _ _
  refine g_iconst 0 16 (gd rfl) rfl rfl ?_
  refine g_istore_n 17 (gd rfl) rfl (Nat.le_of_ble_eq_true rfl) ?_
  have hr17 : lgC (sF (sF (sF s8 46 2 (Int32.ofInt 0)) 46 6 (Int32.ofInt (-1))) 46 7 (Int32.ofInt (-1))) ≤ (lgC s) := by exact Nat.le_of_eq (lg_cg ((show Fr ([17, 18, 19, 20, 21, 22], [], [(16, 0), (16, 1), (16, 2), (16, 3), (16, 4), (46, 2), (46, 6), (46, 7)], []) s (sF (sF (sF s8 46 2 (Int32.ofInt 0)) 46 6 (Int32.ofInt (-1))) 46 7 (Int32.ofInt (-1))) from (fr_sF rfl (fr_sF rfl (fr_sF rfl (fr_tr rfl fr_rf hF8))))).2.2.1 30 0 rfl)).1
  have hr17a : lgS (sF (sF (sF s8 46 2 (Int32.ofInt 0)) 46 6 (Int32.ofInt (-1))) 46 7 (Int32.ofInt (-1))) ≤ (lgS s) := by exact Nat.le_of_eq (lg_cg ((show Fr ([17, 18, 19, 20, 21, 22], [], [(16, 0), (16, 1), (16, 2), (16, 3), (16, 4), (46, 2), (46, 6), (46, 7)], []) s (sF (sF (sF s8 46 2 (Int32.ofInt 0)) 46 6 (Int32.ofInt (-1))) 46 7 (Int32.ofInt (-1))) from (fr_sF rfl (fr_sF rfl (fr_sF rfl (fr_tr rfl fr_rf hF8))))).2.2.1 30 0 rfl)).2
  rw [show WW Z A (sF (sF (sF s8 46 2 (Int32.ofInt 0)) 46 6 (Int32.ofInt (-1))) 46 7 (Int32.ofInt (-1))) ++ ex = WW Z (ax A 30 (A 30)) (sF (sF (sF s8 46 2 (Int32.ofInt 0)) 46 6 (Int32.ofInt (-1))) 46 7 (Int32.ofInt (-1))) ++ ex from by rw [ax_id]]
  have v17 : (Int32.ofInt 0) = (sF (sF (sF s8 46 2 (Int32.ofInt 0)) 46 6 (Int32.ofInt (-1))) 46 7 (Int32.ofInt (-1))).2.2.1 46 2 := sF_ne rfl (sF_ne rfl (sF_get))
  have v17a : u_2_0 = (sF (sF (sF s8 46 2 (Int32.ofInt 0)) 46 6 (Int32.ofInt (-1))) 46 7 (Int32.ofInt (-1))).2.2.1 2 0 := sF_ne rfl (sF_ne rfl (sF_ne rfl (fr_F (e_2_0) hF8 rfl)))
  have v17b : u_2_1 = (sF (sF (sF s8 46 2 (Int32.ofInt 0)) 46 6 (Int32.ofInt (-1))) 46 7 (Int32.ofInt (-1))).2.2.1 2 1 := sF_ne rfl (sF_ne rfl (sF_ne rfl (fr_F (e_2_1) hF8 rfl)))
  have v17c : u_30_0 = (sF (sF (sF s8 46 2 (Int32.ofInt 0)) 46 6 (Int32.ofInt (-1))) 46 7 (Int32.ofInt (-1))).2.2.1 30 0 := sF_ne rfl (sF_ne rfl (sF_ne rfl (fr_F (e_30_0) hF8 rfl)))
  have n17 : ((Int32.ofInt 0)).toInt ≤ (u_46_1).toInt := by (first | have a0 := in_u ((inv_F hI 0 1000 rfl e_46_1)) | (have a0 := (inv_F hI 0 1000 rfl e_46_1); unfold In at a0)); (first | have a1 := in_u ((inv_F hI 448 28000 rfl e_30_0)) | (have a1 := (inv_F hI 448 28000 rfl e_30_0); unfold In at a1)); (first | have a2 := in_u ((inv_F hI 0 32 rfl e_2_1)) | (have a2 := (inv_F hI 0 32 rfl e_2_1); unfold In at a2)); (first | have a3 := in_u ((inv_F hI 0 4000 rfl e_2_0)) | (have a3 := (inv_F hI 0 4000 rfl e_2_0); unfold In at a3)); (first | have a4 := in_u ((in_c 0 rfl)) | (have a4 := (in_c 0 rfl); unfold In at a4)); (first | have a5 := in_u ((in_c (-1) rfl)) | (have a5 := (in_c (-1) rfl); unfold In at a5)); have oc := oc_135_1_46; omega
  have n17a : (u_2_0).toInt ≤ (u_2_0).toInt := by (first | have a0 := in_u ((inv_F hI 0 1000 rfl e_46_1)) | (have a0 := (inv_F hI 0 1000 rfl e_46_1); unfold In at a0)); (first | have a1 := in_u ((inv_F hI 448 28000 rfl e_30_0)) | (have a1 := (inv_F hI 448 28000 rfl e_30_0); unfold In at a1)); (first | have a2 := in_u ((inv_F hI 0 32 rfl e_2_1)) | (have a2 := (inv_F hI 0 32 rfl e_2_1); unfold In at a2)); (first | have a3 := in_u ((inv_F hI 0 4000 rfl e_2_0)) | (have a3 := (inv_F hI 0 4000 rfl e_2_0); unfold In at a3)); (first | have a4 := in_u ((in_c 0 rfl)) | (have a4 := (in_c 0 rfl); unfold In at a4)); (first | have a5 := in_u ((in_c (-1) rfl)) | (have a5 := (in_c (-1) rfl); unfold In at a5)); have oc := oc_135_1_46; omega
  have n17b : KL (sF (sF (sF s8 46 2 (Int32.ofInt 0)) 46 6 (Int32.ofInt (-1))) 46 7 (Int32.ofInt (-1))) := by exact kl_fr q_0 (show Fr ([17, 18, 19, 20, 21, 22], [], [(16, 0), (16, 1), (16, 2), (16, 3), (16, 4), (46, 2), (46, 6), (46, 7)], []) s (sF (sF (sF s8 46 2 (Int32.ofInt 0)) 46 6 (Int32.ofInt (-1))) 46 7 (Int32.ofInt (-1))) from (fr_sF rfl (fr_sF rfl (fr_sF rfl (fr_tr rfl fr_rf hF8))))) rfl
  have n17c : (∀ p : Nat, p < 160 → (sF (sF (sF s8 46 2 (Int32.ofInt 0)) 46 6 (Int32.ofInt (-1))) 46 7 (Int32.ofInt (-1))).1 18 p = s.1 4 p ∧ (sF (sF (sF s8 46 2 (Int32.ofInt 0)) 46 6 (Int32.ofInt (-1))) 46 7 (Int32.ofInt (-1))).1 19 p = s.1 5 p) ∧ (sF (sF (sF s8 46 2 (Int32.ofInt 0)) 46 6 (Int32.ofInt (-1))) 46 7 (Int32.ofInt (-1))).2.2.1 16 0 = s.2.2.1 2 0 ∧ (sF (sF (sF s8 46 2 (Int32.ofInt 0)) 46 6 (Int32.ofInt (-1))) 46 7 (Int32.ofInt (-1))).2.2.1 16 1 = s.2.2.1 2 1 := by exact ⟨fun p hp => ⟨p8 p hp, p8a p hp⟩, p8b, p8c⟩
  have n17d : ∀ k : Nat, (k : Int) < 7 * (s.2.2.1 2 0).toInt → (sF (sF (sF s8 46 2 (Int32.ofInt 0)) 46 6 (Int32.ofInt (-1))) 46 7 (Int32.ofInt (-1))).1 30 k = s.1 30 k := by exact fun k _ => by rw [(show Fr ([17, 18, 19, 20, 21, 22], [], [(16, 0), (16, 1), (16, 2), (16, 3), (16, 4), (46, 2), (46, 6), (46, 7)], []) s (sF (sF (sF s8 46 2 (Int32.ofInt 0)) 46 6 (Int32.ofInt (-1))) 46 7 (Int32.ofInt (-1))) from (fr_sF rfl (fr_sF rfl (fr_sF rfl (fr_tr rfl fr_rf hF8))))).1 30 rfl]
  have n17e : GEQ (gvS (sF (sF (sF s8 46 2 (Int32.ofInt 0)) 46 6 (Int32.ofInt (-1))) 46 7 (Int32.ofInt (-1)))) (gvC s) ∧ TQS (sF (sF (sF s8 46 2 (Int32.ofInt 0)) 46 6 (Int32.ofInt (-1))) 46 7 (Int32.ofInt (-1))) := by exact ⟨⟨p8d, p8, p8a, p8e, p8f, p8g, congrArg Int32.toInt p8c, congrArg Int32.toInt p8b⟩, fun p hp hn => by have h9 := q_1 p hp (by rw [← p8 p hp]; exact hn); rw [← p8h] at h9; exact h9⟩
  have n17f : LRN (s.1 47) (s.2.2.1 46 1).toInt.toNat (gvC s) ((Int32.ofInt 0)).toInt.toNat ((Int32.ofInt 0)).toInt.toNat (gvC (sF (sF (sF s8 46 2 (Int32.ofInt 0)) 46 6 (Int32.ofInt (-1))) 46 7 (Int32.ofInt (-1)))) := by exact ⟨rfl, gvC_cg (show Fr ([17, 18, 19, 20, 21, 22], [], [(16, 0), (16, 1), (16, 2), (16, 3), (16, 4), (46, 2), (46, 6), (46, 7)], []) s (sF (sF (sF s8 46 2 (Int32.ofInt 0)) 46 6 (Int32.ofInt (-1))) 46 7 (Int32.ofInt (-1))) from (fr_sF rfl (fr_sF rfl (fr_sF rfl (fr_tr rfl fr_rf hF8))))) rfl⟩
  have n17g : TQ (sF (sF (sF s8 46 2 (Int32.ofInt 0)) 46 6 (Int32.ofInt (-1))) 46 7 (Int32.ofInt (-1))) := by exact tq_fr q_1 (show Fr ([17, 18, 19, 20, 21, 22], [], [(16, 0), (16, 1), (16, 2), (16, 3), (16, 4), (46, 2), (46, 6), (46, 7)], []) s (sF (sF (sF s8 46 2 (Int32.ofInt 0)) 46 6 (Int32.ofInt (-1))) 46 7 (Int32.ofInt (-1))) from (fr_sF rfl (fr_sF rfl (fr_sF rfl (fr_tr rfl fr_rf hF8))))) rfl
  have n17h : ((sF (sF (sF s8 46 2 (Int32.ofInt 0)) 46 6 (Int32.ofInt (-1))) 46 7 (Int32.ofInt (-1))).2.2.1 46 6).toInt = -1 ∧ ((sF (sF (sF s8 46 2 (Int32.ofInt 0)) 46 6 (Int32.ofInt (-1))) 46 7 (Int32.ofInt (-1))).2.2.1 46 7).toInt = -1 := by exact ⟨by rw [← (show (Int32.ofInt (-1)) = (sF (sF (sF s8 46 2 (Int32.ofInt 0)) 46 6 (Int32.ofInt (-1))) 46 7 (Int32.ofInt (-1))).2.2.1 46 6 from sF_ne rfl (sF_get))]; rfl, by rw [← (show (Int32.ofInt (-1)) = (sF (sF (sF s8 46 2 (Int32.ofInt 0)) 46 6 (Int32.ofInt (-1))) 46 7 (Int32.ofInt (-1))).2.2.1 46 7 from sF_get)]; rfl⟩
  have n17i : LGS s (sF (sF (sF s8 46 2 (Int32.ofInt 0)) 46 6 (Int32.ofInt (-1))) 46 7 (Int32.ofInt (-1))) ((Int32.ofInt 0)).toInt.toNat := by exact lgs_0 (gvC_cg (show Fr ([17, 18, 19, 20, 21, 22], [], [(16, 0), (16, 1), (16, 2), (16, 3), (16, 4), (46, 2), (46, 6), (46, 7)], []) s (sF (sF (sF s8 46 2 (Int32.ofInt 0)) 46 6 (Int32.ofInt (-1))) 46 7 (Int32.ofInt (-1))) from (fr_sF rfl (fr_sF rfl (fr_sF rfl (fr_tr rfl fr_rf hF8))))) rfl) ((show Fr ([17, 18, 19, 20, 21, 22], [], [(16, 0), (16, 1), (16, 2), (16, 3), (16, 4), (46, 2), (46, 6), (46, 7)], []) s (sF (sF (sF s8 46 2 (Int32.ofInt 0)) 46 6 (Int32.ofInt (-1))) 46 7 (Int32.ofInt (-1))) from (fr_sF rfl (fr_sF rfl (fr_sF rfl (fr_tr rfl fr_rf hF8))))).1 30 rfl)
  exact gg_w (by first | exact Nat.le_of_ble_eq_true rfl | omega) (gg_f (gf_cons rfl (gf_cons rfl (gf_cons rfl gf_nil))) (ct17 2002 (sF (sF (sF s8 46 2 (Int32.ofInt 0)) 46 6 (Int32.ofInt (-1))) 46 7 (Int32.ofInt (-1))) (A 30) (lgC s) (lgS s) (Int32.ofInt 0) (Int32.ofInt 0) u_2_0 u_2_1 u_30_0 hI12x12 (fr_sF rfl (fr_sF rfl (fr_sF rfl (fr_tr rfl fr_rf hF8)))) hr17 hr17a (in_w 0 2001 (in_c 0 rfl) rfl) v17 v17a v17b v17c n17 n17a n17b n17c n17d n17e n17f n17g n17h n17i (m_in 2002 (in_w 0 2001 (in_c 0 rfl) rfl) rfl)))

/-- GraphHouse.load -/
theorem f_225_0 {Z : AmZ} {A : Nat → Nat} {s : GS} {ex : va_W} {d : Nat} {X : AmX} {u_2_0 : Int32} {u_2_1 : Int32} {u_30_0 : Int32} (hd : 11 ≤ d) (hI : Inv s) (e_2_0 : u_2_0 = s.2.2.1 2 0) (e_2_1 : u_2_1 = s.2.2.1 2 1) (e_30_0 : u_30_0 = s.2.2.1 30 0) (q_0 : KL s) (q_1 : TQ s) : GC Z d 225 [.ref (A 0)] (WW Z A s ++ ex) 3943 83130 (fun v u => ∃ a : Nat, ∃ t : GS, Inv t ∧ Fr fm_225_0 s t ∧ ∃ z : Int32, v = some (.int z) ∧ u = WW Z (ax A 30 a) t ++ ex ∧ In z (-4) 1000 ∧ (KL t) ∧ (((z).toInt ≠ -4 → LOT (s.1 47) (s.2.2.1 46 1).toInt.toNat (gvC s) (z).toInt 0 0 (gvC t) ∧ (t.2.2.1 46 6).toInt = -1 ∧ (t.2.2.1 46 7).toInt = -1) ∧ ((z).toInt = -4 → LOT (s.1 47) (s.2.2.1 46 1).toInt.toNat (gvC s) (-4) (t.2.2.1 46 6).toInt (t.2.2.1 46 7).toInt (gvC t)) ∧ TQ t) ∧ (LCO s t z)) X := by
  intro post xp hP hX
  refine g_enter2 (k := 225) (N := 900) (by first | exact dq1 hd rfl | exact dq0 hd rfl | exact dq2 hd rfl | exact dq3 hd rfl | omega) rfl (Nat.le_of_ble_eq_true rfl) ?_
  refine g_aload_n 1 (gd rfl) rfl rfl ?_
  refine g_getA (q2 := 1) 4 (gd rfl) rfl rfl rfl rfl ?_
  refine g_aload_n 5 (gd rfl) rfl rfl ?_
  refine g_getA (q2 := 46) 8 (gd rfl) rfl rfl rfl rfl ?_
  have p8 : KL s := by exact q_0
  have p8a : TQ s := by exact q_1
  refine g_callv (X := _) (As := [.ref (A 46)]) (r := []) (b := A 1) (q := 1) 11 (gd rfl) rfl rfl rfl rfl rfl (ww_o rfl) (Nat.le_of_ble_eq_true rfl) (Nat.le_trans (lgC_le (inv_F hI 448 28000 (q := 30) (j := 0) rfl rfl)) (Nat.le_of_ble_eq_true rfl)) (Nat.le_trans (lgS_le (inv_F hI 448 28000 (q := 30) (j := 0) rfl rfl)) (Nat.le_of_ble_eq_true rfl)) (f_135_1_46 (by first | exact dq1 hd rfl | exact dq0 hd rfl | exact dq2 hd rfl | exact dq3 hd rfl | omega) hI e_2_0 e_2_1 e_30_0 rfl p8 p8a) (fun e u h => h) (fun v u h => ?_)
  obtain ⟨a8, s8, hI8, hF8, z8, rfl, rfl, i8, p8b, p8c, p8d, p8e, p8f⟩ := h
  show GG _ _ _ _ _ _ _ _ [.int z8] _ _ _
  have n11 : KL s8 := by exact p8b
  have n11a : ((z8).toInt ≠ -4 → LOT (s.1 47) (s.2.2.1 46 1).toInt.toNat (gvC s) (z8).toInt 0 0 (gvC s8) ∧ (s8.2.2.1 46 6).toInt = -1 ∧ (s8.2.2.1 46 7).toInt = -1) ∧ ((z8).toInt = -4 → LOT (s.1 47) (s.2.2.1 46 1).toInt.toNat (gvC s) (-4) (s8.2.2.1 46 6).toInt (s8.2.2.1 46 7).toInt (gvC s8)) ∧ TQ s8 := by exact ⟨p8c, p8d, p8e⟩
  have n11b : LCO s s8 z8 := by exact p8f
  exact g_ireturn (gd rfl) rfl rfl (hP _ _ ⟨a8, s8, hI8, (fr_tr rfl fr_rf hF8), z8, rfl, rfl, in_w (-4) 1000 i8 rfl, n11, n11a, n11b⟩)

theorem oc_76_65_2 : (Int32.ofInt (-1)).toInt = (-1) ∧ (Int32.ofInt 0).toInt = 0 ∧ (Int32.ofInt 1).toInt = 1 ∧ (Int32.ofInt 32).toInt = 32 := ⟨rfl, rfl, rfl, rfl⟩
/-- GraphHouse$Flows.openAll -/
theorem f_76_65_2 {Z : AmZ} {A : Nat → Nat} {s : GS} {ex : va_W} {d : Nat} {X : AmX}  (hd : 3 ≤ d) (hI : Inv s) (q_0 : TQ s) : GC Z d 76 [.ref (A 65), .ref (A 2)] (WW Z A s ++ ex) 0 0 (fun v u => ∃ t : GS, Inv t ∧ Fr fm_76_65_2 s t ∧ v = none ∧ u = WW Z A t ++ ex ∧ (∀ a b : Nat, CFL (gvC s) a b ((t).1 66) ((t).1 67) 0)) X := by
  intro post xp hP hX
  obtain ⟨u_2_3, e_2_3⟩ : ∃ w, w = s.2.2.1 2 3 := ⟨_, rfl⟩
  have ro_2_3 := inv_F hI 0 160 rfl e_2_3
  have ct18 : ∀ (k18 : Nat) (sc18 : GS) (y18_2 : Int32), Inv sc18 → Fr fm_76_65_2 s sc18 → (In y18_2 0 160) → (OPA (gvC s) ((sc18).1 66) ((sc18).1 67) (y18_2).toNatClampNeg) → 160 - (y18_2).toInt < (k18 : Int) → GG Z (d - 1) 76 post (gx xp) (1 + k18 * 900) 18 (fun j => xlook j [(0, .ref (A 65)), (1, .ref (A 2)), (2, .int y18_2)]) [] (WW Z A sc18 ++ ex) 0 0 := by
    intro k18
    induction k18 with
    | zero => intro sc18 y18_2 hIc18 hFc18 j18_2 g18_0 mm18; exact m_no mm18 j18_2 rfl
    | succ k18 ih18 =>
      intro sc18 y18_2 hIc18 hFc18 j18_2 g18_0 mm18
      refine gg_w (M := 1 + k18 * 900 + 900) gws ?_
      refine g_iload_n 19 (gd rfl) rfl rfl ?_
      refine g_aload_n 20 (gd rfl) rfl rfl ?_
      refine g_getI 23 (gd rfl) rfl rfl rfl (fun z20 e20 => ?_)
      have q20 : u_2_3 = z20 := (fr_F e_2_3 hFc18 rfl).trans e20.symm
      subst q20
      refine g_cmp_ge 26 101 (gd rfl) rfl rfl (fun c23 => ?_) (fun c23 => ?_)
      · skip
        have n101 : ∀ a b : Nat, CFL (gvC s) a b ((sc18).1 66) ((sc18).1 67) 0 := by exact fun a b => opa_e (g := (gvC s)) (T0 := (s.2.2.1 2 3).toInt) g18_0 (fun i h1 h2 => q_0 i h1 h2) (by rw [← e_2_3]; show _ ≤ (((y18_2).toInt.toNat : Nat) : Int); (first | have a0 := in_u ro_2_3 | (have a0 := ro_2_3; unfold In at a0)); (first | have a1 := in_u j18_2 | (have a1 := j18_2; unfold In at a1)); have oc := oc_76_65_2; omega) (by show (y18_2).toInt.toNat ≤ 160; (first | have a0 := in_u ro_2_3 | (have a0 := ro_2_3; unfold In at a0)); (first | have a1 := in_u j18_2 | (have a1 := j18_2; unfold In at a1)); have oc := oc_76_65_2; omega)
        exact g_return (gd rfl) rfl (hP _ _ ⟨sc18, hIc18, hFc18, rfl, rfl, n101⟩)
      · skip
        have i23 := r_lt1 0 159 c23 j18_2 ro_2_3 rfl
        have i23a := r_lt2 1 160 c23 j18_2 ro_2_3 rfl
        refine g_aload_n 27 (gd rfl) rfl rfl ?_
        refine g_iload_n 28 (gd rfl) rfl rfl ?_
        refine g_callv (X := _) (As := [.int y18_2]) (r := []) (b := A 2) (q := 2) 31 (gd rfl) rfl rfl rfl rfl rfl (ww_o rfl) (Nat.le_of_ble_eq_true rfl) (mc := 0) (ms := 0) (Nat.zero_le _) (Nat.zero_le _) (P := fun v u => _) ?_ (fun e u h => h) (fun v u h => h)
        intro po28 xx28 hp28 hx28
        refine g_enter2 (k := 97) (N := 300) (by first | exact dq1 hd rfl | exact dq0 hd rfl | exact dq2 hd rfl | exact dq3 hd rfl | omega) rfl (Nat.le_of_ble_eq_true rfl) ?_
        refine g_aload_n 1 (gd rfl) rfl rfl ?_
        refine g_getA (q2 := 4) 4 (gd rfl) rfl rfl rfl rfl ?_
        refine g_iload_n 5 (gd rfl) rfl rfl ?_
        refine g_iaload 6 (gd rfl) rfl (n := 160) rfl (in_ix i23 rfl) (fun z28x5 e28x5 => ?_)
        have i28x5 := inv_I hIc18 (n := 160) (t := 0) (-1) 31 rfl (in_ix i23 rfl) rfl e28x5
        refine g_iconst (-1) 7 (gd rfl) rfl rfl ?_
        refine g_cmp_eq 10 29 (gd rfl) rfl rfl (fun c28x7 => ?_) (fun c28x7 => ?_)
        · skip
          have i28x7 := r_eq1 (-1) (-1) c28x7 i28x5 (in_c (-1) rfl) rfl
          refine g_iconst 0 30 (gd rfl) rfl rfl ?_
          refine g_ireturn (gd rfl) rfl (nb01 (in_w 0 1 (in_c 0 rfl) rfl)) (hp28 _ _ ?_)
          show GG _ _ _ _ _ _ _ _ [.int (Int32.ofInt 0)] _ _ _
          refine g_if_eq 34 95 (gd rfl) rfl rfl (fun c31 => ?_) (fun c31 => ?_)
          · skip
            refine g_iinc 98 (gd rfl) rfl rfl (Nat.le_of_ble_eq_true rfl) (fun z95 e95 => ?_)
            have i95 := in_add 1 160 e95 i23 (in_c 1 rfl) rfl rfl
            refine g_goto 18 (gd rfl) rfl ?_
            have n18 : OPA (gvC s) ((sc18).1 66) ((sc18).1 67) (z95).toNatClampNeg := by rw [(show (z95).toNatClampNeg = (y18_2).toNatClampNeg + 1 from (by show (z95).toInt.toNat = (y18_2).toInt.toNat + 1; (first | have a0 := in_u i23a | (have a0 := i23a; unfold In at a0)); (first | have a1 := in_u i23 | (have a1 := i23; unfold In at a1)); (first | have a2 := in_u i95 | (have a2 := i95; unfold In at a2)); have a3 := t_add e95 i23 (in_c 1 rfl) rfl; (first | have a4 := in_u ((in_c 1 rfl)) | (have a4 := (in_c 1 rfl); unfold In at a4)); have oc := oc_76_65_2; omega))]; exact opa_n g18_0 (fun Y => cuA_m (g := (gvC s)) (e28x5.trans (congrFun (hFc18.1 4 rfl) _)) (by (first | have a0 := in_u i23a | (have a0 := i23a; unfold In at a0)); (first | have a1 := in_u i23 | (have a1 := i23; unfold In at a1)); (first | have a2 := in_u i95 | (have a2 := i95; unfold In at a2)); have a3 := t_add e95 i23 (in_c 1 rfl) rfl; (first | have a4 := in_u ((in_c 1 rfl)) | (have a4 := (in_c 1 rfl); unfold In at a4)); have oc := oc_76_65_2; omega))
            exact gg_w (by first | exact Nat.le_add_right _ _ | exact gw2 | exact gw3 | exact gwe rfl | exact gwf rfl | exact gwg rfl | exact gwh rfl | omega) (gg_f (gf_cons rfl (gf_cons rfl (gf_cons rfl gf_nil))) (ih18 sc18 z95 hIc18 hFc18 (in_w 0 160 i95 rfl) n18 (m_up mm18 (t_add e95 i23 (in_c 1 rfl) rfl) (in_w 1 1 (in_c 1 rfl) rfl))))
          · skip
            exact zn_ne c31 (in_c 0 rfl) rfl
        · skip
          have i28x7 := r_ne1 0 31 c28x7 i28x5 (in_c (-1) rfl) rfl
          refine g_aload_n 11 (gd rfl) rfl rfl ?_
          refine g_getA (q2 := 4) 14 (gd rfl) rfl rfl rfl rfl ?_
          refine g_iload_n 15 (gd rfl) rfl rfl ?_
          refine g_iaload 16 (gd rfl) rfl (n := 160) rfl (in_ix i23 rfl) (fun z28x15 e28x15 => ?_)
          have q28x15 : z28x5 = z28x15 := (e28x5).trans e28x15.symm
          subst q28x15
          refine g_aload_n 17 (gd rfl) rfl rfl ?_
          refine g_getA (q2 := 5) 20 (gd rfl) rfl rfl rfl rfl ?_
          refine g_iload_n 21 (gd rfl) rfl rfl ?_
          refine g_iaload 22 (gd rfl) rfl (n := 160) rfl (in_ix i23 rfl) (fun z28x21 e28x21 => ?_)
          have i28x21 := inv_I hIc18 (n := 160) (t := 0) 0 31 rfl (in_ix i23 rfl) rfl e28x21
          refine g_cmp_eq 25 29 (gd rfl) rfl rfl (fun c28x22 => ?_) (fun c28x22 => ?_)
          · skip
            refine g_iconst 0 30 (gd rfl) rfl rfl ?_
            refine g_ireturn (gd rfl) rfl (nb01 (in_w 0 1 (in_c 0 rfl) rfl)) (hp28 _ _ ?_)
            show GG _ _ _ _ _ _ _ _ [.int (Int32.ofInt 0)] _ _ _
            refine g_if_eq 34 95 (gd rfl) rfl rfl (fun c31 => ?_) (fun c31 => ?_)
            · skip
              refine g_iinc 98 (gd rfl) rfl rfl (Nat.le_of_ble_eq_true rfl) (fun z95 e95 => ?_)
              have i95 := in_add 1 160 e95 i23 (in_c 1 rfl) rfl rfl
              refine g_goto 18 (gd rfl) rfl ?_
              have n18 : OPA (gvC s) ((sc18).1 66) ((sc18).1 67) (z95).toNatClampNeg := by rw [(show (z95).toNatClampNeg = (y18_2).toNatClampNeg + 1 from (by show (z95).toInt.toNat = (y18_2).toInt.toNat + 1; (first | have a0 := in_u i23a | (have a0 := i23a; unfold In at a0)); (first | have a1 := in_u i23 | (have a1 := i23; unfold In at a1)); (first | have a2 := in_u i95 | (have a2 := i95; unfold In at a2)); have a3 := t_add e95 i23 (in_c 1 rfl) rfl; (first | have a4 := in_u ((in_c 1 rfl)) | (have a4 := (in_c 1 rfl); unfold In at a4)); have oc := oc_76_65_2; omega))]; exact opa_n g18_0 (fun Y => cuA_l (g := (gvC s)) (e28x5.trans (congrFun (hFc18.1 4 rfl) _)) (e28x21.trans (congrFun (hFc18.1 5 rfl) _)) c28x22)
              exact gg_w (by first | exact Nat.le_add_right _ _ | exact gw2 | exact gw3 | exact gwe rfl | exact gwf rfl | exact gwg rfl | exact gwh rfl | omega) (gg_f (gf_cons rfl (gf_cons rfl (gf_cons rfl gf_nil))) (ih18 sc18 z95 hIc18 hFc18 (in_w 0 160 i95 rfl) n18 (m_up mm18 (t_add e95 i23 (in_c 1 rfl) rfl) (in_w 1 1 (in_c 1 rfl) rfl))))
            · skip
              exact zn_ne c31 (in_c 0 rfl) rfl
          · skip
            refine g_iconst 1 26 (gd rfl) rfl rfl ?_
            refine g_goto 30 (gd rfl) rfl ?_
            refine g_ireturn (gd rfl) rfl (nb01 (in_w 0 1 (in_c 1 rfl) rfl)) (hp28 _ _ ?_)
            show GG _ _ _ _ _ _ _ _ [.int (Int32.ofInt 1)] _ _ _
            refine g_if_eq 34 95 (gd rfl) rfl rfl (fun c31 => ?_) (fun c31 => ?_)
            · skip
              exact zn_eq c31 (in_c 1 rfl) rfl
            · skip
              refine g_aload_n 35 (gd rfl) rfl rfl ?_
              refine g_getA (q2 := 7) 38 (gd rfl) rfl rfl rfl rfl ?_
              refine g_iload_n 39 (gd rfl) rfl rfl ?_
              refine g_iaload 40 (gd rfl) rfl (n := 160) rfl (in_ix i23 rfl) (fun z39 e39 => ?_)
              have i39 := inv_I hIc18 (n := 160) (t := 0) 0 1000000 rfl (in_ix i23 rfl) rfl e39
              refine g_if_le 43 95 (gd rfl) rfl rfl (fun c40 => ?_) (fun c40 => ?_)
              · skip
                have i40 := z_le 0 0 c40 i39 rfl
                refine g_iinc 98 (gd rfl) rfl rfl (Nat.le_of_ble_eq_true rfl) (fun z95 e95 => ?_)
                have i95 := in_add 1 160 e95 i23 (in_c 1 rfl) rfl rfl
                refine g_goto 18 (gd rfl) rfl ?_
                have n18 : OPA (gvC s) ((sc18).1 66) ((sc18).1 67) (z95).toNatClampNeg := by rw [(show (z95).toNatClampNeg = (y18_2).toNatClampNeg + 1 from (by show (z95).toInt.toNat = (y18_2).toInt.toNat + 1; (first | have a0 := in_u i23a | (have a0 := i23a; unfold In at a0)); (first | have a1 := in_u i23 | (have a1 := i23; unfold In at a1)); (first | have a2 := in_u i95 | (have a2 := i95; unfold In at a2)); have a3 := t_add e95 i23 (in_c 1 rfl) rfl; (first | have a4 := in_u ((in_c 1 rfl)) | (have a4 := (in_c 1 rfl); unfold In at a4)); have oc := oc_76_65_2; omega))]; exact opa_n g18_0 (fun Y => cuA_r (g := (gvC s)) (e39.trans (congrFun (hFc18.1 7 rfl) _)) (by have h8 := i39.1; have h9 := c40; omega))
                exact gg_w (by first | exact Nat.le_add_right _ _ | exact gw2 | exact gw3 | exact gwe rfl | exact gwf rfl | exact gwg rfl | exact gwh rfl | omega) (gg_f (gf_cons rfl (gf_cons rfl (gf_cons rfl gf_nil))) (ih18 sc18 z95 hIc18 hFc18 (in_w 0 160 i95 rfl) n18 (m_up mm18 (t_add e95 i23 (in_c 1 rfl) rfl) (in_w 1 1 (in_c 1 rfl) rfl))))
              · skip
                have i40 := z_gt 1 1000000 c40 i39 rfl
                refine g_aload_n 44 (gd rfl) rfl rfl ?_
                refine g_getA (q2 := 66) 47 (gd rfl) rfl rfl rfl rfl ?_
                refine g_aload_n 48 (gd rfl) rfl rfl ?_
                refine g_getA (q2 := 4) 51 (gd rfl) rfl rfl rfl rfl ?_
                refine g_iload_n 52 (gd rfl) rfl rfl ?_
                refine g_iaload 53 (gd rfl) rfl (n := 160) rfl (in_ix i23 rfl) (fun z52 e52 => ?_)
                have q52 : z28x5 = z52 := (e28x5).trans e52.symm
                subst q52
                refine g_bipush 32 55 (gd rfl) rfl rfl ?_
                refine g_imul 56 (gd rfl) rfl (fun z55 e55 => ?_)
                have i55 := in_mulc 32 0 992 (Or.inr e55) i28x7 rfl rfl
                refine g_aload_n 57 (gd rfl) rfl rfl ?_
                refine g_getA (q2 := 5) 60 (gd rfl) rfl rfl rfl rfl ?_
                refine g_iload_n 61 (gd rfl) rfl rfl ?_
                refine g_iaload 62 (gd rfl) rfl (n := 160) rfl (in_ix i23 rfl) (fun z61 e61 => ?_)
                have q61 : z28x21 = z61 := (e28x21).trans e61.symm
                subst q61
                refine g_iadd 63 (gd rfl) rfl (fun z62 e62 => ?_)
                have i62 := in_add 0 1023 e62 i55 i28x21 rfl rfl
                refine g_dup2 64 (gd rfl) rfl rfl rfl ?_
                refine g_iaload 65 (gd rfl) rfl (n := 1024) rfl (in_ix i62 rfl) (fun z64 e64 => ?_)
                refine g_aload_n 66 (gd rfl) rfl rfl ?_
                refine g_getA (q2 := 7) 69 (gd rfl) rfl rfl rfl rfl ?_
                refine g_iload_n 70 (gd rfl) rfl rfl ?_
                refine g_iaload 71 (gd rfl) rfl (n := 160) rfl (in_ix i23 rfl) (fun z70 e70 => ?_)
                have q70 : z39 = z70 := (e39).trans e70.symm
                subst q70
                refine g_iadd 72 (gd rfl) rfl (fun z71 e71 => ?_)
                refine g_iastore 73 (gd rfl) rfl (n := 1024) rfl (in_ix i62 rfl) ?_
                have hI72 := inv_sI (q := 66) (j := z62.toNatClampNeg) hIc18 rfl (in_w (-2147483648) 2147483647 (i_rng z71) rfl)
                refine g_aload_n 74 (gd rfl) rfl rfl ?_
                refine g_getA (q2 := 67) 77 (gd rfl) rfl rfl rfl rfl ?_
                refine g_aload_n 78 (gd rfl) rfl rfl ?_
                refine g_getA (q2 := 4) 81 (gd rfl) rfl rfl rfl rfl ?_
                refine g_iload_n 82 (gd rfl) rfl rfl ?_
                refine g_iaload 83 (gd rfl) rfl (n := 160) rfl (in_ix i23 rfl) (fun z82 e82 => ?_)
                have q82 : z28x5 = z82 := (sI_ne rfl (e28x5)).trans e82.symm
                subst q82
                refine g_dup2 84 (gd rfl) rfl rfl rfl ?_
                refine g_iaload 85 (gd rfl) rfl (n := 32) rfl (in_ix i28x7 rfl) (fun z84 e84 => ?_)
                refine g_iconst 1 86 (gd rfl) rfl rfl ?_
                refine g_aload_n 87 (gd rfl) rfl rfl ?_
                refine g_getA (q2 := 5) 90 (gd rfl) rfl rfl rfl rfl ?_
                refine g_iload_n 91 (gd rfl) rfl rfl ?_
                refine g_iaload 92 (gd rfl) rfl (n := 160) rfl (in_ix i23 rfl) (fun z91 e91 => ?_)
                have q91 : z28x21 = z91 := (sI_ne rfl (e28x21)).trans e91.symm
                subst q91
                refine g_ishl 93 (gd rfl) rfl (fun z92 e92 => ?_)
                refine g_ior 94 (gd rfl) rfl (fun z93 e93 => ?_)
                refine g_iastore 95 (gd rfl) rfl (n := 32) rfl (in_ix i28x7 rfl) ?_
                have hI94 := inv_sI (q := 67) (j := z28x5.toNatClampNeg) hI72 rfl (in_w (-2147483648) 2147483647 (i_rng z93) rfl)
                refine g_iinc 98 (gd rfl) rfl rfl (Nat.le_of_ble_eq_true rfl) (fun z95 e95 => ?_)
                have i95 := in_add 1 160 e95 i23 (in_c 1 rfl) rfl rfl
                refine g_goto 18 (gd rfl) rfl ?_
                have n18 : OPA (gvC s) (((sI (sI sc18 66 z62.toNatClampNeg z71) 67 z28x5.toNatClampNeg z93)).1 66) (((sI (sI sc18 66 z62.toNatClampNeg z71) 67 z28x5.toNatClampNeg z93)).1 67) (z95).toNatClampNeg := by rw [(show (z95).toNatClampNeg = (y18_2).toNatClampNeg + 1 from (by show (z95).toInt.toNat = (y18_2).toInt.toNat + 1; (first | have a0 := in_u i23a | (have a0 := i23a; unfold In at a0)); (first | have a1 := in_u i23 | (have a1 := i23; unfold In at a1)); (first | have a2 := in_u i95 | (have a2 := i95; unfold In at a2)); have a3 := t_add e95 i23 (in_c 1 rfl) rfl; (first | have a4 := in_u ((in_c 1 rfl)) | (have a4 := (in_c 1 rfl); unfold In at a4)); (first | have a5 := in_u i62 | (have a5 := i62; unfold In at a5)); have a6 := t_add e62 i55 i28x21 rfl; (first | have a7 := in_u i28x21 | (have a7 := i28x21; unfold In at a7)); (first | have a8 := in_u i55 | (have a8 := i55; unfold In at a8)); have a9 := (t_mulc 32 (Or.inr e55) i28x7 rfl).1; (first | have a10 := in_u i28x7 | (have a10 := i28x7; unfold In at a10)); have oc := oc_76_65_2; omega))]; have id9 := (show z62.toNatClampNeg = 32 * z28x5.toNatClampNeg + z28x21.toNatClampNeg from (by show z62.toInt.toNat = 32 * z28x5.toInt.toNat + z28x21.toInt.toNat; have h8 := i28x7; have h9 := i28x21; unfold In at h8 h9; (first | have a0 := in_u i23a | (have a0 := i23a; unfold In at a0)); (first | have a1 := in_u i23 | (have a1 := i23; unfold In at a1)); (first | have a2 := in_u i95 | (have a2 := i95; unfold In at a2)); have a3 := t_add e95 i23 (in_c 1 rfl) rfl; (first | have a4 := in_u ((in_c 1 rfl)) | (have a4 := (in_c 1 rfl); unfold In at a4)); (first | have a5 := in_u i62 | (have a5 := i62; unfold In at a5)); have a6 := t_add e62 i55 i28x21 rfl; (first | have a7 := in_u i28x21 | (have a7 := i28x21; unfold In at a7)); (first | have a8 := in_u i55 | (have a8 := i55; unfold In at a8)); have a9 := (t_mulc 32 (Or.inr e55) i28x7 rfl).1; (first | have a10 := in_u i28x7 | (have a10 := i28x7; unfold In at a10)); have oc := oc_76_65_2; omega)); exact opa_y (g := (gvC s)) g18_0 (by show (y18_2).toInt.toNat < 160; (first | have a0 := in_u i23a | (have a0 := i23a; unfold In at a0)); (first | have a1 := in_u i23 | (have a1 := i23; unfold In at a1)); (first | have a2 := in_u i95 | (have a2 := i95; unfold In at a2)); have a3 := t_add e95 i23 (in_c 1 rfl) rfl; (first | have a4 := in_u ((in_c 1 rfl)) | (have a4 := (in_c 1 rfl); unfold In at a4)); (first | have a5 := in_u i62 | (have a5 := i62; unfold In at a5)); have a6 := t_add e62 i55 i28x21 rfl; (first | have a7 := in_u i28x21 | (have a7 := i28x21; unfold In at a7)); (first | have a8 := in_u i55 | (have a8 := i55; unfold In at a8)); have a9 := (t_mulc 32 (Or.inr e55) i28x7 rfl).1; (first | have a10 := in_u i28x7 | (have a10 := i28x7; unfold In at a10)); have oc := oc_76_65_2; omega) (e28x5.trans (congrFun (hFc18.1 4 rfl) _)) (e28x21.trans (congrFun (hFc18.1 5 rfl) _)) (e39.trans (congrFun (hFc18.1 7 rfl) _)) i28x7 i28x21 c28x22 c40 i39.2 (show z71 = sc18.1 66 (32 * z28x5.toNatClampNeg + z28x21.toNatClampNeg) + z39 from (by rw [e71, e64, id9])) (by show (sI (sI sc18 66 z62.toNatClampNeg z71) 67 z28x5.toNatClampNeg z93).1 66 = _; rw [sI_p rfl, sI_q, id9]) e92 (show z93 = sc18.1 67 z28x5.toNatClampNeg ||| z92 from (by rw [e93, e84, sI_p rfl])) (by show (sI (sI sc18 66 z62.toNatClampNeg z71) 67 z28x5.toNatClampNeg z93).1 67 = _; rw [sI_q, sI_p rfl])
                exact gg_w (by first | exact Nat.le_add_right _ _ | exact gw2 | exact gw3 | exact gwe rfl | exact gwf rfl | exact gwg rfl | exact gwh rfl | omega) (gg_f (gf_cons rfl (gf_cons rfl (gf_cons rfl gf_nil))) (ih18 (sI (sI sc18 66 z62.toNatClampNeg z71) 67 z28x5.toNatClampNeg z93) z95 hI94 (fr_sI rfl (fr_sI rfl hFc18)) (in_w 0 160 i95 rfl) n18 (m_up mm18 (t_add e95 i23 (in_c 1 rfl) rfl) (in_w 1 1 (in_c 1 rfl) rfl))))
  refine g_enter2 (k := 76) (N := 145801) (by first | exact dq1 hd rfl | exact dq0 hd rfl | exact dq2 hd rfl | exact dq3 hd rfl | omega) rfl (Nat.le_of_ble_eq_true rfl) ?_
  refine g_aload_n 1 (gd rfl) rfl rfl ?_
  refine g_getA (q2 := 66) 4 (gd rfl) rfl rfl rfl rfl ?_
  refine g_iconst 0 5 (gd rfl) rfl rfl ?_
  refine g_calls (As := [.ref (A 66), .int (Int32.ofInt 0)]) (r := []) 8 (gd rfl) rfl rfl rfl rfl rfl (Nat.le_of_ble_eq_true rfl) (Nat.zero_le _) (Nat.zero_le _) (k_fillI 66 (by first | exact dq1 hd rfl | exact dq0 hd rfl | exact dq2 hd rfl | exact dq3 hd rfl | omega) hI (in_c 0 rfl) (n := 1024) rfl rfl rfl rfl) (fun v u h => ?_)
  obtain ⟨s5, hI5, hF5, rfl, rfl, fl5⟩ := h
  show GG _ _ _ _ _ _ _ _ [] _ _ _
  refine g_aload_n 9 (gd rfl) rfl rfl ?_
  refine g_getA (q2 := 67) 12 (gd rfl) rfl rfl rfl rfl ?_
  refine g_iconst 0 13 (gd rfl) rfl rfl ?_
  refine g_calls (As := [.ref (A 67), .int (Int32.ofInt 0)]) (r := []) 16 (gd rfl) rfl rfl rfl rfl rfl (Nat.le_of_ble_eq_true rfl) (Nat.zero_le _) (Nat.zero_le _) (k_fillI 67 (by first | exact dq1 hd rfl | exact dq0 hd rfl | exact dq2 hd rfl | exact dq3 hd rfl | omega) hI5 (in_c 0 rfl) (n := 32) rfl rfl rfl rfl) (fun v u h => ?_)
  obtain ⟨s13, hI13, hF13, rfl, rfl, fl13⟩ := h
  show GG _ _ _ _ _ _ _ _ [] _ _ _
  refine g_iconst 0 17 (gd rfl) rfl rfl ?_
  refine g_istore_n 18 (gd rfl) rfl (Nat.le_of_ble_eq_true rfl) ?_
  have n18 : OPA (gvC s) ((s13).1 66) ((s13).1 67) ((Int32.ofInt 0)).toNatClampNeg := by exact (show OPA _ _ _ 0 from opa_0 (fun k hk => (by rw [hF13.1 66 rfl]; exact fl5 k hk)) (fun u hu => fl13 u hu))
  exact gg_w (by first | exact Nat.le_of_ble_eq_true rfl | omega) (gg_f (gf_cons rfl (gf_cons rfl (gf_cons rfl gf_nil))) (ct18 161 s13 (Int32.ofInt 0) hI13 (fr_tr rfl (fr_tr rfl fr_rf hF5) hF13) (in_w 0 160 (in_c 0 rfl) rfl) n18 (m_in 161 (in_w 0 160 (in_c 0 rfl) rfl) rfl)))

theorem oc_76_65_32 : (Int32.ofInt (-1)).toInt = (-1) ∧ (Int32.ofInt 0).toInt = 0 ∧ (Int32.ofInt 1).toInt = 1 ∧ (Int32.ofInt 32).toInt = 32 := ⟨rfl, rfl, rfl, rfl⟩
/-- GraphHouse$Flows.openAll -/
theorem f_76_65_32 {Z : AmZ} {A : Nat → Nat} {s : GS} {ex : va_W} {d : Nat} {X : AmX}  (hd : 3 ≤ d) (hI : Inv s) (q_0 : TQD s) : GC Z d 76 [.ref (A 65), .ref (A 32)] (WW Z A s ++ ex) 0 0 (fun v u => ∃ t : GS, Inv t ∧ Fr fm_76_65_32 s t ∧ v = none ∧ u = WW Z A t ++ ex ∧ (∀ a b : Nat, CFL (gvD s) a b ((t).1 66) ((t).1 67) 0)) X := by
  intro post xp hP hX
  obtain ⟨u_32_3, e_32_3⟩ : ∃ w, w = s.2.2.1 32 3 := ⟨_, rfl⟩
  have ro_32_3 := inv_F hI 0 160 rfl e_32_3
  have ct18 : ∀ (k18 : Nat) (sc18 : GS) (y18_2 : Int32), Inv sc18 → Fr fm_76_65_32 s sc18 → (In y18_2 0 160) → (OPA (gvD s) ((sc18).1 66) ((sc18).1 67) (y18_2).toNatClampNeg) → 160 - (y18_2).toInt < (k18 : Int) → GG Z (d - 1) 76 post (gx xp) (1 + k18 * 900) 18 (fun j => xlook j [(0, .ref (A 65)), (1, .ref (A 32)), (2, .int y18_2)]) [] (WW Z A sc18 ++ ex) 0 0 := by
    intro k18
    induction k18 with
    | zero => intro sc18 y18_2 hIc18 hFc18 j18_2 g18_0 mm18; exact m_no mm18 j18_2 rfl
    | succ k18 ih18 =>
      intro sc18 y18_2 hIc18 hFc18 j18_2 g18_0 mm18
      refine gg_w (M := 1 + k18 * 900 + 900) gws ?_
      refine g_iload_n 19 (gd rfl) rfl rfl ?_
      refine g_aload_n 20 (gd rfl) rfl rfl ?_
      refine g_getI 23 (gd rfl) rfl rfl rfl (fun z20 e20 => ?_)
      have q20 : u_32_3 = z20 := (fr_F e_32_3 hFc18 rfl).trans e20.symm
      subst q20
      refine g_cmp_ge 26 101 (gd rfl) rfl rfl (fun c23 => ?_) (fun c23 => ?_)
      · skip
        have n101 : ∀ a b : Nat, CFL (gvD s) a b ((sc18).1 66) ((sc18).1 67) 0 := by exact fun a b => opa_e (g := (gvD s)) (T0 := (s.2.2.1 32 3).toInt) g18_0 (fun i h1 h2 => q_0 i h1 h2) (by rw [← e_32_3]; show _ ≤ (((y18_2).toInt.toNat : Nat) : Int); (first | have a0 := in_u ro_32_3 | (have a0 := ro_32_3; unfold In at a0)); (first | have a1 := in_u j18_2 | (have a1 := j18_2; unfold In at a1)); have oc := oc_76_65_32; omega) (by show (y18_2).toInt.toNat ≤ 160; (first | have a0 := in_u ro_32_3 | (have a0 := ro_32_3; unfold In at a0)); (first | have a1 := in_u j18_2 | (have a1 := j18_2; unfold In at a1)); have oc := oc_76_65_32; omega)
        exact g_return (gd rfl) rfl (hP _ _ ⟨sc18, hIc18, hFc18, rfl, rfl, n101⟩)
      · skip
        have i23 := r_lt1 0 159 c23 j18_2 ro_32_3 rfl
        have i23a := r_lt2 1 160 c23 j18_2 ro_32_3 rfl
        refine g_aload_n 27 (gd rfl) rfl rfl ?_
        refine g_iload_n 28 (gd rfl) rfl rfl ?_
        refine g_callv (X := _) (As := [.int y18_2]) (r := []) (b := A 32) (q := 32) 31 (gd rfl) rfl rfl rfl rfl rfl (ww_o rfl) (Nat.le_of_ble_eq_true rfl) (mc := 0) (ms := 0) (Nat.zero_le _) (Nat.zero_le _) (P := fun v u => _) ?_ (fun e u h => h) (fun v u h => h)
        intro po28 xx28 hp28 hx28
        refine g_enter2 (k := 97) (N := 300) (by first | exact dq1 hd rfl | exact dq0 hd rfl | exact dq2 hd rfl | exact dq3 hd rfl | omega) rfl (Nat.le_of_ble_eq_true rfl) ?_
        refine g_aload_n 1 (gd rfl) rfl rfl ?_
        refine g_getA (q2 := 34) 4 (gd rfl) rfl rfl rfl rfl ?_
        refine g_iload_n 5 (gd rfl) rfl rfl ?_
        refine g_iaload 6 (gd rfl) rfl (n := 160) rfl (in_ix i23 rfl) (fun z28x5 e28x5 => ?_)
        have i28x5 := inv_I hIc18 (n := 160) (t := 0) (-1) 31 rfl (in_ix i23 rfl) rfl e28x5
        refine g_iconst (-1) 7 (gd rfl) rfl rfl ?_
        refine g_cmp_eq 10 29 (gd rfl) rfl rfl (fun c28x7 => ?_) (fun c28x7 => ?_)
        · skip
          have i28x7 := r_eq1 (-1) (-1) c28x7 i28x5 (in_c (-1) rfl) rfl
          refine g_iconst 0 30 (gd rfl) rfl rfl ?_
          refine g_ireturn (gd rfl) rfl (nb01 (in_w 0 1 (in_c 0 rfl) rfl)) (hp28 _ _ ?_)
          show GG _ _ _ _ _ _ _ _ [.int (Int32.ofInt 0)] _ _ _
          refine g_if_eq 34 95 (gd rfl) rfl rfl (fun c31 => ?_) (fun c31 => ?_)
          · skip
            refine g_iinc 98 (gd rfl) rfl rfl (Nat.le_of_ble_eq_true rfl) (fun z95 e95 => ?_)
            have i95 := in_add 1 160 e95 i23 (in_c 1 rfl) rfl rfl
            refine g_goto 18 (gd rfl) rfl ?_
            have n18 : OPA (gvD s) ((sc18).1 66) ((sc18).1 67) (z95).toNatClampNeg := by rw [(show (z95).toNatClampNeg = (y18_2).toNatClampNeg + 1 from (by show (z95).toInt.toNat = (y18_2).toInt.toNat + 1; (first | have a0 := in_u i23a | (have a0 := i23a; unfold In at a0)); (first | have a1 := in_u i23 | (have a1 := i23; unfold In at a1)); (first | have a2 := in_u i95 | (have a2 := i95; unfold In at a2)); have a3 := t_add e95 i23 (in_c 1 rfl) rfl; (first | have a4 := in_u ((in_c 1 rfl)) | (have a4 := (in_c 1 rfl); unfold In at a4)); have oc := oc_76_65_32; omega))]; exact opa_n g18_0 (fun Y => cuA_m (g := (gvD s)) (e28x5.trans (congrFun (hFc18.1 34 rfl) _)) (by (first | have a0 := in_u i23a | (have a0 := i23a; unfold In at a0)); (first | have a1 := in_u i23 | (have a1 := i23; unfold In at a1)); (first | have a2 := in_u i95 | (have a2 := i95; unfold In at a2)); have a3 := t_add e95 i23 (in_c 1 rfl) rfl; (first | have a4 := in_u ((in_c 1 rfl)) | (have a4 := (in_c 1 rfl); unfold In at a4)); have oc := oc_76_65_32; omega))
            exact gg_w (by first | exact Nat.le_add_right _ _ | exact gw2 | exact gw3 | exact gwe rfl | exact gwf rfl | exact gwg rfl | exact gwh rfl | omega) (gg_f (gf_cons rfl (gf_cons rfl (gf_cons rfl gf_nil))) (ih18 sc18 z95 hIc18 hFc18 (in_w 0 160 i95 rfl) n18 (m_up mm18 (t_add e95 i23 (in_c 1 rfl) rfl) (in_w 1 1 (in_c 1 rfl) rfl))))
          · skip
            exact zn_ne c31 (in_c 0 rfl) rfl
        · skip
          have i28x7 := r_ne1 0 31 c28x7 i28x5 (in_c (-1) rfl) rfl
          refine g_aload_n 11 (gd rfl) rfl rfl ?_
          refine g_getA (q2 := 34) 14 (gd rfl) rfl rfl rfl rfl ?_
          refine g_iload_n 15 (gd rfl) rfl rfl ?_
          refine g_iaload 16 (gd rfl) rfl (n := 160) rfl (in_ix i23 rfl) (fun z28x15 e28x15 => ?_)
          have q28x15 : z28x5 = z28x15 := (e28x5).trans e28x15.symm
          subst q28x15
          refine g_aload_n 17 (gd rfl) rfl rfl ?_
          refine g_getA (q2 := 35) 20 (gd rfl) rfl rfl rfl rfl ?_
          refine g_iload_n 21 (gd rfl) rfl rfl ?_
          refine g_iaload 22 (gd rfl) rfl (n := 160) rfl (in_ix i23 rfl) (fun z28x21 e28x21 => ?_)
          have i28x21 := inv_I hIc18 (n := 160) (t := 0) 0 31 rfl (in_ix i23 rfl) rfl e28x21
          refine g_cmp_eq 25 29 (gd rfl) rfl rfl (fun c28x22 => ?_) (fun c28x22 => ?_)
          · skip
            refine g_iconst 0 30 (gd rfl) rfl rfl ?_
            refine g_ireturn (gd rfl) rfl (nb01 (in_w 0 1 (in_c 0 rfl) rfl)) (hp28 _ _ ?_)
            show GG _ _ _ _ _ _ _ _ [.int (Int32.ofInt 0)] _ _ _
            refine g_if_eq 34 95 (gd rfl) rfl rfl (fun c31 => ?_) (fun c31 => ?_)
            · skip
              refine g_iinc 98 (gd rfl) rfl rfl (Nat.le_of_ble_eq_true rfl) (fun z95 e95 => ?_)
              have i95 := in_add 1 160 e95 i23 (in_c 1 rfl) rfl rfl
              refine g_goto 18 (gd rfl) rfl ?_
              have n18 : OPA (gvD s) ((sc18).1 66) ((sc18).1 67) (z95).toNatClampNeg := by rw [(show (z95).toNatClampNeg = (y18_2).toNatClampNeg + 1 from (by show (z95).toInt.toNat = (y18_2).toInt.toNat + 1; (first | have a0 := in_u i23a | (have a0 := i23a; unfold In at a0)); (first | have a1 := in_u i23 | (have a1 := i23; unfold In at a1)); (first | have a2 := in_u i95 | (have a2 := i95; unfold In at a2)); have a3 := t_add e95 i23 (in_c 1 rfl) rfl; (first | have a4 := in_u ((in_c 1 rfl)) | (have a4 := (in_c 1 rfl); unfold In at a4)); have oc := oc_76_65_32; omega))]; exact opa_n g18_0 (fun Y => cuA_l (g := (gvD s)) (e28x5.trans (congrFun (hFc18.1 34 rfl) _)) (e28x21.trans (congrFun (hFc18.1 35 rfl) _)) c28x22)
              exact gg_w (by first | exact Nat.le_add_right _ _ | exact gw2 | exact gw3 | exact gwe rfl | exact gwf rfl | exact gwg rfl | exact gwh rfl | omega) (gg_f (gf_cons rfl (gf_cons rfl (gf_cons rfl gf_nil))) (ih18 sc18 z95 hIc18 hFc18 (in_w 0 160 i95 rfl) n18 (m_up mm18 (t_add e95 i23 (in_c 1 rfl) rfl) (in_w 1 1 (in_c 1 rfl) rfl))))
            · skip
              exact zn_ne c31 (in_c 0 rfl) rfl
          · skip
            refine g_iconst 1 26 (gd rfl) rfl rfl ?_
            refine g_goto 30 (gd rfl) rfl ?_
            refine g_ireturn (gd rfl) rfl (nb01 (in_w 0 1 (in_c 1 rfl) rfl)) (hp28 _ _ ?_)
            show GG _ _ _ _ _ _ _ _ [.int (Int32.ofInt 1)] _ _ _
            refine g_if_eq 34 95 (gd rfl) rfl rfl (fun c31 => ?_) (fun c31 => ?_)
            · skip
              exact zn_eq c31 (in_c 1 rfl) rfl
            · skip
              refine g_aload_n 35 (gd rfl) rfl rfl ?_
              refine g_getA (q2 := 37) 38 (gd rfl) rfl rfl rfl rfl ?_
              refine g_iload_n 39 (gd rfl) rfl rfl ?_
              refine g_iaload 40 (gd rfl) rfl (n := 160) rfl (in_ix i23 rfl) (fun z39 e39 => ?_)
              have i39 := inv_I hIc18 (n := 160) (t := 0) 0 1000000 rfl (in_ix i23 rfl) rfl e39
              refine g_if_le 43 95 (gd rfl) rfl rfl (fun c40 => ?_) (fun c40 => ?_)
              · skip
                have i40 := z_le 0 0 c40 i39 rfl
                refine g_iinc 98 (gd rfl) rfl rfl (Nat.le_of_ble_eq_true rfl) (fun z95 e95 => ?_)
                have i95 := in_add 1 160 e95 i23 (in_c 1 rfl) rfl rfl
                refine g_goto 18 (gd rfl) rfl ?_
                have n18 : OPA (gvD s) ((sc18).1 66) ((sc18).1 67) (z95).toNatClampNeg := by rw [(show (z95).toNatClampNeg = (y18_2).toNatClampNeg + 1 from (by show (z95).toInt.toNat = (y18_2).toInt.toNat + 1; (first | have a0 := in_u i23a | (have a0 := i23a; unfold In at a0)); (first | have a1 := in_u i23 | (have a1 := i23; unfold In at a1)); (first | have a2 := in_u i95 | (have a2 := i95; unfold In at a2)); have a3 := t_add e95 i23 (in_c 1 rfl) rfl; (first | have a4 := in_u ((in_c 1 rfl)) | (have a4 := (in_c 1 rfl); unfold In at a4)); have oc := oc_76_65_32; omega))]; exact opa_n g18_0 (fun Y => cuA_r (g := (gvD s)) (e39.trans (congrFun (hFc18.1 37 rfl) _)) (by have h8 := i39.1; have h9 := c40; omega))
                exact gg_w (by first | exact Nat.le_add_right _ _ | exact gw2 | exact gw3 | exact gwe rfl | exact gwf rfl | exact gwg rfl | exact gwh rfl | omega) (gg_f (gf_cons rfl (gf_cons rfl (gf_cons rfl gf_nil))) (ih18 sc18 z95 hIc18 hFc18 (in_w 0 160 i95 rfl) n18 (m_up mm18 (t_add e95 i23 (in_c 1 rfl) rfl) (in_w 1 1 (in_c 1 rfl) rfl))))
              · skip
                have i40 := z_gt 1 1000000 c40 i39 rfl
                refine g_aload_n 44 (gd rfl) rfl rfl ?_
                refine g_getA (q2 := 66) 47 (gd rfl) rfl rfl rfl rfl ?_
                refine g_aload_n 48 (gd rfl) rfl rfl ?_
                refine g_getA (q2 := 34) 51 (gd rfl) rfl rfl rfl rfl ?_
                refine g_iload_n 52 (gd rfl) rfl rfl ?_
                refine g_iaload 53 (gd rfl) rfl (n := 160) rfl (in_ix i23 rfl) (fun z52 e52 => ?_)
                have q52 : z28x5 = z52 := (e28x5).trans e52.symm
                subst q52
                refine g_bipush 32 55 (gd rfl) rfl rfl ?_
                refine g_imul 56 (gd rfl) rfl (fun z55 e55 => ?_)
                have i55 := in_mulc 32 0 992 (Or.inr e55) i28x7 rfl rfl
                refine g_aload_n 57 (gd rfl) rfl rfl ?_
                refine g_getA (q2 := 35) 60 (gd rfl) rfl rfl rfl rfl ?_
                refine g_iload_n 61 (gd rfl) rfl rfl ?_
                refine g_iaload 62 (gd rfl) rfl (n := 160) rfl (in_ix i23 rfl) (fun z61 e61 => ?_)
                have q61 : z28x21 = z61 := (e28x21).trans e61.symm
                subst q61
                refine g_iadd 63 (gd rfl) rfl (fun z62 e62 => ?_)
                have i62 := in_add 0 1023 e62 i55 i28x21 rfl rfl
                refine g_dup2 64 (gd rfl) rfl rfl rfl ?_
                refine g_iaload 65 (gd rfl) rfl (n := 1024) rfl (in_ix i62 rfl) (fun z64 e64 => ?_)
                refine g_aload_n 66 (gd rfl) rfl rfl ?_
                refine g_getA (q2 := 37) 69 (gd rfl) rfl rfl rfl rfl ?_
                refine g_iload_n 70 (gd rfl) rfl rfl ?_
                refine g_iaload 71 (gd rfl) rfl (n := 160) rfl (in_ix i23 rfl) (fun z70 e70 => ?_)
                have q70 : z39 = z70 := (e39).trans e70.symm
                subst q70
                refine g_iadd 72 (gd rfl) rfl (fun z71 e71 => ?_)
                refine g_iastore 73 (gd rfl) rfl (n := 1024) rfl (in_ix i62 rfl) ?_
                have hI72 := inv_sI (q := 66) (j := z62.toNatClampNeg) hIc18 rfl (in_w (-2147483648) 2147483647 (i_rng z71) rfl)
                refine g_aload_n 74 (gd rfl) rfl rfl ?_
                refine g_getA (q2 := 67) 77 (gd rfl) rfl rfl rfl rfl ?_
                refine g_aload_n 78 (gd rfl) rfl rfl ?_
                refine g_getA (q2 := 34) 81 (gd rfl) rfl rfl rfl rfl ?_
                refine g_iload_n 82 (gd rfl) rfl rfl ?_
                refine g_iaload 83 (gd rfl) rfl (n := 160) rfl (in_ix i23 rfl) (fun z82 e82 => ?_)
                have q82 : z28x5 = z82 := (sI_ne rfl (e28x5)).trans e82.symm
                subst q82
                refine g_dup2 84 (gd rfl) rfl rfl rfl ?_
                refine g_iaload 85 (gd rfl) rfl (n := 32) rfl (in_ix i28x7 rfl) (fun z84 e84 => ?_)
                refine g_iconst 1 86 (gd rfl) rfl rfl ?_
                refine g_aload_n 87 (gd rfl) rfl rfl ?_
                refine g_getA (q2 := 35) 90 (gd rfl) rfl rfl rfl rfl ?_
                refine g_iload_n 91 (gd rfl) rfl rfl ?_
                refine g_iaload 92 (gd rfl) rfl (n := 160) rfl (in_ix i23 rfl) (fun z91 e91 => ?_)
                have q91 : z28x21 = z91 := (sI_ne rfl (e28x21)).trans e91.symm
                subst q91
                refine g_ishl 93 (gd rfl) rfl (fun z92 e92 => ?_)
                refine g_ior 94 (gd rfl) rfl (fun z93 e93 => ?_)
                refine g_iastore 95 (gd rfl) rfl (n := 32) rfl (in_ix i28x7 rfl) ?_
                have hI94 := inv_sI (q := 67) (j := z28x5.toNatClampNeg) hI72 rfl (in_w (-2147483648) 2147483647 (i_rng z93) rfl)
                refine g_iinc 98 (gd rfl) rfl rfl (Nat.le_of_ble_eq_true rfl) (fun z95 e95 => ?_)
                have i95 := in_add 1 160 e95 i23 (in_c 1 rfl) rfl rfl
                refine g_goto 18 (gd rfl) rfl ?_
                have n18 : OPA (gvD s) (((sI (sI sc18 66 z62.toNatClampNeg z71) 67 z28x5.toNatClampNeg z93)).1 66) (((sI (sI sc18 66 z62.toNatClampNeg z71) 67 z28x5.toNatClampNeg z93)).1 67) (z95).toNatClampNeg := by rw [(show (z95).toNatClampNeg = (y18_2).toNatClampNeg + 1 from (by show (z95).toInt.toNat = (y18_2).toInt.toNat + 1; (first | have a0 := in_u i23a | (have a0 := i23a; unfold In at a0)); (first | have a1 := in_u i23 | (have a1 := i23; unfold In at a1)); (first | have a2 := in_u i95 | (have a2 := i95; unfold In at a2)); have a3 := t_add e95 i23 (in_c 1 rfl) rfl; (first | have a4 := in_u ((in_c 1 rfl)) | (have a4 := (in_c 1 rfl); unfold In at a4)); (first | have a5 := in_u i62 | (have a5 := i62; unfold In at a5)); have a6 := t_add e62 i55 i28x21 rfl; (first | have a7 := in_u i28x21 | (have a7 := i28x21; unfold In at a7)); (first | have a8 := in_u i55 | (have a8 := i55; unfold In at a8)); have a9 := (t_mulc 32 (Or.inr e55) i28x7 rfl).1; (first | have a10 := in_u i28x7 | (have a10 := i28x7; unfold In at a10)); have oc := oc_76_65_32; omega))]; have id9 := (show z62.toNatClampNeg = 32 * z28x5.toNatClampNeg + z28x21.toNatClampNeg from (by show z62.toInt.toNat = 32 * z28x5.toInt.toNat + z28x21.toInt.toNat; have h8 := i28x7; have h9 := i28x21; unfold In at h8 h9; (first | have a0 := in_u i23a | (have a0 := i23a; unfold In at a0)); (first | have a1 := in_u i23 | (have a1 := i23; unfold In at a1)); (first | have a2 := in_u i95 | (have a2 := i95; unfold In at a2)); have a3 := t_add e95 i23 (in_c 1 rfl) rfl; (first | have a4 := in_u ((in_c 1 rfl)) | (have a4 := (in_c 1 rfl); unfold In at a4)); (first | have a5 := in_u i62 | (have a5 := i62; unfold In at a5)); have a6 := t_add e62 i55 i28x21 rfl; (first | have a7 := in_u i28x21 | (have a7 := i28x21; unfold In at a7)); (first | have a8 := in_u i55 | (have a8 := i55; unfold In at a8)); have a9 := (t_mulc 32 (Or.inr e55) i28x7 rfl).1; (first | have a10 := in_u i28x7 | (have a10 := i28x7; unfold In at a10)); have oc := oc_76_65_32; omega)); exact opa_y (g := (gvD s)) g18_0 (by show (y18_2).toInt.toNat < 160; (first | have a0 := in_u i23a | (have a0 := i23a; unfold In at a0)); (first | have a1 := in_u i23 | (have a1 := i23; unfold In at a1)); (first | have a2 := in_u i95 | (have a2 := i95; unfold In at a2)); have a3 := t_add e95 i23 (in_c 1 rfl) rfl; (first | have a4 := in_u ((in_c 1 rfl)) | (have a4 := (in_c 1 rfl); unfold In at a4)); (first | have a5 := in_u i62 | (have a5 := i62; unfold In at a5)); have a6 := t_add e62 i55 i28x21 rfl; (first | have a7 := in_u i28x21 | (have a7 := i28x21; unfold In at a7)); (first | have a8 := in_u i55 | (have a8 := i55; unfold In at a8)); have a9 := (t_mulc 32 (Or.inr e55) i28x7 rfl).1; (first | have a10 := in_u i28x7 | (have a10 := i28x7; unfold In at a10)); have oc := oc_76_65_32; omega) (e28x5.trans (congrFun (hFc18.1 34 rfl) _)) (e28x21.trans (congrFun (hFc18.1 35 rfl) _)) (e39.trans (congrFun (hFc18.1 37 rfl) _)) i28x7 i28x21 c28x22 c40 i39.2 (show z71 = sc18.1 66 (32 * z28x5.toNatClampNeg + z28x21.toNatClampNeg) + z39 from (by rw [e71, e64, id9])) (by show (sI (sI sc18 66 z62.toNatClampNeg z71) 67 z28x5.toNatClampNeg z93).1 66 = _; rw [sI_p rfl, sI_q, id9]) e92 (show z93 = sc18.1 67 z28x5.toNatClampNeg ||| z92 from (by rw [e93, e84, sI_p rfl])) (by show (sI (sI sc18 66 z62.toNatClampNeg z71) 67 z28x5.toNatClampNeg z93).1 67 = _; rw [sI_q, sI_p rfl])
                exact gg_w (by first | exact Nat.le_add_right _ _ | exact gw2 | exact gw3 | exact gwe rfl | exact gwf rfl | exact gwg rfl | exact gwh rfl | omega) (gg_f (gf_cons rfl (gf_cons rfl (gf_cons rfl gf_nil))) (ih18 (sI (sI sc18 66 z62.toNatClampNeg z71) 67 z28x5.toNatClampNeg z93) z95 hI94 (fr_sI rfl (fr_sI rfl hFc18)) (in_w 0 160 i95 rfl) n18 (m_up mm18 (t_add e95 i23 (in_c 1 rfl) rfl) (in_w 1 1 (in_c 1 rfl) rfl))))
  refine g_enter2 (k := 76) (N := 145801) (by first | exact dq1 hd rfl | exact dq0 hd rfl | exact dq2 hd rfl | exact dq3 hd rfl | omega) rfl (Nat.le_of_ble_eq_true rfl) ?_
  refine g_aload_n 1 (gd rfl) rfl rfl ?_
  refine g_getA (q2 := 66) 4 (gd rfl) rfl rfl rfl rfl ?_
  refine g_iconst 0 5 (gd rfl) rfl rfl ?_
  refine g_calls (As := [.ref (A 66), .int (Int32.ofInt 0)]) (r := []) 8 (gd rfl) rfl rfl rfl rfl rfl (Nat.le_of_ble_eq_true rfl) (Nat.zero_le _) (Nat.zero_le _) (k_fillI 66 (by first | exact dq1 hd rfl | exact dq0 hd rfl | exact dq2 hd rfl | exact dq3 hd rfl | omega) hI (in_c 0 rfl) (n := 1024) rfl rfl rfl rfl) (fun v u h => ?_)
  obtain ⟨s5, hI5, hF5, rfl, rfl, fl5⟩ := h
  show GG _ _ _ _ _ _ _ _ [] _ _ _
  refine g_aload_n 9 (gd rfl) rfl rfl ?_
  refine g_getA (q2 := 67) 12 (gd rfl) rfl rfl rfl rfl ?_
  refine g_iconst 0 13 (gd rfl) rfl rfl ?_
  refine g_calls (As := [.ref (A 67), .int (Int32.ofInt 0)]) (r := []) 16 (gd rfl) rfl rfl rfl rfl rfl (Nat.le_of_ble_eq_true rfl) (Nat.zero_le _) (Nat.zero_le _) (k_fillI 67 (by first | exact dq1 hd rfl | exact dq0 hd rfl | exact dq2 hd rfl | exact dq3 hd rfl | omega) hI5 (in_c 0 rfl) (n := 32) rfl rfl rfl rfl) (fun v u h => ?_)
  obtain ⟨s13, hI13, hF13, rfl, rfl, fl13⟩ := h
  show GG _ _ _ _ _ _ _ _ [] _ _ _
  refine g_iconst 0 17 (gd rfl) rfl rfl ?_
  refine g_istore_n 18 (gd rfl) rfl (Nat.le_of_ble_eq_true rfl) ?_
  have n18 : OPA (gvD s) ((s13).1 66) ((s13).1 67) ((Int32.ofInt 0)).toNatClampNeg := by exact (show OPA _ _ _ 0 from opa_0 (fun k hk => (by rw [hF13.1 66 rfl]; exact fl5 k hk)) (fun u hu => fl13 u hu))
  exact gg_w (by first | exact Nat.le_of_ble_eq_true rfl | omega) (gg_f (gf_cons rfl (gf_cons rfl (gf_cons rfl gf_nil))) (ct18 161 s13 (Int32.ofInt 0) hI13 (fr_tr rfl (fr_tr rfl fr_rf hF5) hF13) (in_w 0 160 (in_c 0 rfl) rfl) n18 (m_in 161 (in_w 0 160 (in_c 0 rfl) rfl) rfl)))

theorem oc_77_65 : (Int32.ofInt (-1)).toInt = (-1) ∧ (Int32.ofInt 0).toInt = 0 ∧ (Int32.ofInt 1).toInt = 1 ∧ (Int32.ofInt 32).toInt = 32 := ⟨rfl, rfl, rfl, rfl⟩
/-- GraphHouse$Flows.reach -/
theorem f_77_65 {Z : AmZ} {A : Nat → Nat} {s : GS} {ex : va_W} {d : Nat} {X : AmX} {x1 : Int32} {x2 : Int32} (hd : 4 ≤ d) (hI : Inv s) (h1 : In x1 0 31) (h2 : In x2 0 31) : GC Z d 77 [.ref (A 65), .int x1, .int x2] (WW Z A s ++ ex) 0 0 (fun v u => ∃ t : GS, Inv t ∧ Fr fm_77_65 s t ∧ ∃ z : Int32, v = some (.int z) ∧ u = WW Z A t ++ ex ∧ In z 0 1 ∧ (RV (t.1 68) (t.2.2.1 65 4) x1) ∧ ((z).toInt ≠ 0 → bt (t.2.2.1 65 4) (x2).toNatClampNeg = true) ∧ ((z).toInt ≠ 0 → ∃ d, DLB (s.1 67) ((t).1 68) (x1).toNatClampNeg (x2).toNatClampNeg ((t).2.2.1 65 4) d) ∧ ((z).toInt = 0 → bt ((t).2.2.1 65 4) (x2).toNatClampNeg = false ∧ bt ((t).2.2.1 65 4) (x1).toNatClampNeg = true ∧ (∀ v, bt ((t).2.2.1 65 4) v = true → wlq (EOP (s.1 67)) (x1).toNatClampNeg v) ∧ ∀ u v, EOP (s.1 67) u v → bt ((t).2.2.1 65 4) u = true → bt ((t).2.2.1 65 4) v = true)) X := by
  intro post xp hP hX
  have ct10 : ∀ (k10 : Nat) (sc10 : GS) (y10_3 : Int32) (y10_4 : Int32) (y10_5 : Int32), Inv sc10 → Fr fm_77_65 s sc10 → (In y10_5 0 32) → (RV (sc10.1 68) y10_3 x1) → (∀ j, bt y10_4 j = true → bt y10_3 j = true) → (LYR (s.1 67) ((sc10).1 68) (x1).toNatClampNeg (x2).toNatClampNeg (y10_5).toNatClampNeg (y10_3) (y10_4)) → 32 - (y10_5).toInt < (k10 : Int) → GG Z (d - 1) 77 post (gx xp) (1 + k10 * 16602069681804773691798) 10 (fun j => xlook j [(0, .ref (A 65)), (1, .int x1), (2, .int x2), (3, .int y10_3), (4, .int y10_4), (5, .int y10_5)]) [] (WW Z A sc10 ++ ex) 0 0 := by
    intro k10
    induction k10 with
    | zero => intro sc10 y10_3 y10_4 y10_5 hIc10 hFc10 j10_5 g10_0 g10_1 g10_2 mm10; exact m_no mm10 j10_5 rfl
    | succ k10 ih10 =>
      intro sc10 y10_3 y10_4 y10_5 hIc10 hFc10 j10_5 g10_0 g10_1 g10_2 mm10
      refine gg_w (M := 1 + k10 * 16602069681804773691798 + 16602069681804773691798) gws ?_
      have ct37 : ∀ (k37 : Nat) (sc37 : GS) (y37_3 : Int32) (y37_6 : Int32) (y37_7 : Int32), Inv sc37 → Fr fm_77_65 s sc37 → (In y10_5 0 31) → ((y10_4).toInt ≠ 0) → (RV (sc37.1 68) y37_3 x1) → (∀ j, bt y37_7 j = true → bt y37_3 j = true) → (∀ j, bt y37_6 j = true → bt y37_3 j = true) → (LYM (s.1 67) ((sc37).1 68) (x1).toNatClampNeg (x2).toNatClampNeg (y10_5).toNatClampNeg (y37_3) (y37_7) (y37_6)) → ((y37_7.toBitVec.toNat : Nat) : Int) < (k37 : Int) → GG Z (d - 1) 77 post (gx xp) (1 + k10 * 16602069681804773691798 + 1 + k37 * 3865470569101) 37 (fun j => xlook j [(0, .ref (A 65)), (1, .int x1), (2, .int x2), (3, .int y37_3), (4, .int y10_4), (5, .int y10_5), (6, .int y37_6), (7, .int y37_7)]) [] (WW Z A sc37 ++ ex) 0 0 := by
        intro k37
        induction k37 with
        | zero => intro sc37 y37_3 y37_6 y37_7 hIc37 hFc37 j37_5 nz37_4 g37_0 g37_1 g37_2 g37_3 mm37; exact absurd mm37 (Int.not_lt.mpr (Int.natCast_nonneg _))
        | succ k37 ih37 =>
          intro sc37 y37_3 y37_6 y37_7 hIc37 hFc37 j37_5 nz37_4 g37_0 g37_1 g37_2 g37_3 mm37
          refine gg_w (M := 1 + k10 * 16602069681804773691798 + 1 + k37 * 3865470569101 + 3865470569101) gws ?_
          have ct66 : ∀ (k66 : Nat) (sc66 : GS) (y66_8 : Int32) (y66_9 : Int32) (y66_10 : Int32), Inv sc66 → Fr fm_77_65 s sc66 → (In y66_8 0 31) → ((y10_4).toInt ≠ 0) → ((y37_7).toInt ≠ 0) → (RV (sc66.1 68) y37_3 x1) → (∀ j, bt y66_9 j = true → bt y66_10 j = true ∨ sc66.1 68 j = y66_8) → (bt y37_3 (y66_8).toNatClampNeg = true) → (∀ j, bt y66_10 j = true → bt y66_9 j = true) → (∀ j, bt y66_9 j = true → bt y37_3 j = false) → (∀ j, bt y37_7 j = true → bt y37_3 j = true) → (∀ j, bt y37_6 j = true → bt y37_3 j = true) → (bt y37_7 (y66_8).toNatClampNeg = true ∧ lowB y37_7 (y66_8).toNatClampNeg) → (∀ v : Nat, bt (y66_9) v = true ↔ (bt (s.1 67 (y66_8).toNatClampNeg) v = true ∧ bt (y37_3) v = false)) → (∀ j : Nat, bt (y37_3) j = true → (sc66).1 68 j = sc37.1 68 j) → ((y66_10.toBitVec.toNat : Nat) : Int) < (k66 : Int) → GG Z (d - 1) 77 post (gx xp) (1 + k10 * 16602069681804773691798 + 1 + k37 * 3865470569101 + 1 + k66 * 900) 66 (fun j => xlook j [(0, .ref (A 65)), (1, .int x1), (2, .int x2), (3, .int y37_3), (4, .int y10_4), (5, .int y10_5), (6, .int y37_6), (7, .int y37_7), (8, .int y66_8), (9, .int y66_9), (10, .int y66_10)]) [] (WW Z A sc66 ++ ex) 0 0 := by
            intro k66
            induction k66 with
            | zero => intro sc66 y66_8 y66_9 y66_10 hIc66 hFc66 j66_8 nz66_4 nz66_7 g66_0 g66_1 g66_2 g66_3 g66_4 g66_5 g66_6 g66_7 g66_8 g66_9 mm66; exact absurd mm66 (Int.not_lt.mpr (Int.natCast_nonneg _))
            | succ k66 ih66 =>
              intro sc66 y66_8 y66_9 y66_10 hIc66 hFc66 j66_8 nz66_4 nz66_7 g66_0 g66_1 g66_2 g66_3 g66_4 g66_5 g66_6 g66_7 g66_8 g66_9 mm66
              refine gg_w (M := 1 + k10 * 16602069681804773691798 + 1 + k37 * 3865470569101 + 1 + k66 * 900 + 900) gws ?_
              refine g_iload 68 (gd rfl) rfl rfl ?_
              refine g_if_eq 71 95 (gd rfl) rfl rfl (fun c68 => ?_) (fun c68 => ?_)
              · skip
                have i68 := z_eq 0 0 c68 (i_rng y66_10) rfl
                refine g_iload_n 96 (gd rfl) rfl rfl ?_
                refine g_iload 98 (gd rfl) rfl rfl ?_
                refine g_ior 99 (gd rfl) rfl (fun z98 e98 => ?_)
                refine g_istore_n 100 (gd rfl) rfl (Nat.le_of_ble_eq_true rfl) ?_
                refine g_iload 102 (gd rfl) rfl rfl ?_
                refine g_iload 104 (gd rfl) rfl rfl ?_
                refine g_ior 105 (gd rfl) rfl (fun z104 e104 => ?_)
                refine g_istore 107 (gd rfl) rfl (Nat.le_of_ble_eq_true rfl) ?_
                refine g_iload 109 (gd rfl) rfl rfl ?_
                refine g_iload 111 (gd rfl) rfl rfl ?_
                refine g_iconst 1 112 (gd rfl) rfl rfl ?_
                refine g_isub 113 (gd rfl) rfl (fun z112 e112 => ?_)
                refine g_iand 114 (gd rfl) rfl (fun z113 e113 => ?_)
                refine g_istore 116 (gd rfl) rfl (Nat.le_of_ble_eq_true rfl) ?_
                refine g_goto 37 (gd rfl) rfl ?_
                have n37 : RV (sc66.1 68) z98 x1 := by first | exact g10_0 | exact rv_or g66_0 (fun j hj => (g66_1 j hj).resolve_left (by have hz : y66_10 = Int32.ofInt 0 := Int32.toInt_inj.mp (show y66_10.toInt = (Int32.ofInt 0).toInt from c68); rw [hz]; intro w; have hw : bt (Int32.ofInt 0) j = false := bt_z; rw [hw] at w; cases w)) j66_8 g66_2 e98
                have n37a : ∀ j, bt z113 j = true → bt z98 j = true := by first | exact g10_1 | exact fun j h => bt_orl e98 (g66_5 j (bt_and1 e113 h))
                have n37b : ∀ j, bt z104 j = true → bt z98 j = true := by first | exact (fun j h => absurd h (by have hw : bt (Int32.ofInt 0) j = false := bt_z; rw [hw]; decide)) | exact fun j h => by (rw [bt_or e104, Bool.or_eq_true] at h; rcases h with h | h; exact bt_orl e98 (g66_6 j h); exact bt_orr e98 h)
                have n37c : LYM (s.1 67) ((sc66).1 68) (x1).toNatClampNeg (x2).toNatClampNeg (y10_5).toNatClampNeg (z98) (z113) (z104) := by exact lym_s g37_3 j66_8 g66_7.1 g66_8 (fun v => by rw [bt_or e98, Bool.or_eq_true]) (fun v => by rw [bt_or e104, Bool.or_eq_true]) (fun v => by rw [lowB_clr g66_7.2 e112 e113]; simp) g66_9 (fun v hv => (g66_1 v hv).resolve_left (by have hz : y66_10 = Int32.ofInt 0 := Int32.toInt_inj.mp (show y66_10.toInt = (Int32.ofInt 0).toInt from c68); rw [hz]; intro w; have hw : bt (Int32.ofInt 0) v = false := bt_z; rw [hw] at w; cases w))
                exact gg_w (by first | exact Nat.le_add_right _ _ | exact gw2 | exact gw3 | exact gwe rfl | exact gwf rfl | exact gwg rfl | exact gwh rfl | omega) (gg_f (gf_cons rfl (gf_cons rfl (gf_cons rfl (gf_cons rfl (gf_cons rfl (gf_cons rfl (gf_cons rfl (gf_cons rfl gf_nil)))))))) (ih37 sc66 z98 z104 z113 hIc66 hFc66 (in_w 0 31 j37_5 rfl) nz66_4 n37 n37a n37b n37c (mb e113 e112 nz66_7 mm37)))
              · skip
                refine g_aload_n 72 (gd rfl) rfl rfl ?_
                refine g_getA (q2 := 68) 75 (gd rfl) rfl rfl rfl rfl ?_
                refine g_iload 77 (gd rfl) rfl rfl ?_
                refine g_calls (As := [.int y66_10]) (r := [.ref (A 68)]) 80 (gd rfl) rfl rfl rfl rfl rfl (Nat.le_of_ble_eq_true rfl) (Nat.zero_le _) (Nat.zero_le _) (k_264n (by first | exact dq1 hd rfl | exact dq0 hd rfl | exact dq2 hd rfl | exact dq3 hd rfl | omega) c68) (fun v u h => ?_)
                obtain ⟨z77, rfl, rfl, i77, hb77, hl77⟩ := h
                show GG _ _ _ _ _ _ _ _ [.int z77, .ref (A 68)] _ _ _
                refine g_iload 82 (gd rfl) rfl rfl ?_
                refine g_iastore 83 (gd rfl) rfl (n := 32) rfl (in_ix i77 rfl) ?_
                have hI82 := inv_sI (q := 68) (j := z77.toNatClampNeg) hIc66 rfl (in_w (-1) 319 j66_8 rfl)
                refine g_iload 85 (gd rfl) rfl rfl ?_
                refine g_iload 87 (gd rfl) rfl rfl ?_
                refine g_iconst 1 88 (gd rfl) rfl rfl ?_
                refine g_isub 89 (gd rfl) rfl (fun z88 e88 => ?_)
                refine g_iand 90 (gd rfl) rfl (fun z89 e89 => ?_)
                refine g_istore 92 (gd rfl) rfl (Nat.le_of_ble_eq_true rfl) ?_
                refine g_goto 66 (gd rfl) rfl ?_
                have n66 : RV ((sI sc66 68 z77.toNatClampNeg y66_8).1 68) y37_3 x1 := by first | exact g37_0 | (rw [sI_q]; exact rv_upd g66_0 (g66_4 _ (g66_3 _ hb77)))
                have n66a : ∀ j, bt y66_9 j = true → bt z89 j = true ∨ (sI sc66 68 z77.toNatClampNeg y66_8).1 68 j = y66_8 := by first | exact fun j h => Or.inl h | (intro j hj; rw [sI_q, lowB_clr hl77 e88 e89]; unfold upd; by_cases c : j = z77.toNatClampNeg; exact Or.inr (if_pos c); (rw [if_neg c]; rcases g66_1 j hj with h | h; exact Or.inl (by simp [h, c]); exact Or.inr h))
                have n66b : bt y37_3 (y66_8).toNatClampNeg = true := by first | exact g66_2 | exact g37_1 _ hb44
                have n66c : ∀ j, bt z89 j = true → bt y66_9 j = true := by first | exact fun j h => h | exact fun j h => g66_3 j (bt_and1 e89 h)
                have n66d : ∀ j, bt y66_9 j = true → bt y37_3 j = false := by first | exact g66_4 | exact fun j h => bt_andn e58 e59 h
                have n66e : ∀ j, bt y37_7 j = true → bt y37_3 j = true := by first | exact g66_5 | exact g37_1
                have n66f : ∀ j, bt y37_6 j = true → bt y37_3 j = true := by first | exact g66_6 | exact g37_2
                have n66g : bt y37_7 (y66_8).toNatClampNeg = true ∧ lowB y37_7 (y66_8).toNatClampNeg := by exact g66_7
                have n66h : ∀ v : Nat, bt (y66_9) v = true ↔ (bt (s.1 67 (y66_8).toNatClampNeg) v = true ∧ bt (y37_3) v = false) := by exact g66_8
                have n66i : ∀ j : Nat, bt (y37_3) j = true → ((sI sc66 68 z77.toNatClampNeg y66_8)).1 68 j = sc37.1 68 j := by intro j hj; rw [sI_q, up_n (fun z => (by have h9 := g66_4 _ (g66_3 _ hb77); rw [← z, hj] at h9; cases h9))]; exact g66_9 j hj
                exact gg_w (by first | exact Nat.le_add_right _ _ | exact gw2 | exact gw3 | exact gwe rfl | exact gwf rfl | exact gwg rfl | exact gwh rfl | omega) (gg_f (gf_cons rfl (gf_cons rfl (gf_cons rfl (gf_cons rfl (gf_cons rfl (gf_cons rfl (gf_cons rfl (gf_cons rfl (gf_cons rfl (gf_cons rfl (gf_cons rfl gf_nil))))))))))) (ih66 (sI sc66 68 z77.toNatClampNeg y66_8) y66_8 y66_9 z89 hI82 (fr_sI rfl hFc66) (in_w 0 31 j66_8 rfl) nz66_4 nz66_7 n66 n66a n66b n66c n66d n66e n66f n66g n66h n66i (mb e89 e88 c68 mm66)))
          refine g_iload 39 (gd rfl) rfl rfl ?_
          refine g_if_eq 42 119 (gd rfl) rfl rfl (fun c39 => ?_) (fun c39 => ?_)
          · skip
            have i39 := z_eq 0 0 c39 (i_rng y37_7) rfl
            refine g_iload 121 (gd rfl) rfl rfl ?_
            refine g_istore 123 (gd rfl) rfl (Nat.le_of_ble_eq_true rfl) ?_
            refine g_iinc 126 (gd rfl) rfl rfl (Nat.le_of_ble_eq_true rfl) (fun z123 e123 => ?_)
            have i123 := in_add 1 32 e123 j37_5 (in_c 1 rfl) rfl rfl
            refine g_goto 10 (gd rfl) rfl ?_
            have n10 : RV (sc37.1 68) y37_3 x1 := by first | exact g37_0 | exact rv_1 e2 h1
            have n10a : ∀ j, bt y37_6 j = true → bt y37_3 j = true := by first | exact fun j h => h | exact g37_2
            have n10b : LYR (s.1 67) ((sc37).1 68) (x1).toNatClampNeg (x2).toNatClampNeg (z123).toNatClampNeg (y37_3) (y37_6) := by rw [(show (z123).toNatClampNeg = (y10_5).toNatClampNeg + 1 from (by show (z123).toInt.toNat = (y10_5).toInt.toNat + 1; (first | have a0 := in_u i39 | (have a0 := i39; unfold In at a0)); (first | have a1 := in_u j37_5 | (have a1 := j37_5; unfold In at a1)); (first | have a2 := in_u h2 | (have a2 := h2; unfold In at a2)); (first | have a3 := in_u h1 | (have a3 := h1; unfold In at a3)); (first | have a4 := in_u i123 | (have a4 := i123; unfold In at a4)); have a5 := t_add e123 j37_5 (in_c 1 rfl) rfl; (first | have a6 := in_u ((in_c 1 rfl)) | (have a6 := (in_c 1 rfl); unfold In at a6)); have oc := oc_77_65; omega))]; exact lyr_n g37_3 c39
            exact gg_w (by first | exact Nat.le_add_right _ _ | exact gw2 | exact gw3 | exact gwe rfl | exact gwf rfl | exact gwg rfl | exact gwh rfl | omega) (gg_f (gf_cons rfl (gf_cons rfl (gf_cons rfl (gf_cons rfl (gf_cons rfl (gf_cons rfl gf_nil)))))) (ih10 sc37 y37_3 y37_6 z123 hIc37 hFc37 (in_w 0 32 i123 rfl) n10 n10a n10b (m_up mm10 (t_add e123 j37_5 (in_c 1 rfl) rfl) (in_w 1 1 (in_c 1 rfl) rfl))))
          · skip
            refine g_iload 44 (gd rfl) rfl rfl ?_
            refine g_calls (As := [.int y37_7]) (r := []) 47 (gd rfl) rfl rfl rfl rfl rfl (Nat.le_of_ble_eq_true rfl) (Nat.zero_le _) (Nat.zero_le _) (k_264n (by first | exact dq1 hd rfl | exact dq0 hd rfl | exact dq2 hd rfl | exact dq3 hd rfl | omega) c39) (fun v u h => ?_)
            obtain ⟨z44, rfl, rfl, i44, hb44, hl44⟩ := h
            show GG _ _ _ _ _ _ _ _ [.int z44] _ _ _
            refine g_istore 49 (gd rfl) rfl (Nat.le_of_ble_eq_true rfl) ?_
            refine g_aload_n 50 (gd rfl) rfl rfl ?_
            refine g_getA (q2 := 67) 53 (gd rfl) rfl rfl rfl rfl ?_
            refine g_iload 55 (gd rfl) rfl rfl ?_
            refine g_iaload 56 (gd rfl) rfl (n := 32) rfl (in_ix i44 rfl) (fun z55 e55 => ?_)
            refine g_iload_n 57 (gd rfl) rfl rfl ?_
            refine g_iconst (-1) 58 (gd rfl) rfl rfl ?_
            refine g_ixor 59 (gd rfl) rfl (fun z58 e58 => ?_)
            refine g_iand 60 (gd rfl) rfl (fun z59 e59 => ?_)
            refine g_istore 62 (gd rfl) rfl (Nat.le_of_ble_eq_true rfl) ?_
            refine g_iload 64 (gd rfl) rfl rfl ?_
            refine g_istore 66 (gd rfl) rfl (Nat.le_of_ble_eq_true rfl) ?_
            have n66 : RV (sc37.1 68) y37_3 x1 := by first | exact g37_0 | (rw [sI_q]; exact rv_upd g66_0 (g66_4 _ (g66_3 _ hb77)))
            have n66a : ∀ j, bt z59 j = true → bt z59 j = true ∨ sc37.1 68 j = z44 := by first | exact fun j h => Or.inl h | (intro j hj; rw [sI_q, lowB_clr hl77 e88 e89]; unfold upd; by_cases c : j = z77.toNatClampNeg; exact Or.inr (if_pos c); (rw [if_neg c]; rcases g66_1 j hj with h | h; exact Or.inl (by simp [h, c]); exact Or.inr h))
            have n66b : bt y37_3 (z44).toNatClampNeg = true := by first | exact g66_2 | exact g37_1 _ hb44
            have n66c : ∀ j, bt z59 j = true → bt z59 j = true := by first | exact fun j h => h | exact fun j h => g66_3 j (bt_and1 e89 h)
            have n66d : ∀ j, bt z59 j = true → bt y37_3 j = false := by first | exact g66_4 | exact fun j h => bt_andn e58 e59 h
            have n66e : ∀ j, bt y37_7 j = true → bt y37_3 j = true := by first | exact g66_5 | exact g37_1
            have n66f : ∀ j, bt y37_6 j = true → bt y37_3 j = true := by first | exact g66_6 | exact g37_2
            have n66g : bt y37_7 (z44).toNatClampNeg = true ∧ lowB y37_7 (z44).toNatClampNeg := by exact ⟨hb44, hl44⟩
            have n66h : ∀ v : Nat, bt (z59) v = true ↔ (bt (s.1 67 (z44).toNatClampNeg) v = true ∧ bt (y37_3) v = false) := by intro v; rw [← hFc37.1 67 rfl, ← e55]; exact btn_iff e58 e59
            have n66i : ∀ j : Nat, bt (y37_3) j = true → (sc37).1 68 j = sc37.1 68 j := by intro j hj; rfl
            exact gg_w (by first | exact Nat.le_add_right _ _ | exact gw2 | exact gw3 | exact gwe rfl | exact gwf rfl | exact gwg rfl | exact gwh rfl | omega) (gg_f (gf_cons rfl (gf_cons rfl (gf_cons rfl (gf_cons rfl (gf_cons rfl (gf_cons rfl (gf_cons rfl (gf_cons rfl (gf_cons rfl (gf_cons rfl (gf_cons rfl gf_nil))))))))))) (ct66 4294967296 sc37 z44 z59 z59 hIc37 hFc37 (in_w 0 31 i44 rfl) nz37_4 c39 n66 n66a n66b n66c n66d n66e n66f n66g n66h n66i (mb_in _)))
      refine g_iload 12 (gd rfl) rfl rfl ?_
      refine g_bipush 32 14 (gd rfl) rfl rfl ?_
      refine g_cmp_ge 17 129 (gd rfl) rfl rfl (fun c14 => ?_) (fun c14 => ?_)
      · skip
        have i14 := r_le2 32 32 c14 (in_c 32 rfl) j10_5 rfl
        refine g_aload_n 130 (gd rfl) rfl rfl ?_
        refine g_iload_n 131 (gd rfl) rfl rfl ?_
        refine g_putI 134 (gd rfl) rfl rfl rfl rfl ?_
        have hI131 := inv_sF (q := 65) (j := 4) hIc10 rfl (in_w (-2147483648) 2147483647 (i_rng y10_3) rfl)
        refine g_iload_n 135 (gd rfl) rfl rfl ?_
        refine g_iload_n 136 (gd rfl) rfl rfl ?_
        refine g_ishr 137 (gd rfl) rfl (fun z136 e136 => ?_)
        refine g_iconst 1 138 (gd rfl) rfl rfl ?_
        refine g_iand 139 (gd rfl) rfl (fun z138 e138 => ?_)
        have i138 := in_and2 e138 (in_c 1 rfl) rfl
        refine g_if_eq 142 146 (gd rfl) rfl rfl (fun c139 => ?_) (fun c139 => ?_)
        · skip
          have i139 := z_eq 0 0 c139 i138 rfl
          refine g_iconst 0 147 (gd rfl) rfl rfl ?_
          have n147 : RV ((sF sc10 65 4 y10_3).1 68) ((sF sc10 65 4 y10_3).2.2.1 65 4) x1 := by rw [← (show y10_3 = (sF sc10 65 4 y10_3).2.2.1 65 4 from sF_get)]; exact g10_0
          have n147a : ((Int32.ofInt 0)).toInt ≠ 0 → bt ((sF sc10 65 4 y10_3).2.2.1 65 4) (x2).toNatClampNeg = true := by first | (intro h; exact absurd rfl h) | (intro _; rw [← (show y10_3 = (sF sc10 65 4 y10_3).2.2.1 65 4 from sF_get)]; have hq := bt_ask e136 e138 h2; cases hb : bt y10_3 (x2).toNatClampNeg with | true => rfl | false => (rw [hb] at hq; exact absurd hq c139))
          have n147b : ((Int32.ofInt 0)).toInt ≠ 0 → ∃ d, DLB (s.1 67) (((sF sc10 65 4 y10_3)).1 68) (x1).toNatClampNeg (x2).toNatClampNeg (((sF sc10 65 4 y10_3)).2.2.1 65 4) d := by first | (intro h; exact absurd rfl h) | (intro _; rw [← (show y10_3 = (sF sc10 65 4 y10_3).2.2.1 65 4 from sF_get)]; exact lyr_t g10_2 (bt_t1 (bt_ask e136 e138 h2) c139))
          have n147c : ((Int32.ofInt 0)).toInt = 0 → bt (((sF sc10 65 4 y10_3)).2.2.1 65 4) (x2).toNatClampNeg = false ∧ bt (((sF sc10 65 4 y10_3)).2.2.1 65 4) (x1).toNatClampNeg = true ∧ (∀ v, bt (((sF sc10 65 4 y10_3)).2.2.1 65 4) v = true → wlq (EOP (s.1 67)) (x1).toNatClampNeg v) ∧ ∀ u v, EOP (s.1 67) u v → bt (((sF sc10 65 4 y10_3)).2.2.1 65 4) u = true → bt (((sF sc10 65 4 y10_3)).2.2.1 65 4) v = true := by first | (intro h; exact absurd h (by decide)) | (intro _; rw [← (show y10_3 = (sF sc10 65 4 y10_3).2.2.1 65 4 from sF_get)]; refine ⟨(show bt y10_3 (x2).toNatClampNeg = false from (bt_f0 (bt_ask e136 e138 h2) c139)), ?_⟩; by_cases z : (y10_4).toInt = 0; (exact lyr_f g10_2 z); (exfalso; have h9 := lyr_x g10_2 z; have h8 : (y10_5).toNatClampNeg = (y10_5).toInt.toNat := rfl; (first | have a0 := in_u h2 | (have a0 := h2; unfold In at a0)); (first | have a1 := in_u h1 | (have a1 := h1; unfold In at a1)); (first | have a2 := in_u i14 | (have a2 := i14; unfold In at a2)); have oc := oc_77_65; omega))
          exact g_ireturn (gd rfl) rfl (nb01 (in_w 0 1 (in_c 0 rfl) rfl)) (hP _ _ ⟨(sF sc10 65 4 y10_3), hI131, (fr_sF rfl hFc10), (Int32.ofInt 0), rfl, rfl, in_w 0 1 (in_c 0 rfl) rfl, n147, n147a, n147b, n147c⟩)
        · skip
          have i139 := z_ne 1 1 c139 i138 rfl
          refine g_iconst 1 143 (gd rfl) rfl rfl ?_
          refine g_goto 147 (gd rfl) rfl ?_
          have n147 : RV ((sF sc10 65 4 y10_3).1 68) ((sF sc10 65 4 y10_3).2.2.1 65 4) x1 := by rw [← (show y10_3 = (sF sc10 65 4 y10_3).2.2.1 65 4 from sF_get)]; exact g10_0
          have n147a : ((Int32.ofInt 1)).toInt ≠ 0 → bt ((sF sc10 65 4 y10_3).2.2.1 65 4) (x2).toNatClampNeg = true := by first | (intro h; exact absurd rfl h) | (intro _; rw [← (show y10_3 = (sF sc10 65 4 y10_3).2.2.1 65 4 from sF_get)]; have hq := bt_ask e136 e138 h2; cases hb : bt y10_3 (x2).toNatClampNeg with | true => rfl | false => (rw [hb] at hq; exact absurd hq c139))
          have n147b : ((Int32.ofInt 1)).toInt ≠ 0 → ∃ d, DLB (s.1 67) (((sF sc10 65 4 y10_3)).1 68) (x1).toNatClampNeg (x2).toNatClampNeg (((sF sc10 65 4 y10_3)).2.2.1 65 4) d := by first | (intro h; exact absurd rfl h) | (intro _; rw [← (show y10_3 = (sF sc10 65 4 y10_3).2.2.1 65 4 from sF_get)]; exact lyr_t g10_2 (bt_t1 (bt_ask e136 e138 h2) c139))
          have n147c : ((Int32.ofInt 1)).toInt = 0 → bt (((sF sc10 65 4 y10_3)).2.2.1 65 4) (x2).toNatClampNeg = false ∧ bt (((sF sc10 65 4 y10_3)).2.2.1 65 4) (x1).toNatClampNeg = true ∧ (∀ v, bt (((sF sc10 65 4 y10_3)).2.2.1 65 4) v = true → wlq (EOP (s.1 67)) (x1).toNatClampNeg v) ∧ ∀ u v, EOP (s.1 67) u v → bt (((sF sc10 65 4 y10_3)).2.2.1 65 4) u = true → bt (((sF sc10 65 4 y10_3)).2.2.1 65 4) v = true := by first | (intro h; exact absurd h (by decide)) | (intro _; rw [← (show y10_3 = (sF sc10 65 4 y10_3).2.2.1 65 4 from sF_get)]; refine ⟨(show bt y10_3 (x2).toNatClampNeg = false from (bt_f0 (bt_ask e136 e138 h2) c139)), ?_⟩; by_cases z : (y10_4).toInt = 0; (exact lyr_f g10_2 z); (exfalso; have h9 := lyr_x g10_2 z; have h8 : (y10_5).toNatClampNeg = (y10_5).toInt.toNat := rfl; (first | have a0 := in_u h2 | (have a0 := h2; unfold In at a0)); (first | have a1 := in_u h1 | (have a1 := h1; unfold In at a1)); (first | have a2 := in_u i14 | (have a2 := i14; unfold In at a2)); have oc := oc_77_65; omega))
          exact g_ireturn (gd rfl) rfl (nb01 (in_w 0 1 (in_c 1 rfl) rfl)) (hP _ _ ⟨(sF sc10 65 4 y10_3), hI131, (fr_sF rfl hFc10), (Int32.ofInt 1), rfl, rfl, in_w 0 1 (in_c 1 rfl) rfl, n147, n147a, n147b, n147c⟩)
      · skip
        have i14 := r_lt1 0 31 c14 j10_5 (in_c 32 rfl) rfl
        refine g_iload 19 (gd rfl) rfl rfl ?_
        refine g_if_eq 22 129 (gd rfl) rfl rfl (fun c19 => ?_) (fun c19 => ?_)
        · skip
          have i19 := z_eq 0 0 c19 (i_rng y10_4) rfl
          refine g_aload_n 130 (gd rfl) rfl rfl ?_
          refine g_iload_n 131 (gd rfl) rfl rfl ?_
          refine g_putI 134 (gd rfl) rfl rfl rfl rfl ?_
          have hI131 := inv_sF (q := 65) (j := 4) hIc10 rfl (in_w (-2147483648) 2147483647 (i_rng y10_3) rfl)
          refine g_iload_n 135 (gd rfl) rfl rfl ?_
          refine g_iload_n 136 (gd rfl) rfl rfl ?_
          refine g_ishr 137 (gd rfl) rfl (fun z136 e136 => ?_)
          refine g_iconst 1 138 (gd rfl) rfl rfl ?_
          refine g_iand 139 (gd rfl) rfl (fun z138 e138 => ?_)
          have i138 := in_and2 e138 (in_c 1 rfl) rfl
          refine g_if_eq 142 146 (gd rfl) rfl rfl (fun c139 => ?_) (fun c139 => ?_)
          · skip
            have i139 := z_eq 0 0 c139 i138 rfl
            refine g_iconst 0 147 (gd rfl) rfl rfl ?_
            have n147 : RV ((sF sc10 65 4 y10_3).1 68) ((sF sc10 65 4 y10_3).2.2.1 65 4) x1 := by rw [← (show y10_3 = (sF sc10 65 4 y10_3).2.2.1 65 4 from sF_get)]; exact g10_0
            have n147a : ((Int32.ofInt 0)).toInt ≠ 0 → bt ((sF sc10 65 4 y10_3).2.2.1 65 4) (x2).toNatClampNeg = true := by first | (intro h; exact absurd rfl h) | (intro _; rw [← (show y10_3 = (sF sc10 65 4 y10_3).2.2.1 65 4 from sF_get)]; have hq := bt_ask e136 e138 h2; cases hb : bt y10_3 (x2).toNatClampNeg with | true => rfl | false => (rw [hb] at hq; exact absurd hq c139))
            have n147b : ((Int32.ofInt 0)).toInt ≠ 0 → ∃ d, DLB (s.1 67) (((sF sc10 65 4 y10_3)).1 68) (x1).toNatClampNeg (x2).toNatClampNeg (((sF sc10 65 4 y10_3)).2.2.1 65 4) d := by first | (intro h; exact absurd rfl h) | (intro _; rw [← (show y10_3 = (sF sc10 65 4 y10_3).2.2.1 65 4 from sF_get)]; exact lyr_t g10_2 (bt_t1 (bt_ask e136 e138 h2) c139))
            have n147c : ((Int32.ofInt 0)).toInt = 0 → bt (((sF sc10 65 4 y10_3)).2.2.1 65 4) (x2).toNatClampNeg = false ∧ bt (((sF sc10 65 4 y10_3)).2.2.1 65 4) (x1).toNatClampNeg = true ∧ (∀ v, bt (((sF sc10 65 4 y10_3)).2.2.1 65 4) v = true → wlq (EOP (s.1 67)) (x1).toNatClampNeg v) ∧ ∀ u v, EOP (s.1 67) u v → bt (((sF sc10 65 4 y10_3)).2.2.1 65 4) u = true → bt (((sF sc10 65 4 y10_3)).2.2.1 65 4) v = true := by first | (intro h; exact absurd h (by decide)) | (intro _; rw [← (show y10_3 = (sF sc10 65 4 y10_3).2.2.1 65 4 from sF_get)]; exact ⟨(show bt y10_3 (x2).toNatClampNeg = false from (bt_f0 (bt_ask e136 e138 h2) c139)), lyr_f g10_2 c19⟩)
            exact g_ireturn (gd rfl) rfl (nb01 (in_w 0 1 (in_c 0 rfl) rfl)) (hP _ _ ⟨(sF sc10 65 4 y10_3), hI131, (fr_sF rfl hFc10), (Int32.ofInt 0), rfl, rfl, in_w 0 1 (in_c 0 rfl) rfl, n147, n147a, n147b, n147c⟩)
          · skip
            have i139 := z_ne 1 1 c139 i138 rfl
            refine g_iconst 1 143 (gd rfl) rfl rfl ?_
            refine g_goto 147 (gd rfl) rfl ?_
            have n147 : RV ((sF sc10 65 4 y10_3).1 68) ((sF sc10 65 4 y10_3).2.2.1 65 4) x1 := by rw [← (show y10_3 = (sF sc10 65 4 y10_3).2.2.1 65 4 from sF_get)]; exact g10_0
            have n147a : ((Int32.ofInt 1)).toInt ≠ 0 → bt ((sF sc10 65 4 y10_3).2.2.1 65 4) (x2).toNatClampNeg = true := by first | (intro h; exact absurd rfl h) | (intro _; rw [← (show y10_3 = (sF sc10 65 4 y10_3).2.2.1 65 4 from sF_get)]; have hq := bt_ask e136 e138 h2; cases hb : bt y10_3 (x2).toNatClampNeg with | true => rfl | false => (rw [hb] at hq; exact absurd hq c139))
            have n147b : ((Int32.ofInt 1)).toInt ≠ 0 → ∃ d, DLB (s.1 67) (((sF sc10 65 4 y10_3)).1 68) (x1).toNatClampNeg (x2).toNatClampNeg (((sF sc10 65 4 y10_3)).2.2.1 65 4) d := by first | (intro h; exact absurd rfl h) | (intro _; rw [← (show y10_3 = (sF sc10 65 4 y10_3).2.2.1 65 4 from sF_get)]; exact lyr_t g10_2 (bt_t1 (bt_ask e136 e138 h2) c139))
            have n147c : ((Int32.ofInt 1)).toInt = 0 → bt (((sF sc10 65 4 y10_3)).2.2.1 65 4) (x2).toNatClampNeg = false ∧ bt (((sF sc10 65 4 y10_3)).2.2.1 65 4) (x1).toNatClampNeg = true ∧ (∀ v, bt (((sF sc10 65 4 y10_3)).2.2.1 65 4) v = true → wlq (EOP (s.1 67)) (x1).toNatClampNeg v) ∧ ∀ u v, EOP (s.1 67) u v → bt (((sF sc10 65 4 y10_3)).2.2.1 65 4) u = true → bt (((sF sc10 65 4 y10_3)).2.2.1 65 4) v = true := by first | (intro h; exact absurd h (by decide)) | (intro _; rw [← (show y10_3 = (sF sc10 65 4 y10_3).2.2.1 65 4 from sF_get)]; exact ⟨(show bt y10_3 (x2).toNatClampNeg = false from (bt_f0 (bt_ask e136 e138 h2) c139)), lyr_f g10_2 c19⟩)
            exact g_ireturn (gd rfl) rfl (nb01 (in_w 0 1 (in_c 1 rfl) rfl)) (hP _ _ ⟨(sF sc10 65 4 y10_3), hI131, (fr_sF rfl hFc10), (Int32.ofInt 1), rfl, rfl, in_w 0 1 (in_c 1 rfl) rfl, n147, n147a, n147b, n147c⟩)
        · skip
          refine g_iload_n 23 (gd rfl) rfl rfl ?_
          refine g_iload_n 24 (gd rfl) rfl rfl ?_
          refine g_ishr 25 (gd rfl) rfl (fun z24 e24 => ?_)
          refine g_iconst 1 26 (gd rfl) rfl rfl ?_
          refine g_iand 27 (gd rfl) rfl (fun z26 e26 => ?_)
          have i26 := in_and2 e26 (in_c 1 rfl) rfl
          refine g_if_ne 30 129 (gd rfl) rfl rfl (fun c27 => ?_) (fun c27 => ?_)
          · skip
            have i27 := z_ne 1 1 c27 i26 rfl
            refine g_aload_n 130 (gd rfl) rfl rfl ?_
            refine g_iload_n 131 (gd rfl) rfl rfl ?_
            refine g_putI 134 (gd rfl) rfl rfl rfl rfl ?_
            have hI131 := inv_sF (q := 65) (j := 4) hIc10 rfl (in_w (-2147483648) 2147483647 (i_rng y10_3) rfl)
            refine g_iload_n 135 (gd rfl) rfl rfl ?_
            refine g_iload_n 136 (gd rfl) rfl rfl ?_
            refine g_ishr 137 (gd rfl) rfl (fun z136 e136 => ?_)
            refine g_iconst 1 138 (gd rfl) rfl rfl ?_
            refine g_iand 139 (gd rfl) rfl (fun z138 e138 => ?_)
            have i138 := in_and2 e138 (in_c 1 rfl) rfl
            refine g_if_eq 142 146 (gd rfl) rfl rfl (fun c139 => ?_) (fun c139 => ?_)
            · skip
              have i139 := z_eq 0 0 c139 i138 rfl
              refine g_iconst 0 147 (gd rfl) rfl rfl ?_
              have n147 : RV ((sF sc10 65 4 y10_3).1 68) ((sF sc10 65 4 y10_3).2.2.1 65 4) x1 := by rw [← (show y10_3 = (sF sc10 65 4 y10_3).2.2.1 65 4 from sF_get)]; exact g10_0
              have n147a : ((Int32.ofInt 0)).toInt ≠ 0 → bt ((sF sc10 65 4 y10_3).2.2.1 65 4) (x2).toNatClampNeg = true := by first | (intro h; exact absurd rfl h) | (intro _; rw [← (show y10_3 = (sF sc10 65 4 y10_3).2.2.1 65 4 from sF_get)]; have hq := bt_ask e136 e138 h2; cases hb : bt y10_3 (x2).toNatClampNeg with | true => rfl | false => (rw [hb] at hq; exact absurd hq c139))
              have n147b : ((Int32.ofInt 0)).toInt ≠ 0 → ∃ d, DLB (s.1 67) (((sF sc10 65 4 y10_3)).1 68) (x1).toNatClampNeg (x2).toNatClampNeg (((sF sc10 65 4 y10_3)).2.2.1 65 4) d := by first | (intro h; exact absurd rfl h) | (intro _; rw [← (show y10_3 = (sF sc10 65 4 y10_3).2.2.1 65 4 from sF_get)]; exact lyr_t g10_2 (bt_t1 (bt_ask e136 e138 h2) c139))
              have n147c : ((Int32.ofInt 0)).toInt = 0 → bt (((sF sc10 65 4 y10_3)).2.2.1 65 4) (x2).toNatClampNeg = false ∧ bt (((sF sc10 65 4 y10_3)).2.2.1 65 4) (x1).toNatClampNeg = true ∧ (∀ v, bt (((sF sc10 65 4 y10_3)).2.2.1 65 4) v = true → wlq (EOP (s.1 67)) (x1).toNatClampNeg v) ∧ ∀ u v, EOP (s.1 67) u v → bt (((sF sc10 65 4 y10_3)).2.2.1 65 4) u = true → bt (((sF sc10 65 4 y10_3)).2.2.1 65 4) v = true := by first | (intro h; exact absurd h (by decide)) | (intro _; exfalso; have h8 := bt_t1 (bt_ask e24 e26 h2) c27; rw [(show bt y10_3 (x2).toNatClampNeg = false from (bt_f0 (bt_ask e136 e138 h2) c139))] at h8; cases h8)
              exact g_ireturn (gd rfl) rfl (nb01 (in_w 0 1 (in_c 0 rfl) rfl)) (hP _ _ ⟨(sF sc10 65 4 y10_3), hI131, (fr_sF rfl hFc10), (Int32.ofInt 0), rfl, rfl, in_w 0 1 (in_c 0 rfl) rfl, n147, n147a, n147b, n147c⟩)
            · skip
              have i139 := z_ne 1 1 c139 i138 rfl
              refine g_iconst 1 143 (gd rfl) rfl rfl ?_
              refine g_goto 147 (gd rfl) rfl ?_
              have n147 : RV ((sF sc10 65 4 y10_3).1 68) ((sF sc10 65 4 y10_3).2.2.1 65 4) x1 := by rw [← (show y10_3 = (sF sc10 65 4 y10_3).2.2.1 65 4 from sF_get)]; exact g10_0
              have n147a : ((Int32.ofInt 1)).toInt ≠ 0 → bt ((sF sc10 65 4 y10_3).2.2.1 65 4) (x2).toNatClampNeg = true := by first | (intro h; exact absurd rfl h) | (intro _; rw [← (show y10_3 = (sF sc10 65 4 y10_3).2.2.1 65 4 from sF_get)]; have hq := bt_ask e136 e138 h2; cases hb : bt y10_3 (x2).toNatClampNeg with | true => rfl | false => (rw [hb] at hq; exact absurd hq c139))
              have n147b : ((Int32.ofInt 1)).toInt ≠ 0 → ∃ d, DLB (s.1 67) (((sF sc10 65 4 y10_3)).1 68) (x1).toNatClampNeg (x2).toNatClampNeg (((sF sc10 65 4 y10_3)).2.2.1 65 4) d := by first | (intro h; exact absurd rfl h) | (intro _; rw [← (show y10_3 = (sF sc10 65 4 y10_3).2.2.1 65 4 from sF_get)]; exact lyr_t g10_2 (bt_t1 (bt_ask e136 e138 h2) c139))
              have n147c : ((Int32.ofInt 1)).toInt = 0 → bt (((sF sc10 65 4 y10_3)).2.2.1 65 4) (x2).toNatClampNeg = false ∧ bt (((sF sc10 65 4 y10_3)).2.2.1 65 4) (x1).toNatClampNeg = true ∧ (∀ v, bt (((sF sc10 65 4 y10_3)).2.2.1 65 4) v = true → wlq (EOP (s.1 67)) (x1).toNatClampNeg v) ∧ ∀ u v, EOP (s.1 67) u v → bt (((sF sc10 65 4 y10_3)).2.2.1 65 4) u = true → bt (((sF sc10 65 4 y10_3)).2.2.1 65 4) v = true := by first | (intro h; exact absurd h (by decide)) | (intro _; exfalso; have h8 := bt_t1 (bt_ask e24 e26 h2) c27; rw [(show bt y10_3 (x2).toNatClampNeg = false from (bt_f0 (bt_ask e136 e138 h2) c139))] at h8; cases h8)
              exact g_ireturn (gd rfl) rfl (nb01 (in_w 0 1 (in_c 1 rfl) rfl)) (hP _ _ ⟨(sF sc10 65 4 y10_3), hI131, (fr_sF rfl hFc10), (Int32.ofInt 1), rfl, rfl, in_w 0 1 (in_c 1 rfl) rfl, n147, n147a, n147b, n147c⟩)
          · skip
            have i27 := z_eq 0 0 c27 i26 rfl
            refine g_iconst 0 31 (gd rfl) rfl rfl ?_
            refine g_istore 33 (gd rfl) rfl (Nat.le_of_ble_eq_true rfl) ?_
            refine g_iload 35 (gd rfl) rfl rfl ?_
            refine g_istore 37 (gd rfl) rfl (Nat.le_of_ble_eq_true rfl) ?_
            have n37 : RV (sc10.1 68) y10_3 x1 := by first | exact g10_0 | exact rv_or g66_0 (fun j hj => (g66_1 j hj).resolve_left (by have hz : y66_10 = Int32.ofInt 0 := Int32.toInt_inj.mp (show y66_10.toInt = (Int32.ofInt 0).toInt from c68); rw [hz]; intro w; have hw : bt (Int32.ofInt 0) j = false := bt_z; rw [hw] at w; cases w)) ‹_› g66_2 e98
            have n37a : ∀ j, bt y10_4 j = true → bt y10_3 j = true := by first | exact g10_1 | exact fun j h => bt_orl e98 (g66_5 j (bt_and1 e113 h))
            have n37b : ∀ j, bt (Int32.ofInt 0) j = true → bt y10_3 j = true := by first | exact (fun j h => absurd h (by have hw : bt (Int32.ofInt 0) j = false := bt_z; rw [hw]; decide)) | exact fun j h => by (rw [bt_or e104, Bool.or_eq_true] at h; rcases h with h | h; exact bt_orl e98 (g66_6 j h); exact bt_orr e98 h)
            have n37c : LYM (s.1 67) ((sc10).1 68) (x1).toNatClampNeg (x2).toNatClampNeg (y10_5).toNatClampNeg (y10_3) (y10_4) ((Int32.ofInt 0)) := by exact lym_0 g10_2 c19 (bt_f0 (bt_ask e24 e26 h2) c27)
            exact gg_w (by first | exact Nat.le_add_right _ _ | exact gw2 | exact gw3 | exact gwe rfl | exact gwf rfl | exact gwg rfl | exact gwh rfl | omega) (gg_f (gf_cons rfl (gf_cons rfl (gf_cons rfl (gf_cons rfl (gf_cons rfl (gf_cons rfl (gf_cons rfl (gf_cons rfl gf_nil)))))))) (ct37 4294967296 sc10 y10_3 (Int32.ofInt 0) y10_4 hIc10 hFc10 (in_w 0 31 i14 rfl) c19 n37 n37a n37b n37c (mb_in _)))
  refine g_enter2 (k := 77) (N := 547868299499557531830235) (by first | exact dq1 hd rfl | exact dq0 hd rfl | exact dq2 hd rfl | exact dq3 hd rfl | omega) rfl (Nat.le_of_ble_eq_true rfl) ?_
  refine g_iconst 1 1 (gd rfl) rfl rfl ?_
  refine g_iload_n 2 (gd rfl) rfl rfl ?_
  refine g_ishl 3 (gd rfl) rfl (fun z2 e2 => ?_)
  refine g_istore_n 4 (gd rfl) rfl (Nat.le_of_ble_eq_true rfl) ?_
  refine g_iload_n 5 (gd rfl) rfl rfl ?_
  refine g_istore 7 (gd rfl) rfl (Nat.le_of_ble_eq_true rfl) ?_
  refine g_iconst 0 8 (gd rfl) rfl rfl ?_
  refine g_istore 10 (gd rfl) rfl (Nat.le_of_ble_eq_true rfl) ?_
  have n10 : RV (s.1 68) z2 x1 := by first | exact g37_0 | exact rv_1 e2 h1
  have n10a : ∀ j, bt z2 j = true → bt z2 j = true := by first | exact fun j h => h | exact g37_2
  have n10b : LYR (s.1 67) ((s).1 68) (x1).toNatClampNeg (x2).toNatClampNeg ((Int32.ofInt 0)).toNatClampNeg (z2) (z2) := by exact (show LYR _ _ _ _ 0 _ _ from lyr_0 h1 e2)
  exact gg_w (by first | exact Nat.le_of_ble_eq_true rfl | omega) (gg_f (gf_cons rfl (gf_cons rfl (gf_cons rfl (gf_cons rfl (gf_cons rfl (gf_cons rfl gf_nil)))))) (ct10 33 s z2 z2 (Int32.ofInt 0) hI fr_rf (in_w 0 32 (in_c 0 rfl) rfl) n10 n10a n10b (m_in 33 (in_w 0 32 (in_c 0 rfl) rfl) rfl)))
