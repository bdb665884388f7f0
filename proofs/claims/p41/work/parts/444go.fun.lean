/-! FUNCTIONAL CONTRACTS, by fgen.py -/
theorem oc_135_1_46 : (Int32.ofInt (-4)).toInt = (-4) ∧ (Int32.ofInt (-1)).toInt = (-1) ∧ (Int32.ofInt 0).toInt = 0 ∧ (Int32.ofInt 1).toInt = 1 ∧ (Int32.ofInt 7).toInt = 7 ∧ (Int32.ofInt 1000).toInt = 1000 := ⟨rfl, rfl, rfl, rfl, rfl, rfl⟩
/-- GraphHouse$Ledger.carryOut -/
theorem f_135_1_46 {Z : AmZ} {A : Nat → Nat} {s : GS} {ex : va_W} {d : Nat} {X : AmX} {u_2_0 : Int32} {u_2_1 : Int32} {u_30_0 : Int32} {u_46_1 : Int32} (hd : 10 ≤ d) (hI : Inv s) (e_2_0 : u_2_0 = s.2.2.1 2 0) (e_2_1 : u_2_1 = s.2.2.1 2 1) (e_30_0 : u_30_0 = s.2.2.1 30 0) (e_46_1 : u_46_1 = s.2.2.1 46 1) (q_0 : KL s) (q_1 : TQ s) : GC Z d 135 [.ref (A 1), .ref (A 46)] (WW Z A s ++ ex) (lgC s) (lgS s) (fun v u => ∃ a : Nat, ∃ t : GS, Inv t ∧ Fr fm_135_1_46 s t ∧ ∃ z : Int32, v = some (.int z) ∧ u = WW Z (ax A 30 a) t ++ ex ∧ In z (-4) 1000 ∧ (KL t) ∧ ((z).toInt ≠ -4 → LOT (s.1 47) (s.2.2.1 46 1).toInt.toNat (gvC s) (z).toInt 0 0 (gvC t) ∧ (t.2.2.1 46 6).toInt = -1 ∧ (t.2.2.1 46 7).toInt = -1) ∧ ((z).toInt = -4 → LOT (s.1 47) (s.2.2.1 46 1).toInt.toNat (gvC s) (-4) (t.2.2.1 46 6).toInt (t.2.2.1 46 7).toInt (gvC t)) ∧ (TQ t) ∧ (LCO s t z)) X := by
  intro post xp hP hX
  have ro_46_1 := inv_F hI 0 1000 rfl e_46_1
  have ct17 : ∀ (k17 : Nat) (sc17 : GS) (ac17 : Nat) (cc17 : Nat) (cs17 : Nat) (y17_2 : Int32) (w17_46_2 : Int32) (w17_2_0 : Int32) (w17_2_1 : Int32) (w17_30_0 : Int32), Inv sc17 → Fr fm_135_1_46 s sc17 → (lgC sc17 ≤ cc17) → (lgS sc17 ≤ cs17) → (In y17_2 0 2001) → (w17_46_2 = sc17.2.2.1 46 2) → (w17_2_0 = sc17.2.2.1 2 0) → (w17_2_1 = sc17.2.2.1 2 1) → (w17_30_0 = sc17.2.2.1 30 0) → ((w17_46_2).toInt ≤ (u_46_1).toInt) → ((u_2_0).toInt ≤ (w17_2_0).toInt) → (KL sc17) → ((∀ p : Nat, p < 160 → sc17.1 18 p = s.1 4 p ∧ sc17.1 19 p = s.1 5 p) ∧ sc17.2.2.1 16 0 = s.2.2.1 2 0 ∧ sc17.2.2.1 16 1 = s.2.2.1 2 1) → (∀ k : Nat, (k : Int) < 7 * (s.2.2.1 2 0).toInt → sc17.1 30 k = s.1 30 k) → (GEQ (gvS sc17) (gvC s) ∧ TQS sc17) → (LRN (s.1 47) (s.2.2.1 46 1).toInt.toNat (gvC s) (y17_2).toInt.toNat (w17_46_2).toInt.toNat (gvC sc17)) → (TQ sc17) → ((sc17.2.2.1 46 6).toInt = -1 ∧ (sc17.2.2.1 46 7).toInt = -1) → (LGS s sc17 (y17_2).toInt.toNat) → 2001 - (y17_2).toInt < (k17 : Int) → GG Z (d - 1) 135 post (gx xp) (1 + k17 * 900) 17 (fun j => xlook j [(0, .ref (A 1)), (1, .ref (A 46)), (2, .int y17_2)]) [] (WW Z (ax A 30 ac17) sc17 ++ ex) cc17 cs17 := by
    intro k17
    induction k17 with
    | zero => intro sc17 ac17 cc17 cs17 y17_2 w17_46_2 w17_2_0 w17_2_1 w17_30_0 hIc17 hFc17 hcc17 hcs17 j17_2 v17_46_2 v17_2_0 v17_2_1 v17_30_0 n17_0 n17_1 g17_0 g17_1 g17_2 g17_3 g17_4 g17_5 g17_6 g17_7 mm17; exact m_no mm17 j17_2 rfl
    | succ k17 ih17 =>
      intro sc17 ac17 cc17 cs17 y17_2 w17_46_2 w17_2_0 w17_2_1 w17_30_0 hIc17 hFc17 hcc17 hcs17 j17_2 v17_46_2 v17_2_0 v17_2_1 v17_30_0 n17_0 n17_1 g17_0 g17_1 g17_2 g17_3 g17_4 g17_5 g17_6 g17_7 mm17
      refine gg_w (M := 1 + k17 * 900 + 900) gws ?_
      refine g_iload_n 18 (gd rfl) rfl rfl ?_
      refine g_sipush 1000 21 (gd rfl) rfl rfl ?_
      refine g_cmp_gt 24 68 (gd rfl) rfl rfl (fun c21 => ?_) (fun c21 => ?_)
      · skip
        have i21 := r_lt2 1001 2001 c21 (in_c 1000 rfl) j17_2 rfl
        refine g_bipush (-4) 70 (gd rfl) rfl rfl ?_
        have n70 : KL sc17 := by exact g17_0
        have n70a : ((Int32.ofInt (-4))).toInt ≠ -4 → LOT (s.1 47) (s.2.2.1 46 1).toInt.toNat (gvC s) ((Int32.ofInt (-4))).toInt 0 0 (gvC sc17) ∧ (sc17.2.2.1 46 6).toInt = -1 ∧ (sc17.2.2.1 46 7).toInt = -1 := by intro h; exact absurd rfl h
        have n70b : ((Int32.ofInt (-4))).toInt = -4 → LOT (s.1 47) (s.2.2.1 46 1).toInt.toNat (gvC s) (-4) (sc17.2.2.1 46 6).toInt (sc17.2.2.1 46 7).toInt (gvC sc17) := by intro _; exfalso; have h9 := lrn_l _ g17_4; (first | have a0 := in_u ro_46_1 | (have a0 := ro_46_1; unfold In at a0)); (first | have a1 := in_u ((inv_F hIc17 448 28000 rfl v17_30_0)) | (have a1 := (inv_F hIc17 448 28000 rfl v17_30_0); unfold In at a1)); (first | have a2 := in_u ((inv_F hIc17 0 32 rfl v17_2_1)) | (have a2 := (inv_F hIc17 0 32 rfl v17_2_1); unfold In at a2)); (first | have a3 := in_u ((inv_F hIc17 0 4000 rfl v17_2_0)) | (have a3 := (inv_F hIc17 0 4000 rfl v17_2_0); unfold In at a3)); (first | have a4 := in_u ((inv_F hIc17 0 1000 rfl v17_46_2)) | (have a4 := (inv_F hIc17 0 1000 rfl v17_46_2); unfold In at a4)); (first | have a5 := in_u i21 | (have a5 := i21; unfold In at a5)); have oc := oc_135_1_46; omega
        have n70c : TQ sc17 := by exact g17_5
        have n70d : LCO s sc17 (Int32.ofInt (-4)) := by exact ⟨fun h => absurd rfl h, fun _ => (by exfalso; have h9 := lrn_l _ g17_4; (first | have a0 := in_u ro_46_1 | (have a0 := ro_46_1; unfold In at a0)); (first | have a1 := in_u ((inv_F hIc17 448 28000 rfl v17_30_0)) | (have a1 := (inv_F hIc17 448 28000 rfl v17_30_0); unfold In at a1)); (first | have a2 := in_u ((inv_F hIc17 0 32 rfl v17_2_1)) | (have a2 := (inv_F hIc17 0 32 rfl v17_2_1); unfold In at a2)); (first | have a3 := in_u ((inv_F hIc17 0 4000 rfl v17_2_0)) | (have a3 := (inv_F hIc17 0 4000 rfl v17_2_0); unfold In at a3)); (first | have a4 := in_u ((inv_F hIc17 0 1000 rfl v17_46_2)) | (have a4 := (inv_F hIc17 0 1000 rfl v17_46_2); unfold In at a4)); (first | have a5 := in_u i21 | (have a5 := i21; unfold In at a5)); have oc := oc_135_1_46; omega)⟩
        exact g_ireturn (gd rfl) rfl rfl (hP _ _ ⟨ac17, sc17, hIc17, hFc17, (Int32.ofInt (-4)), rfl, rfl, in_w (-4) 1000 (in_c (-4) rfl) rfl, n70, n70a, n70b, n70c, n70d⟩)
      · skip
        have i21 := r_le1 0 1000 c21 j17_2 (in_c 1000 rfl) rfl
        refine g_aload_n 25 (gd rfl) rfl rfl ?_
        refine g_bipush 7 27 (gd rfl) rfl rfl ?_
        refine g_iconst 1 28 (gd rfl) rfl rfl ?_
        have v28 : u_46_1 = sc17.2.2.1 46 1 := fr_F e_46_1 hFc17 rfl
        have n28 : (w17_46_2).toInt ≤ (u_46_1).toInt := by first | exact n17_0 | ((first | have a0 := in_u ro_46_1 | (have a0 := ro_46_1; unfold In at a0)); (first | have a1 := in_u ((inv_F hIc17 448 28000 rfl v17_30_0)) | (have a1 := (inv_F hIc17 448 28000 rfl v17_30_0); unfold In at a1)); (first | have a2 := in_u ((inv_F hIc17 0 32 rfl v17_2_1)) | (have a2 := (inv_F hIc17 0 32 rfl v17_2_1); unfold In at a2)); (first | have a3 := in_u ((inv_F hIc17 0 4000 rfl v17_2_0)) | (have a3 := (inv_F hIc17 0 4000 rfl v17_2_0); unfold In at a3)); (first | have a4 := in_u ((inv_F hIc17 0 1000 rfl v17_46_2)) | (have a4 := (inv_F hIc17 0 1000 rfl v17_46_2); unfold In at a4)); (first | have a5 := in_u i21 | (have a5 := i21; unfold In at a5)); have oc := oc_135_1_46; omega)
        refine g_callv (X := _) (As := [.int (Int32.ofInt 7), .int (Int32.ofInt 1)]) (r := []) (b := A 46) (q := 46) 31 (gd rfl) rfl rfl rfl rfl rfl (ww_o rfl) (Nat.le_of_ble_eq_true rfl) (Nat.zero_le _) (Nat.zero_le _) (f_171_46 (A := (ax A 30 ac17)) (by omega) hIc17 (in_w 7 7 (in_c 7 rfl) rfl) (in_w 1 1 (in_c 1 rfl) rfl) v17_46_2 v28 n28) (fun e u h => h) (fun v u h => ?_)
        obtain ⟨s28, hI28, hF28, n28a, n28b, n28c, rfl, rfl, p28, p28a, p28b⟩ := h
        obtain ⟨z28a, e28⟩ : ∃ w, w = s28.2.2.1 46 2 := ⟨_, rfl⟩
        have i28a := inv_F hI28 0 1000 rfl e28
        obtain ⟨z28b, e28a⟩ : ∃ w, w = s28.2.2.1 46 4 := ⟨_, rfl⟩
        have i28b := inv_F hI28 0 1000 rfl e28a
        rw [← (show z28a = s28.2.2.1 46 2 from e28)] at n28a
        rw [← (show u_46_1 = s28.2.2.1 46 1 from fr_F (fr_F e_46_1 hFc17 rfl) hF28 rfl)] at n28a
        rw [← (show z28a = s28.2.2.1 46 2 from e28)] at n28b
        rw [← (show z28b = s28.2.2.1 46 4 from e28a)] at n28b
        rw [← (show w17_46_2 = sc17.2.2.1 46 2 from v17_46_2)] at n28c
        rw [← (show z28b = s28.2.2.1 46 4 from e28a)] at n28c
        show GG _ _ _ _ _ _ _ _ [] _ _ _
        have ht28 : TKN (s28.1 47) (s28.2.2.1 46 1).toInt.toNat (w17_46_2).toInt.toNat (s28.2.2.1 46 4).toInt.toNat (s28.2.2.1 46 2).toInt.toNat (s28.2.2.1 46 3).toInt (s28.2.2.1 46 5).toInt := (by rw [hF28.1 47 rfl, hF28.2.2.1 46 1 rfl, v17_46_2]; exact p28b)
        have hx28 : s28.1 47 = s.1 47 := (hF28.1 47 rfl).trans (hFc17.1 47 rfl)
        have hl28 : s28.2.2.1 46 1 = s.2.2.1 46 1 := (hF28.2.2.1 46 1 rfl).trans (hFc17.2.2.1 46 1 rfl)
        have hg28 : gvC s28 = gvC sc17 := gvC_cg hF28 rfl
        have hk28 : ∀ t : GS, (∀ a : Nat, TKN (s28.1 47) (s28.2.2.1 46 1).toInt.toNat a (s28.2.2.1 46 4).toInt.toNat (s28.2.2.1 46 2).toInt.toNat (s28.2.2.1 46 3).toInt (s28.2.2.1 46 5).toInt → ∃ c V, CMP (s28.1 47) (s28.2.2.1 46 1).toInt.toNat a (s28.2.2.1 46 4).toInt.toNat c V (t.2.2.1 46 2).toInt.toNat ∧ dkC (gvC s28) c V ∧ gvC t = opC (gvC s28) c V) → LRN (s.1 47) (s.2.2.1 46 1).toInt.toNat (gvC s) (y17_2.toInt.toNat + 1) (t.2.2.1 46 2).toInt.toNat (gvC t) := (fun t h => by obtain ⟨c, V, h1, h2, h3⟩ := h _ ht28; rw [hx28, hl28] at h1; rw [hg28] at h2 h3; exact ⟨_, _, _, c, V, g17_4, h1, h2, h3⟩)
        refine g_aload_n 32 (gd rfl) rfl rfl ?_
        refine g_getI (A := (ax A 30 ac17)) (q := 46) 35 (gd rfl) rfl rfl rfl (fun z32 e32 => ?_)
        have i32 := inv_F hI28 0 5 rfl e32
        refine g_if_ne 38 40 (gd rfl) rfl rfl (fun c35 => ?_) (fun c35 => ?_)
        · skip
          have i35 := z_ne 1 5 c35 i32 rfl
          refine g_aload_n 41 (gd rfl) rfl rfl ?_
          refine g_aload_n 42 (gd rfl) rfl rfl ?_
          have v42 : w17_2_0 = s28.2.2.1 2 0 := fr_F (v17_2_0) hF28 rfl
          have v42a : w17_2_1 = s28.2.2.1 2 1 := fr_F (v17_2_1) hF28 rfl
          have v42b : w17_30_0 = s28.2.2.1 30 0 := fr_F (v17_30_0) hF28 rfl
          have v42c : u_46_1 = s28.2.2.1 46 1 := fr_F (fr_F e_46_1 hFc17 rfl) hF28 rfl
          have n42 : (z28a).toInt ≤ (u_46_1).toInt := by (first | have a0 := in_u ro_46_1 | (have a0 := ro_46_1; unfold In at a0)); (first | have a1 := in_u ((inv_F hIc17 448 28000 rfl v17_30_0)) | (have a1 := (inv_F hIc17 448 28000 rfl v17_30_0); unfold In at a1)); (first | have a2 := in_u ((inv_F hIc17 0 32 rfl v17_2_1)) | (have a2 := (inv_F hIc17 0 32 rfl v17_2_1); unfold In at a2)); (first | have a3 := in_u ((inv_F hIc17 0 4000 rfl v17_2_0)) | (have a3 := (inv_F hIc17 0 4000 rfl v17_2_0); unfold In at a3)); (first | have a4 := in_u ((inv_F hIc17 0 1000 rfl v17_46_2)) | (have a4 := (inv_F hIc17 0 1000 rfl v17_46_2); unfold In at a4)); (first | have a5 := in_u i21 | (have a5 := i21; unfold In at a5)); (first | have a6 := in_u i35 | (have a6 := i35; unfold In at a6)); (first | have a7 := in_u i28b | (have a7 := i28b; unfold In at a7)); (first | have a8 := in_u i28a | (have a8 := i28a; unfold In at a8)); have oc := oc_135_1_46; omega
          have p42 : KL s28 := by exact kl_fr g17_0 hF28 rfl
          have p42a : (s28.2.2.1 46 3).toInt = 1 → In (s28.2.2.1 46 5) 0 25 := by exact p28a
          have p42b : ∃ a : Nat, TKN (s28.1 47) (s28.2.2.1 46 1).toInt.toNat a (s28.2.2.1 46 4).toInt.toNat (s28.2.2.1 46 2).toInt.toNat (s28.2.2.1 46 3).toInt (s28.2.2.1 46 5).toInt := by exact ⟨_, ht28⟩
          have p42c : TQ s28 := by exact tq_fr g17_5 hF28 rfl
          have p42d : (s28.2.2.1 46 3).toInt ≠ 0 := by rw [← (show z32 = s28.2.2.1 46 3 from e32)]; (first | have a0 := in_u ro_46_1 | (have a0 := ro_46_1; unfold In at a0)); (first | have a1 := in_u ((inv_F hIc17 448 28000 rfl v17_30_0)) | (have a1 := (inv_F hIc17 448 28000 rfl v17_30_0); unfold In at a1)); (first | have a2 := in_u ((inv_F hIc17 0 32 rfl v17_2_1)) | (have a2 := (inv_F hIc17 0 32 rfl v17_2_1); unfold In at a2)); (first | have a3 := in_u ((inv_F hIc17 0 4000 rfl v17_2_0)) | (have a3 := (inv_F hIc17 0 4000 rfl v17_2_0); unfold In at a3)); (first | have a4 := in_u ((inv_F hIc17 0 1000 rfl v17_46_2)) | (have a4 := (inv_F hIc17 0 1000 rfl v17_46_2); unfold In at a4)); (first | have a5 := in_u i21 | (have a5 := i21; unfold In at a5)); (first | have a6 := in_u i35 | (have a6 := i35; unfold In at a6)); (first | have a7 := in_u i28b | (have a7 := i28b; unfold In at a7)); (first | have a8 := in_u i28a | (have a8 := i28a; unfold In at a8)); have oc := oc_135_1_46; omega
          refine g_callv (X := _) (As := [.ref (A 46)]) (r := []) (b := A 1) (q := 1) 45 (gd rfl) rfl rfl rfl rfl rfl (ww_o rfl) (Nat.le_of_ble_eq_true rfl) (Nat.le_trans (lg_lc (inv_F hI28 448 28000 (q := 30) (j := 0) rfl rfl)).1 (by have h2 := (lg_cg (hF28.2.2.1 30 0 rfl)).1; omega)) (Nat.le_trans (lg_lc (inv_F hI28 448 28000 (q := 30) (j := 0) rfl rfl)).2 (by have h2 := (lg_cg (hF28.2.2.1 30 0 rfl)).2; omega)) (f_136_1_46 (A := (ax A 30 ac17)) (by omega) hI28 v42 v42a v42b e28 v42c e32 e28a rfl n42 p42 p42a p42b p42c p42d) (fun e u h => h) (fun v u h => ?_)
          obtain ⟨a42, s42, hI42, hF42, n42a, n42b, z42, rfl, rfl, i42, p42e, p42f, p42g, p42h, p42i, p42j, p42k, p42l, p42m, p42n⟩ := h
          rw [ax_ax]
          obtain ⟨z42a, e42⟩ : ∃ w, w = s42.2.2.1 46 2 := ⟨_, rfl⟩
          have i42a := inv_F hI42 0 1000 rfl e42
          obtain ⟨z42b, e42a⟩ : ∃ w, w = s42.2.2.1 2 0 := ⟨_, rfl⟩
          have i42b := inv_F hI42 0 4000 rfl e42a
          rw [← (show z42a = s42.2.2.1 46 2 from e42)] at n42a
          rw [← (show u_46_1 = s42.2.2.1 46 1 from fr_F (fr_F (fr_F e_46_1 hFc17 rfl) hF28 rfl) hF42 rfl)] at n42a
          rw [← (show w17_2_0 = s28.2.2.1 2 0 from fr_F (v17_2_0) hF28 rfl)] at n42b
          rw [← (show z42b = s42.2.2.1 2 0 from e42a)] at n42b
          show GG _ _ _ _ _ _ _ _ [.int z42] _ _ _
          have hv42 : _ = s42.2.2.1 2 0 := (show z42b = s42.2.2.1 2 0 from e42a)
          refine g_if_ne 48 62 (gd rfl) rfl rfl (fun c45 => ?_) (fun c45 => ?_)
          · skip
            have i45 := z_ne 1 1 c45 i42 rfl
            refine g_iinc 65 (gd rfl) rfl rfl (Nat.le_of_ble_eq_true rfl) (fun z62 e62 => ?_)
            have i62 := in_add 1 1001 e62 i21 (in_c 1 rfl) rfl rfl
            refine g_goto 17 (gd rfl) rfl ?_
            have hr17 : lgC s42 ≤ (cc17 - lc s28) := by have h := (lgt_st (s := s28) (t := s42) (inv_F hI28 448 28000 (q := 30) (j := 0) rfl rfl) (p42g c45) (kl_fr g17_0 hF28 rfl).2.1 (p42f c45)).1; have h2 := (lg_cg (hF28.2.2.1 30 0 rfl)).1; omega
            have hr17a : lgS s42 ≤ (cs17 - lsl s28) := by have h := (lgt_st (s := s28) (t := s42) (inv_F hI28 448 28000 (q := 30) (j := 0) rfl rfl) (p42g c45) (kl_fr g17_0 hF28 rfl).2.1 (p42f c45)).2; have h2 := (lg_cg (hF28.2.2.1 30 0 rfl)).2; omega
            have n17 : (z42a).toInt ≤ (u_46_1).toInt := by (first | have a0 := in_u ro_46_1 | (have a0 := ro_46_1; unfold In at a0)); (first | have a1 := in_u ((inv_F hIc17 448 28000 rfl v17_30_0)) | (have a1 := (inv_F hIc17 448 28000 rfl v17_30_0); unfold In at a1)); (first | have a2 := in_u ((inv_F hIc17 0 32 rfl v17_2_1)) | (have a2 := (inv_F hIc17 0 32 rfl v17_2_1); unfold In at a2)); (first | have a3 := in_u ((inv_F hIc17 0 4000 rfl v17_2_0)) | (have a3 := (inv_F hIc17 0 4000 rfl v17_2_0); unfold In at a3)); (first | have a4 := in_u ((inv_F hIc17 0 1000 rfl v17_46_2)) | (have a4 := (inv_F hIc17 0 1000 rfl v17_46_2); unfold In at a4)); (first | have a5 := in_u i21 | (have a5 := i21; unfold In at a5)); (first | have a6 := in_u i62 | (have a6 := i62; unfold In at a6)); have a7 := t_add e62 i21 (in_c 1 rfl) rfl; (first | have a8 := in_u ((in_c 1 rfl)) | (have a8 := (in_c 1 rfl); unfold In at a8)); (first | have a9 := in_u i42b | (have a9 := i42b; unfold In at a9)); (first | have a10 := in_u i42a | (have a10 := i42a; unfold In at a10)); have oc := oc_135_1_46; omega
            have n17a : (u_2_0).toInt ≤ (z42b).toInt := by (first | have a0 := in_u ro_46_1 | (have a0 := ro_46_1; unfold In at a0)); (first | have a1 := in_u ((inv_F hIc17 448 28000 rfl v17_30_0)) | (have a1 := (inv_F hIc17 448 28000 rfl v17_30_0); unfold In at a1)); (first | have a2 := in_u ((inv_F hIc17 0 32 rfl v17_2_1)) | (have a2 := (inv_F hIc17 0 32 rfl v17_2_1); unfold In at a2)); (first | have a3 := in_u ((inv_F hIc17 0 4000 rfl v17_2_0)) | (have a3 := (inv_F hIc17 0 4000 rfl v17_2_0); unfold In at a3)); (first | have a4 := in_u ((inv_F hIc17 0 1000 rfl v17_46_2)) | (have a4 := (inv_F hIc17 0 1000 rfl v17_46_2); unfold In at a4)); (first | have a5 := in_u i21 | (have a5 := i21; unfold In at a5)); (first | have a6 := in_u i62 | (have a6 := i62; unfold In at a6)); have a7 := t_add e62 i21 (in_c 1 rfl) rfl; (first | have a8 := in_u ((in_c 1 rfl)) | (have a8 := (in_c 1 rfl); unfold In at a8)); (first | have a9 := in_u i42b | (have a9 := i42b; unfold In at a9)); (first | have a10 := in_u i42a | (have a10 := i42a; unfold In at a10)); have oc := oc_135_1_46; omega
            have n17b : KL s42 := by exact p42e
            have n17c : (∀ p : Nat, p < 160 → s42.1 18 p = s.1 4 p ∧ s42.1 19 p = s.1 5 p) ∧ s42.2.2.1 16 0 = s.2.2.1 2 0 ∧ s42.2.2.1 16 1 = s.2.2.1 2 1 := by exact ⟨fun p hp => by rw [hF42.1 18 rfl, hF42.1 19 rfl, hF28.1 18 rfl, hF28.1 19 rfl]; exact g17_1.1 p hp, by rw [hF42.2.2.1 16 0 rfl, hF28.2.2.1 16 0 rfl]; exact g17_1.2.1, by rw [hF42.2.2.1 16 1 rfl, hF28.2.2.1 16 1 rfl]; exact g17_1.2.2⟩
            have n17d : ∀ k : Nat, (k : Int) < 7 * (s.2.2.1 2 0).toInt → s42.1 30 k = s.1 30 k := by exact fun k hk => by rw [p42h k (by rw [hF28.2.2.1 2 0 rfl, ← v17_2_0]; rw [← e_2_0] at hk; (first | have a0 := in_u ro_46_1 | (have a0 := ro_46_1; unfold In at a0)); (first | have a1 := in_u ((inv_F hIc17 448 28000 rfl v17_30_0)) | (have a1 := (inv_F hIc17 448 28000 rfl v17_30_0); unfold In at a1)); (first | have a2 := in_u ((inv_F hIc17 0 32 rfl v17_2_1)) | (have a2 := (inv_F hIc17 0 32 rfl v17_2_1); unfold In at a2)); (first | have a3 := in_u ((inv_F hIc17 0 4000 rfl v17_2_0)) | (have a3 := (inv_F hIc17 0 4000 rfl v17_2_0); unfold In at a3)); (first | have a4 := in_u ((inv_F hIc17 0 1000 rfl v17_46_2)) | (have a4 := (inv_F hIc17 0 1000 rfl v17_46_2); unfold In at a4)); (first | have a5 := in_u i21 | (have a5 := i21; unfold In at a5)); (first | have a6 := in_u i62 | (have a6 := i62; unfold In at a6)); have a7 := t_add e62 i21 (in_c 1 rfl) rfl; (first | have a8 := in_u ((in_c 1 rfl)) | (have a8 := (in_c 1 rfl); unfold In at a8)); (first | have a9 := in_u i42b | (have a9 := i42b; unfold In at a9)); (first | have a10 := in_u i42a | (have a10 := i42a; unfold In at a10)); have oc := oc_135_1_46; omega), hF28.1 30 rfl]; exact g17_2 k hk
            have n17e : GEQ (gvS s42) (gvC s) ∧ TQS s42 := by exact ⟨by rw [gvS_cg hF42 rfl, gvS_cg hF28 rfl]; exact g17_3.1, tqs_fr (tqs_fr g17_3.2 hF28 rfl) hF42 rfl⟩
            have n17f : LRN (s.1 47) (s.2.2.1 46 1).toInt.toNat (gvC s) (z62).toInt.toNat (z42a).toInt.toNat (gvC s42) := by have hn9 := hk28 _ (p42i c45); rw [show z62.toInt.toNat = y17_2.toInt.toNat + 1 from (by (first | have a0 := in_u ro_46_1 | (have a0 := ro_46_1; unfold In at a0)); (first | have a1 := in_u ((inv_F hIc17 448 28000 rfl v17_30_0)) | (have a1 := (inv_F hIc17 448 28000 rfl v17_30_0); unfold In at a1)); (first | have a2 := in_u ((inv_F hIc17 0 32 rfl v17_2_1)) | (have a2 := (inv_F hIc17 0 32 rfl v17_2_1); unfold In at a2)); (first | have a3 := in_u ((inv_F hIc17 0 4000 rfl v17_2_0)) | (have a3 := (inv_F hIc17 0 4000 rfl v17_2_0); unfold In at a3)); (first | have a4 := in_u ((inv_F hIc17 0 1000 rfl v17_46_2)) | (have a4 := (inv_F hIc17 0 1000 rfl v17_46_2); unfold In at a4)); (first | have a5 := in_u i21 | (have a5 := i21; unfold In at a5)); (first | have a6 := in_u i62 | (have a6 := i62; unfold In at a6)); have a7 := t_add e62 i21 (in_c 1 rfl) rfl; (first | have a8 := in_u ((in_c 1 rfl)) | (have a8 := (in_c 1 rfl); unfold In at a8)); (first | have a9 := in_u i42b | (have a9 := i42b; unfold In at a9)); (first | have a10 := in_u i42a | (have a10 := i42a; unfold In at a10)); have oc := oc_135_1_46; omega), ((show z42a = s42.2.2.1 46 2 from e42))]; exact hn9
            have n17g : TQ s42 := by exact p42k c45
            have n17h : (s42.2.2.1 46 6).toInt = -1 ∧ (s42.2.2.1 46 7).toInt = -1 := by exact ⟨by rw [(p42l c45).1, hF28.2.2.1 46 6 rfl]; exact g17_6.1, by rw [(p42l c45).2, hF28.2.2.1 46 7 rfl]; exact g17_6.2⟩
            have n17i : LGS s s42 (z62).toInt.toNat := by exact lgs_s g17_7 (show z62.toInt.toNat = y17_2.toInt.toNat + 1 from (by (first | have a0 := in_u ro_46_1 | (have a0 := ro_46_1; unfold In at a0)); (first | have a1 := in_u ((inv_F hIc17 448 28000 rfl v17_30_0)) | (have a1 := (inv_F hIc17 448 28000 rfl v17_30_0); unfold In at a1)); (first | have a2 := in_u ((inv_F hIc17 0 32 rfl v17_2_1)) | (have a2 := (inv_F hIc17 0 32 rfl v17_2_1); unfold In at a2)); (first | have a3 := in_u ((inv_F hIc17 0 4000 rfl v17_2_0)) | (have a3 := (inv_F hIc17 0 4000 rfl v17_2_0); unfold In at a3)); (first | have a4 := in_u ((inv_F hIc17 0 1000 rfl v17_46_2)) | (have a4 := (inv_F hIc17 0 1000 rfl v17_46_2); unfold In at a4)); (first | have a5 := in_u i21 | (have a5 := i21; unfold In at a5)); (first | have a6 := in_u i62 | (have a6 := i62; unfold In at a6)); have a7 := t_add e62 i21 (in_c 1 rfl) rfl; (first | have a8 := in_u ((in_c 1 rfl)) | (have a8 := (in_c 1 rfl); unfold In at a8)); (first | have a9 := in_u i42b | (have a9 := i42b; unfold In at a9)); (first | have a10 := in_u i42a | (have a10 := i42a; unfold In at a10)); have oc := oc_135_1_46; omega)) (lgc_fr (p42n c45) hF28 rfl) (inv_F hI (z := s.2.2.1 2 0) 0 4000 rfl rfl).1 (by rw [show z62.toInt.toNat = y17_2.toInt.toNat + 1 from (by (first | have a0 := in_u ro_46_1 | (have a0 := ro_46_1; unfold In at a0)); (first | have a1 := in_u ((inv_F hIc17 448 28000 rfl v17_30_0)) | (have a1 := (inv_F hIc17 448 28000 rfl v17_30_0); unfold In at a1)); (first | have a2 := in_u ((inv_F hIc17 0 32 rfl v17_2_1)) | (have a2 := (inv_F hIc17 0 32 rfl v17_2_1); unfold In at a2)); (first | have a3 := in_u ((inv_F hIc17 0 4000 rfl v17_2_0)) | (have a3 := (inv_F hIc17 0 4000 rfl v17_2_0); unfold In at a3)); (first | have a4 := in_u ((inv_F hIc17 0 1000 rfl v17_46_2)) | (have a4 := (inv_F hIc17 0 1000 rfl v17_46_2); unfold In at a4)); (first | have a5 := in_u i21 | (have a5 := i21; unfold In at a5)); (first | have a6 := in_u i62 | (have a6 := i62; unfold In at a6)); have a7 := t_add e62 i21 (in_c 1 rfl) rfl; (first | have a8 := in_u ((in_c 1 rfl)) | (have a8 := (in_c 1 rfl); unfold In at a8)); (first | have a9 := in_u i42b | (have a9 := i42b; unfold In at a9)); (first | have a10 := in_u i42a | (have a10 := i42a; unfold In at a10)); have oc := oc_135_1_46; omega)]; exact ⟨_, hk28 _ (p42i c45)⟩)
            exact gg_w (by first | exact Nat.le_add_right _ _ | exact gw2 | exact gw3 | exact gwe rfl | exact gwf rfl | exact gwg rfl | exact gwh rfl | omega) (gg_f (gf_cons rfl (gf_cons rfl (gf_cons rfl gf_nil))) (ih17 s42 a42 (cc17 - lc s28) (cs17 - lsl s28) z62 z42a z42b _ _ hI42 (fr_tr rfl (fr_tr rfl hFc17 hF28) hF42) hr17 hr17a (in_w 0 2001 i62 rfl) e42 e42a rfl rfl n17 n17a n17b n17c n17d n17e n17f n17g n17h n17i (m_up mm17 (t_add e62 i21 (in_c 1 rfl) rfl) (in_w 1 1 (in_c 1 rfl) rfl))))
          · skip
            have i45 := z_eq 0 0 c45 i42 rfl
            refine g_aload_n 49 (gd rfl) rfl rfl ?_
            refine g_getA (A := (ax A 30 a42)) (q := 1) (q2 := 2) 52 (gd rfl) rfl rfl rfl rfl ?_
            refine g_aload_n 53 (gd rfl) rfl rfl ?_
            refine g_getA (A := (ax A 30 a42)) (q := 1) (q2 := 16) 56 (gd rfl) rfl rfl rfl rfl ?_
            refine g_callv (X := _) (As := [.ref (A 16)]) (r := []) (b := A 2) (q := 2) 59 (gd rfl) rfl rfl rfl rfl rfl (ww_o rfl) (Nat.le_of_ble_eq_true rfl) (Nat.zero_le _) (Nat.zero_le _) (f_93_2_16 (A := (ax A 30 a42)) (by omega) hI42 ) (fun e u h => h) (fun v u h => ?_)
            obtain ⟨s56, hI56, hF56, rfl, rfl, p56, p56a, p56b, p56c, p56d, p56e, p56f, p56g, p56h⟩ := h
            show GG _ _ _ _ _ _ _ _ [] _ _ _
            refine g_bipush (-4) 61 (gd rfl) rfl rfl ?_
            have n61 : KL s56 := by have hFF : Fr fm_135_1_46 s s56 := (fr_tr rfl (fr_tr rfl (fr_tr rfl hFc17 hF28) hF42) hF56); exact kl_bk q_0 (fun k hk => by rw [hF56.1 30 rfl, p42h k (by rw [hF28.2.2.1 2 0 rfl, ← v17_2_0]; rw [← e_2_0] at hk; (first | have a0 := in_u ro_46_1 | (have a0 := ro_46_1; unfold In at a0)); (first | have a1 := in_u ((inv_F hIc17 448 28000 rfl v17_30_0)) | (have a1 := (inv_F hIc17 448 28000 rfl v17_30_0); unfold In at a1)); (first | have a2 := in_u ((inv_F hIc17 0 32 rfl v17_2_1)) | (have a2 := (inv_F hIc17 0 32 rfl v17_2_1); unfold In at a2)); (first | have a3 := in_u ((inv_F hIc17 0 4000 rfl v17_2_0)) | (have a3 := (inv_F hIc17 0 4000 rfl v17_2_0); unfold In at a3)); (first | have a4 := in_u ((inv_F hIc17 0 1000 rfl v17_46_2)) | (have a4 := (inv_F hIc17 0 1000 rfl v17_46_2); unfold In at a4)); (first | have a5 := in_u i21 | (have a5 := i21; unfold In at a5)); (first | have a6 := in_u i42a | (have a6 := i42a; unfold In at a6)); have oc := oc_135_1_46; omega), hF28.1 30 rfl]; exact g17_2 k hk) (by have h9 := p42e.2.1; rw [hF56.2.2.1 30 0 rfl]; rw [← hv42] at h9; rw [← e_2_0]; (first | have a0 := in_u ro_46_1 | (have a0 := ro_46_1; unfold In at a0)); (first | have a1 := in_u ((inv_F hIc17 448 28000 rfl v17_30_0)) | (have a1 := (inv_F hIc17 448 28000 rfl v17_30_0); unfold In at a1)); (first | have a2 := in_u ((inv_F hIc17 0 32 rfl v17_2_1)) | (have a2 := (inv_F hIc17 0 32 rfl v17_2_1); unfold In at a2)); (first | have a3 := in_u ((inv_F hIc17 0 4000 rfl v17_2_0)) | (have a3 := (inv_F hIc17 0 4000 rfl v17_2_0); unfold In at a3)); (first | have a4 := in_u ((inv_F hIc17 0 1000 rfl v17_46_2)) | (have a4 := (inv_F hIc17 0 1000 rfl v17_46_2); unfold In at a4)); (first | have a5 := in_u i21 | (have a5 := i21; unfold In at a5)); (first | have a6 := in_u i42a | (have a6 := i42a; unfold In at a6)); have oc := oc_135_1_46; omega) (by rw [p56b, hF42.2.2.1 16 0 rfl, hF28.2.2.1 16 0 rfl]; exact g17_1.2.1) (by rw [p56c, hF42.2.2.1 16 1 rfl, hF28.2.2.1 16 1 rfl]; exact g17_1.2.2) (kn_cp q_0.2.2.2.1.2 (fun p hp => by rw [p56 p hp, hF42.1 18 rfl, hF28.1 18 rfl]; exact (g17_1.1 p hp).1) (fun p hp => by rw [p56a p hp, hF42.1 19 rfl, hF28.1 19 rfl]; exact (g17_1.1 p hp).2)) (hFF.2.2.1 32 0 rfl) (hFF.2.2.1 32 1 rfl) (hFF.1 34 rfl) (hFF.1 35 rfl)
            have n61a : ((Int32.ofInt (-4))).toInt ≠ -4 → LOT (s.1 47) (s.2.2.1 46 1).toInt.toNat (gvC s) ((Int32.ofInt (-4))).toInt 0 0 (gvC s56) ∧ (s56.2.2.1 46 6).toInt = -1 ∧ (s56.2.2.1 46 7).toInt = -1 := by intro h; exact absurd rfl h
            have n61b : ((Int32.ofInt (-4))).toInt = -4 → LOT (s.1 47) (s.2.2.1 46 1).toInt.toNat (gvC s) (-4) (s56.2.2.1 46 6).toInt (s56.2.2.1 46 7).toInt (gvC s56) := by intro _; have h9 := p42j (by (first | have a0 := in_u ro_46_1 | (have a0 := ro_46_1; unfold In at a0)); (first | have a1 := in_u ((inv_F hIc17 448 28000 rfl v17_30_0)) | (have a1 := (inv_F hIc17 448 28000 rfl v17_30_0); unfold In at a1)); (first | have a2 := in_u ((inv_F hIc17 0 32 rfl v17_2_1)) | (have a2 := (inv_F hIc17 0 32 rfl v17_2_1); unfold In at a2)); (first | have a3 := in_u ((inv_F hIc17 0 4000 rfl v17_2_0)) | (have a3 := (inv_F hIc17 0 4000 rfl v17_2_0); unfold In at a3)); (first | have a4 := in_u ((inv_F hIc17 0 1000 rfl v17_46_2)) | (have a4 := (inv_F hIc17 0 1000 rfl v17_46_2); unfold In at a4)); (first | have a5 := in_u i21 | (have a5 := i21; unfold In at a5)); (first | have a6 := in_u i42a | (have a6 := i42a; unfold In at a6)); have oc := oc_135_1_46; omega) _ ht28; rw [hx28, hl28, hg28] at h9; refine Or.inr ⟨y17_2.toInt.toNat, w17_46_2.toInt.toNat, (s42.2.2.1 46 7).toInt.toNat, gvC sc17, g17_4, ?_, rfl, ?_, (show GEQ (gvC s56) (gvC s) from geq_t (show GEQ (gvC s56) (gvS s42) from ⟨p56d, p56, p56a, p56e, p56f, p56g, congrArg Int32.toInt p56c, congrArg Int32.toInt p56b⟩) (by rw [gvS_cg hF42 rfl, gvS_cg hF28 rfl]; exact g17_3.1))⟩; (rw [hF56.2.2.1 46 6 rfl]; exact h9); (rw [hF56.2.2.1 46 7 rfl]; have h8 := p42m (by (first | have a0 := in_u ro_46_1 | (have a0 := ro_46_1; unfold In at a0)); (first | have a1 := in_u ((inv_F hIc17 448 28000 rfl v17_30_0)) | (have a1 := (inv_F hIc17 448 28000 rfl v17_30_0); unfold In at a1)); (first | have a2 := in_u ((inv_F hIc17 0 32 rfl v17_2_1)) | (have a2 := (inv_F hIc17 0 32 rfl v17_2_1); unfold In at a2)); (first | have a3 := in_u ((inv_F hIc17 0 4000 rfl v17_2_0)) | (have a3 := (inv_F hIc17 0 4000 rfl v17_2_0); unfold In at a3)); (first | have a4 := in_u ((inv_F hIc17 0 1000 rfl v17_46_2)) | (have a4 := (inv_F hIc17 0 1000 rfl v17_46_2); unfold In at a4)); (first | have a5 := in_u i21 | (have a5 := i21; unfold In at a5)); (first | have a6 := in_u i42a | (have a6 := i42a; unfold In at a6)); have oc := oc_135_1_46; omega); omega)
            have n61c : TQ s56 := by intro p hp hn; rw [p56h]; exact (tqs_fr (tqs_fr g17_3.2 hF28 rfl) hF42 rfl) p hp (by rw [← p56 p hp]; exact hn)
            have n61d : LCO s s56 (Int32.ofInt (-4)) := by exact ⟨fun h => absurd rfl h, fun _ => (by obtain ⟨G, -, -, hpf, hgv, -⟩ := g17_7; intro k hk; rw [hF56.1 30 rfl, (show s42.1 30 k = s28.1 30 k from (by have hw : (s28.2.2.1 2 0).toInt = (sc17.2.2.1 2 0).toInt := congrArg Int32.toInt (hF28.2.2.1 2 0 rfl); first | exact p42h k (by omega) | exact p42g k (by omega))), hF28.1 30 rfl]; exact hpf k hk)⟩
            exact g_ireturn (gd rfl) rfl rfl (hP _ _ ⟨a42, s56, hI56, (fr_tr rfl (fr_tr rfl (fr_tr rfl hFc17 hF28) hF42) hF56), (Int32.ofInt (-4)), rfl, rfl, in_w (-4) 1000 (in_c (-4) rfl) rfl, n61, n61a, n61b, n61c, n61d⟩)
        · skip
          have i35 := z_eq 0 0 c35 i32 rfl
          refine g_iload_n 39 (gd rfl) rfl rfl ?_
          have n39 : KL s28 := by exact kl_fr g17_0 hF28 rfl
          have n39a : (y17_2).toInt ≠ -4 → LOT (s.1 47) (s.2.2.1 46 1).toInt.toNat (gvC s) (y17_2).toInt 0 0 (gvC s28) ∧ (s28.2.2.1 46 6).toInt = -1 ∧ (s28.2.2.1 46 7).toInt = -1 := by intro _; have h9 := ht28; rw [hx28, hl28, show (s28.2.2.1 46 3).toInt = 0 from (by rw [← (show z32 = s28.2.2.1 46 3 from e32)]; (first | have a0 := in_u ro_46_1 | (have a0 := ro_46_1; unfold In at a0)); (first | have a1 := in_u ((inv_F hIc17 448 28000 rfl v17_30_0)) | (have a1 := (inv_F hIc17 448 28000 rfl v17_30_0); unfold In at a1)); (first | have a2 := in_u ((inv_F hIc17 0 32 rfl v17_2_1)) | (have a2 := (inv_F hIc17 0 32 rfl v17_2_1); unfold In at a2)); (first | have a3 := in_u ((inv_F hIc17 0 4000 rfl v17_2_0)) | (have a3 := (inv_F hIc17 0 4000 rfl v17_2_0); unfold In at a3)); (first | have a4 := in_u ((inv_F hIc17 0 1000 rfl v17_46_2)) | (have a4 := (inv_F hIc17 0 1000 rfl v17_46_2); unfold In at a4)); (first | have a5 := in_u i21 | (have a5 := i21; unfold In at a5)); (first | have a6 := in_u i35 | (have a6 := i35; unfold In at a6)); (first | have a7 := in_u i28b | (have a7 := i28b; unfold In at a7)); (first | have a8 := in_u i28a | (have a8 := i28a; unfold In at a8)); have oc := oc_135_1_46; omega)] at h9; exact ⟨Or.inl ⟨y17_2.toInt.toNat, w17_46_2.toInt.toNat, gvC sc17, g17_4, ⟨_, _, _, h9⟩, (by (first | have a0 := in_u ro_46_1 | (have a0 := ro_46_1; unfold In at a0)); (first | have a1 := in_u ((inv_F hIc17 448 28000 rfl v17_30_0)) | (have a1 := (inv_F hIc17 448 28000 rfl v17_30_0); unfold In at a1)); (first | have a2 := in_u ((inv_F hIc17 0 32 rfl v17_2_1)) | (have a2 := (inv_F hIc17 0 32 rfl v17_2_1); unfold In at a2)); (first | have a3 := in_u ((inv_F hIc17 0 4000 rfl v17_2_0)) | (have a3 := (inv_F hIc17 0 4000 rfl v17_2_0); unfold In at a3)); (first | have a4 := in_u ((inv_F hIc17 0 1000 rfl v17_46_2)) | (have a4 := (inv_F hIc17 0 1000 rfl v17_46_2); unfold In at a4)); (first | have a5 := in_u i21 | (have a5 := i21; unfold In at a5)); (first | have a6 := in_u i35 | (have a6 := i35; unfold In at a6)); (first | have a7 := in_u i28b | (have a7 := i28b; unfold In at a7)); (first | have a8 := in_u i28a | (have a8 := i28a; unfold In at a8)); have oc := oc_135_1_46; omega), rfl, by rw [hg28]; exact geq_r⟩, by rw [hF28.2.2.1 46 6 rfl]; exact g17_6.1, by rw [hF28.2.2.1 46 7 rfl]; exact g17_6.2⟩
          have n39b : (y17_2).toInt = -4 → LOT (s.1 47) (s.2.2.1 46 1).toInt.toNat (gvC s) (-4) (s28.2.2.1 46 6).toInt (s28.2.2.1 46 7).toInt (gvC s28) := by intro h; exfalso; (first | have a0 := in_u ro_46_1 | (have a0 := ro_46_1; unfold In at a0)); (first | have a1 := in_u ((inv_F hIc17 448 28000 rfl v17_30_0)) | (have a1 := (inv_F hIc17 448 28000 rfl v17_30_0); unfold In at a1)); (first | have a2 := in_u ((inv_F hIc17 0 32 rfl v17_2_1)) | (have a2 := (inv_F hIc17 0 32 rfl v17_2_1); unfold In at a2)); (first | have a3 := in_u ((inv_F hIc17 0 4000 rfl v17_2_0)) | (have a3 := (inv_F hIc17 0 4000 rfl v17_2_0); unfold In at a3)); (first | have a4 := in_u ((inv_F hIc17 0 1000 rfl v17_46_2)) | (have a4 := (inv_F hIc17 0 1000 rfl v17_46_2); unfold In at a4)); (first | have a5 := in_u i21 | (have a5 := i21; unfold In at a5)); (first | have a6 := in_u i35 | (have a6 := i35; unfold In at a6)); (first | have a7 := in_u i28b | (have a7 := i28b; unfold In at a7)); (first | have a8 := in_u i28a | (have a8 := i28a; unfold In at a8)); have oc := oc_135_1_46; omega
          have n39c : TQ s28 := by exact tq_fr g17_5 hF28 rfl
          have n39d : LCO s s28 y17_2 := by exact ⟨fun _ => (by have q := g17_7; obtain ⟨G, b1, b2, b3, b4, b5⟩ := q; exact ⟨G, b1, by rw [b2]; exact hg28.symm, fun k hk => by rw [hF28.1 30 rfl]; exact b3 k hk, by rw [hF28.2.2.1 2 0 rfl]; exact b4, by rw [hF28.1 30 rfl]; exact b5⟩), fun h => (by exfalso; (first | have a0 := in_u ro_46_1 | (have a0 := ro_46_1; unfold In at a0)); (first | have a1 := in_u ((inv_F hIc17 448 28000 rfl v17_30_0)) | (have a1 := (inv_F hIc17 448 28000 rfl v17_30_0); unfold In at a1)); (first | have a2 := in_u ((inv_F hIc17 0 32 rfl v17_2_1)) | (have a2 := (inv_F hIc17 0 32 rfl v17_2_1); unfold In at a2)); (first | have a3 := in_u ((inv_F hIc17 0 4000 rfl v17_2_0)) | (have a3 := (inv_F hIc17 0 4000 rfl v17_2_0); unfold In at a3)); (first | have a4 := in_u ((inv_F hIc17 0 1000 rfl v17_46_2)) | (have a4 := (inv_F hIc17 0 1000 rfl v17_46_2); unfold In at a4)); (first | have a5 := in_u i21 | (have a5 := i21; unfold In at a5)); (first | have a6 := in_u i35 | (have a6 := i35; unfold In at a6)); (first | have a7 := in_u i28b | (have a7 := i28b; unfold In at a7)); (first | have a8 := in_u i28a | (have a8 := i28a; unfold In at a8)); have oc := oc_135_1_46; omega)⟩
          exact g_ireturn (gd rfl) rfl rfl (hP _ _ ⟨ac17, s28, hI28, (fr_tr rfl hFc17 hF28), y17_2, rfl, rfl, in_w (-4) 1000 i21 rfl, n39, n39a, n39b, n39c, n39d⟩)
  refine g_enter2 (k := 135) (N := 1802701) (by first | exact dq1 hd rfl | exact dq0 hd rfl | exact dq2 hd rfl | exact dq3 hd rfl | omega) rfl (Nat.le_of_ble_eq_true rfl) ?_
  refine g_aload_n 1 (gd rfl) rfl rfl ?_
  refine g_getA (q2 := 16) 4 (gd rfl) rfl rfl rfl rfl ?_
  refine g_aload_n 5 (gd rfl) rfl rfl ?_
  refine g_getA (q2 := 2) 8 (gd rfl) rfl rfl rfl rfl ?_
  refine g_callv (X := _) (As := [.ref (A 2)]) (r := []) (b := A 16) (q := 16) 11 (gd rfl) rfl rfl rfl rfl rfl (ww_o rfl) (Nat.le_of_ble_eq_true rfl) (Nat.zero_le _) (Nat.zero_le _) (f_93_16_2 (by first | exact dq1 hd rfl | exact dq0 hd rfl | exact dq2 hd rfl | exact dq3 hd rfl | omega) hI ) (fun e u h => h) (fun v u h => ?_)
  obtain ⟨s8, hI8, hF8, rfl, rfl, p8, p8a, p8b, p8c, p8d, p8e, p8f, p8g, p8h⟩ := h
  show GG _ _ _ _ _ _ _ _ [] _ _ _
  refine g_aload_n 12 (gd rfl) rfl rfl ?_
  refine g_callv (X := _) (As := []) (r := []) (b := A 46) (q := 46) 15 (gd rfl) rfl rfl rfl rfl rfl (ww_o rfl) (Nat.le_of_ble_eq_true rfl) (mc := 0) (ms := 0) (Nat.zero_le _) (Nat.zero_le _) (P := fun v u => _) ?_ (fun e u h => h) (fun v u h => h)
  intro po12 xx12 hp12 hx12
  refine g_enter2 (k := 167) (N := 300) (by first | exact dq1 hd rfl | exact dq0 hd rfl | exact dq2 hd rfl | exact dq3 hd rfl | omega) rfl (Nat.le_of_ble_eq_true rfl) ?_
  refine g_aload_n 1 (gd rfl) rfl rfl ?_
  refine g_iconst 0 2 (gd rfl) rfl rfl ?_
  refine g_putI 5 (gd rfl) rfl rfl rfl rfl ?_
  have hI12x2 := inv_sF (q := 46) (j := 2) hI8 rfl (in_w 0 1000 (in_c 0 rfl) rfl)
  refine g_aload_n 6 (gd rfl) rfl rfl ?_
  refine g_iconst (-1) 7 (gd rfl) rfl rfl ?_
  refine g_putI 10 (gd rfl) rfl rfl rfl rfl ?_
  have hI12x7 := inv_sF (q := 46) (j := 6) hI12x2 rfl (in_w (-1) 5 (in_c (-1) rfl) rfl)
  refine g_aload_n 11 (gd rfl) rfl rfl ?_
  refine g_iconst (-1) 12 (gd rfl) rfl rfl ?_
  refine g_putI 15 (gd rfl) rfl rfl rfl rfl ?_
  have hI12x12 := inv_sF (q := 46) (j := 7) hI12x7 rfl (in_w (-1) 1000 (in_c (-1) rfl) rfl)
  refine g_return (gd rfl) rfl (hp12 _ _ ?_)
  show GG _ _ _ _ _ _ _ _ [] _ _ _
  refine g_iconst 0 16 (gd rfl) rfl rfl ?_
  refine g_istore_n 17 (gd rfl) rfl (Nat.le_of_ble_eq_true rfl) ?_
  have hr17 : lgC (sF (sF (sF s8 46 2 (Int32.ofInt 0)) 46 6 (Int32.ofInt (-1))) 46 7 (Int32.ofInt (-1))) ≤ (lgC s) := by exact Nat.le_of_eq (lg_cg ((show Fr ([17, 18, 19, 20, 21, 22], [], [(16, 0), (16, 1), (16, 2), (16, 3), (16, 4), (46, 2), (46, 6), (46, 7)], []) s (sF (sF (sF s8 46 2 (Int32.ofInt 0)) 46 6 (Int32.ofInt (-1))) 46 7 (Int32.ofInt (-1))) from (fr_sF rfl (fr_sF rfl (fr_sF rfl (fr_tr rfl fr_rf hF8))))).2.2.1 30 0 rfl)).1
  have hr17a : lgS (sF (sF (sF s8 46 2 (Int32.ofInt 0)) 46 6 (Int32.ofInt (-1))) 46 7 (Int32.ofInt (-1))) ≤ (lgS s) := by exact Nat.le_of_eq (lg_cg ((show Fr ([17, 18, 19, 20, 21, 22], [], [(16, 0), (16, 1), (16, 2), (16, 3), (16, 4), (46, 2), (46, 6), (46, 7)], []) s (sF (sF (sF s8 46 2 (Int32.ofInt 0)) 46 6 (Int32.ofInt (-1))) 46 7 (Int32.ofInt (-1))) from (fr_sF rfl (fr_sF rfl (fr_sF rfl (fr_tr rfl fr_rf hF8))))).2.2.1 30 0 rfl)).2
  rw [show WW Z A (sF (sF (sF s8 46 2 (Int32.ofInt 0)) 46 6 (Int32.ofInt (-1))) 46 7 (Int32.ofInt (-1))) ++ ex = WW Z (ax A 30 (A 30)) (sF (sF (sF s8 46 2 (Int32.ofInt 0)) 46 6 (Int32.ofInt (-1))) 46 7 (Int32.ofInt (-1))) ++ ex from by rw [ax_id]]
  have v17 : (Int32.ofInt 0) = (sF (sF (sF s8 46 2 (Int32.ofInt 0)) 46 6 (Int32.ofInt (-1))) 46 7 (Int32.ofInt (-1))).2.2.1 46 2 := sF_ne rfl (sF_ne rfl (sF_get))
  have v17a : u_2_0 = (sF (sF (sF s8 46 2 (Int32.ofInt 0)) 46 6 (Int32.ofInt (-1))) 46 7 (Int32.ofInt (-1))).2.2.1 2 0 := sF_ne rfl (sF_ne rfl (sF_ne rfl (fr_F (e_2_0) hF8 rfl)))
  have v17b : u_2_1 = (sF (sF (sF s8 46 2 (Int32.ofInt 0)) 46 6 (Int32.ofInt (-1))) 46 7 (Int32.ofInt (-1))).2.2.1 2 1 := sF_ne rfl (sF_ne rfl (sF_ne rfl (fr_F (e_2_1) hF8 rfl)))
  have v17c : u_30_0 = (sF (sF (sF s8 46 2 (Int32.ofInt 0)) 46 6 (Int32.ofInt (-1))) 46 7 (Int32.ofInt (-1))).2.2.1 30 0 := sF_ne rfl (sF_ne rfl (sF_ne rfl (fr_F (e_30_0) hF8 rfl)))
  have n17 : ((Int32.ofInt 0)).toInt ≤ (u_46_1).toInt := by (first | have a0 := in_u ((inv_F hI 0 1000 rfl e_46_1)) | (have a0 := (inv_F hI 0 1000 rfl e_46_1); unfold In at a0)); (first | have a1 := in_u ((inv_F hI 448 28000 rfl e_30_0)) | (have a1 := (inv_F hI 448 28000 rfl e_30_0); unfold In at a1)); (first | have a2 := in_u ((inv_F hI 0 32 rfl e_2_1)) | (have a2 := (inv_F hI 0 32 rfl e_2_1); unfold In at a2)); (first | have a3 := in_u ((inv_F hI 0 4000 rfl e_2_0)) | (have a3 := (inv_F hI 0 4000 rfl e_2_0); unfold In at a3)); (first | have a4 := in_u ((in_c 0 rfl)) | (have a4 := (in_c 0 rfl); unfold In at a4)); (first | have a5 := in_u ((in_c (-1) rfl)) | (have a5 := (in_c (-1) rfl); unfold In at a5)); have oc := oc_135_1_46; omega
  have n17a : (u_2_0).toInt ≤ (u_2_0).toInt := by exact Int.le_refl _
  have n17b : KL (sF (sF (sF s8 46 2 (Int32.ofInt 0)) 46 6 (Int32.ofInt (-1))) 46 7 (Int32.ofInt (-1))) := by exact kl_fr q_0 (show Fr ([17, 18, 19, 20, 21, 22], [], [(16, 0), (16, 1), (16, 2), (16, 3), (16, 4), (46, 2), (46, 6), (46, 7)], []) s (sF (sF (sF s8 46 2 (Int32.ofInt 0)) 46 6 (Int32.ofInt (-1))) 46 7 (Int32.ofInt (-1))) from (fr_sF rfl (fr_sF rfl (fr_sF rfl (fr_tr rfl fr_rf hF8))))) rfl
  have n17c : (∀ p : Nat, p < 160 → (sF (sF (sF s8 46 2 (Int32.ofInt 0)) 46 6 (Int32.ofInt (-1))) 46 7 (Int32.ofInt (-1))).1 18 p = s.1 4 p ∧ (sF (sF (sF s8 46 2 (Int32.ofInt 0)) 46 6 (Int32.ofInt (-1))) 46 7 (Int32.ofInt (-1))).1 19 p = s.1 5 p) ∧ (sF (sF (sF s8 46 2 (Int32.ofInt 0)) 46 6 (Int32.ofInt (-1))) 46 7 (Int32.ofInt (-1))).2.2.1 16 0 = s.2.2.1 2 0 ∧ (sF (sF (sF s8 46 2 (Int32.ofInt 0)) 46 6 (Int32.ofInt (-1))) 46 7 (Int32.ofInt (-1))).2.2.1 16 1 = s.2.2.1 2 1 := by exact ⟨fun p hp => ⟨p8 p hp, p8a p hp⟩, p8b, p8c⟩
  have n17d : ∀ k : Nat, (k : Int) < 7 * (s.2.2.1 2 0).toInt → (sF (sF (sF s8 46 2 (Int32.ofInt 0)) 46 6 (Int32.ofInt (-1))) 46 7 (Int32.ofInt (-1))).1 30 k = s.1 30 k := by exact fun k _ => by rw [(show Fr ([17, 18, 19, 20, 21, 22], [], [(16, 0), (16, 1), (16, 2), (16, 3), (16, 4), (46, 2), (46, 6), (46, 7)], []) s (sF (sF (sF s8 46 2 (Int32.ofInt 0)) 46 6 (Int32.ofInt (-1))) 46 7 (Int32.ofInt (-1))) from (fr_sF rfl (fr_sF rfl (fr_sF rfl (fr_tr rfl fr_rf hF8))))).1 30 rfl]
  have n17e : GEQ (gvS (sF (sF (sF s8 46 2 (Int32.ofInt 0)) 46 6 (Int32.ofInt (-1))) 46 7 (Int32.ofInt (-1)))) (gvC s) ∧ TQS (sF (sF (sF s8 46 2 (Int32.ofInt 0)) 46 6 (Int32.ofInt (-1))) 46 7 (Int32.ofInt (-1))) := by exact ⟨⟨p8d, p8, p8a, p8e, p8f, p8g, congrArg Int32.toInt p8c, congrArg Int32.toInt p8b⟩, fun p hp hn => by have h9 := q_1 p hp (by rw [← p8 p hp]; exact hn); rw [← p8h] at h9; exact h9⟩
  have n17f : LRN (s.1 47) (s.2.2.1 46 1).toInt.toNat (gvC s) ((Int32.ofInt 0)).toInt.toNat ((Int32.ofInt 0)).toInt.toNat (gvC (sF (sF (sF s8 46 2 (Int32.ofInt 0)) 46 6 (Int32.ofInt (-1))) 46 7 (Int32.ofInt (-1)))) := by exact ⟨rfl, gvC_cg (show Fr ([17, 18, 19, 20, 21, 22], [], [(16, 0), (16, 1), (16, 2), (16, 3), (16, 4), (46, 2), (46, 6), (46, 7)], []) s (sF (sF (sF s8 46 2 (Int32.ofInt 0)) 46 6 (Int32.ofInt (-1))) 46 7 (Int32.ofInt (-1))) from (fr_sF rfl (fr_sF rfl (fr_sF rfl (fr_tr rfl fr_rf hF8))))) rfl⟩
  have n17g : TQ (sF (sF (sF s8 46 2 (Int32.ofInt 0)) 46 6 (Int32.ofInt (-1))) 46 7 (Int32.ofInt (-1))) := by exact tq_fr q_1 (show Fr ([17, 18, 19, 20, 21, 22], [], [(16, 0), (16, 1), (16, 2), (16, 3), (16, 4), (46, 2), (46, 6), (46, 7)], []) s (sF (sF (sF s8 46 2 (Int32.ofInt 0)) 46 6 (Int32.ofInt (-1))) 46 7 (Int32.ofInt (-1))) from (fr_sF rfl (fr_sF rfl (fr_sF rfl (fr_tr rfl fr_rf hF8))))) rfl
  have n17h : ((sF (sF (sF s8 46 2 (Int32.ofInt 0)) 46 6 (Int32.ofInt (-1))) 46 7 (Int32.ofInt (-1))).2.2.1 46 6).toInt = -1 ∧ ((sF (sF (sF s8 46 2 (Int32.ofInt 0)) 46 6 (Int32.ofInt (-1))) 46 7 (Int32.ofInt (-1))).2.2.1 46 7).toInt = -1 := by exact ⟨by rw [← (show (Int32.ofInt (-1)) = (sF (sF (sF s8 46 2 (Int32.ofInt 0)) 46 6 (Int32.ofInt (-1))) 46 7 (Int32.ofInt (-1))).2.2.1 46 6 from sF_ne rfl (sF_get))]; rfl, by rw [← (show (Int32.ofInt (-1)) = (sF (sF (sF s8 46 2 (Int32.ofInt 0)) 46 6 (Int32.ofInt (-1))) 46 7 (Int32.ofInt (-1))).2.2.1 46 7 from sF_get)]; rfl⟩
  have n17i : LGS s (sF (sF (sF s8 46 2 (Int32.ofInt 0)) 46 6 (Int32.ofInt (-1))) 46 7 (Int32.ofInt (-1))) ((Int32.ofInt 0)).toInt.toNat := by exact lgs_0 (gvC_cg (show Fr ([17, 18, 19, 20, 21, 22], [], [(16, 0), (16, 1), (16, 2), (16, 3), (16, 4), (46, 2), (46, 6), (46, 7)], []) s (sF (sF (sF s8 46 2 (Int32.ofInt 0)) 46 6 (Int32.ofInt (-1))) 46 7 (Int32.ofInt (-1))) from (fr_sF rfl (fr_sF rfl (fr_sF rfl (fr_tr rfl fr_rf hF8))))) rfl) ((show Fr ([17, 18, 19, 20, 21, 22], [], [(16, 0), (16, 1), (16, 2), (16, 3), (16, 4), (46, 2), (46, 6), (46, 7)], []) s (sF (sF (sF s8 46 2 (Int32.ofInt 0)) 46 6 (Int32.ofInt (-1))) 46 7 (Int32.ofInt (-1))) from (fr_sF rfl (fr_sF rfl (fr_sF rfl (fr_tr rfl fr_rf hF8))))).1 30 rfl)
  exact gg_w (by first | exact Nat.le_of_ble_eq_true rfl | omega) (gg_f (gf_cons rfl (gf_cons rfl (gf_cons rfl gf_nil))) (ct17 2002 (sF (sF (sF s8 46 2 (Int32.ofInt 0)) 46 6 (Int32.ofInt (-1))) 46 7 (Int32.ofInt (-1))) (A 30) (lgC s) (lgS s) (Int32.ofInt 0) (Int32.ofInt 0) u_2_0 u_2_1 u_30_0 hI12x12 (fr_sF rfl (fr_sF rfl (fr_sF rfl (fr_tr rfl fr_rf hF8)))) hr17 hr17a (in_w 0 2001 (in_c 0 rfl) rfl) v17 v17a v17b v17c n17 n17a n17b n17c n17d n17e n17f n17g n17h n17i (m_in 2002 (in_w 0 2001 (in_c 0 rfl) rfl) rfl)))

/-- GraphHouse.load -/
theorem f_225_0 {Z : AmZ} {A : Nat → Nat} {s : GS} {ex : va_W} {d : Nat} {X : AmX} {u_2_0 : Int32} {u_2_1 : Int32} {u_30_0 : Int32} (hd : 11 ≤ d) (hI : Inv s) (e_2_0 : u_2_0 = s.2.2.1 2 0) (e_2_1 : u_2_1 = s.2.2.1 2 1) (e_30_0 : u_30_0 = s.2.2.1 30 0) (q_0 : KL s) (q_1 : TQ s) : GC Z d 225 [.ref (A 0)] (WW Z A s ++ ex) 3943 83130 (fun v u => ∃ a : Nat, ∃ t : GS, Inv t ∧ Fr fm_225_0 s t ∧ ∃ z : Int32, v = some (.int z) ∧ u = WW Z (ax A 30 a) t ++ ex ∧ In z (-4) 1000 ∧ (KL t) ∧ (((z).toInt ≠ -4 → LOT (s.1 47) (s.2.2.1 46 1).toInt.toNat (gvC s) (z).toInt 0 0 (gvC t) ∧ (t.2.2.1 46 6).toInt = -1 ∧ (t.2.2.1 46 7).toInt = -1) ∧ ((z).toInt = -4 → LOT (s.1 47) (s.2.2.1 46 1).toInt.toNat (gvC s) (-4) (t.2.2.1 46 6).toInt (t.2.2.1 46 7).toInt (gvC t)) ∧ TQ t) ∧ (LCO s t z)) X := by
  intro post xp hP hX
  refine g_enter2 (k := 225) (N := 900) (by first | exact dq1 hd rfl | exact dq0 hd rfl | exact dq2 hd rfl | exact dq3 hd rfl | omega) rfl (Nat.le_of_ble_eq_true rfl) ?_
  refine g_aload_n 1 (gd rfl) rfl rfl ?_
  refine g_getA (q2 := 1) 4 (gd rfl) rfl rfl rfl rfl ?_
  refine g_aload_n 5 (gd rfl) rfl rfl ?_
  refine g_getA (q2 := 46) 8 (gd rfl) rfl rfl rfl rfl ?_
  have p8 : KL s := by exact q_0
  have p8a : TQ s := by exact q_1
  refine g_callv (X := _) (As := [.ref (A 46)]) (r := []) (b := A 1) (q := 1) 11 (gd rfl) rfl rfl rfl rfl rfl (ww_o rfl) (Nat.le_of_ble_eq_true rfl) (Nat.le_trans (lgC_le (inv_F hI 448 28000 (q := 30) (j := 0) rfl rfl)) (Nat.le_of_ble_eq_true rfl)) (Nat.le_trans (lgS_le (inv_F hI 448 28000 (q := 30) (j := 0) rfl rfl)) (Nat.le_of_ble_eq_true rfl)) (f_135_1_46 (by first | exact dq1 hd rfl | exact dq0 hd rfl | exact dq2 hd rfl | exact dq3 hd rfl | omega) hI e_2_0 e_2_1 e_30_0 rfl p8 p8a) (fun e u h => h) (fun v u h => ?_)
  obtain ⟨a8, s8, hI8, hF8, z8, rfl, rfl, i8, p8b, p8c, p8d, p8e, p8f⟩ := h
  show GG _ _ _ _ _ _ _ _ [.int z8] _ _ _
  have n11 : KL s8 := by exact p8b
  have n11a : ((z8).toInt ≠ -4 → LOT (s.1 47) (s.2.2.1 46 1).toInt.toNat (gvC s) (z8).toInt 0 0 (gvC s8) ∧ (s8.2.2.1 46 6).toInt = -1 ∧ (s8.2.2.1 46 7).toInt = -1) ∧ ((z8).toInt = -4 → LOT (s.1 47) (s.2.2.1 46 1).toInt.toNat (gvC s) (-4) (s8.2.2.1 46 6).toInt (s8.2.2.1 46 7).toInt (gvC s8)) ∧ TQ s8 := by exact ⟨p8c, p8d, p8e⟩
  have n11b : LCO s s8 z8 := by exact p8f
  exact g_ireturn (gd rfl) rfl rfl (hP _ _ ⟨a8, s8, hI8, (fr_tr rfl fr_rf hF8), z8, rfl, rfl, in_w (-4) 1000 i8 rfl, n11, n11a, n11b⟩)

theorem oc_98_2 : (Int32.ofInt (-1)).toInt = (-1) ∧ (Int32.ofInt 0).toInt = 0 ∧ (Int32.ofInt 1).toInt = 1 := ⟨rfl, rfl, rfl⟩
/-- GraphHouse$Graph.joints -/
theorem f_98_2 {Z : AmZ} {A : Nat → Nat} {s : GS} {ex : va_W} {d : Nat} {X : AmX}  (hd : 3 ≤ d) (hI : Inv s) (q_0 : TQ s) : GC Z d 98 [.ref (A 2)] (WW Z A s ++ ex) 0 0 (fun v u => ∃ z : Int32, v = some (.int z) ∧ u = WW Z A s ++ ex ∧ In z 0 160 ∧ (((z).toInt = MJ (ARE (gvC s) 0) (ARE (gvC s) 1)))) X := by
  intro post xp hP hX
  obtain ⟨u_2_3, e_2_3⟩ : ∃ w, w = s.2.2.1 2 3 := ⟨_, rfl⟩
  have ro_2_3 := inv_F hI 0 160 rfl e_2_3
  have ct4 : ∀ (k4 : Nat) (y4_1 : Int32) (y4_2 : Int32), (In y4_1 0 160) → (In y4_2 0 160) → ((y4_1).toInt ≤ (y4_2).toInt + 0) → (((y4_1).toInt = sm (fun p => ind ((ARE (gvC s) 0) p ≠ (ARE (gvC s) 1) p)) (y4_2).toNatClampNeg)) → 160 - (y4_2).toInt < (k4 : Int) → GG Z (d - 1) 98 post (gx xp) (1 + k4 * 900) 4 (fun j => xlook j [(0, .ref (A 2)), (1, .int y4_1), (2, .int y4_2)]) [] (WW Z A s ++ ex) 0 0 := by
    intro k4
    induction k4 with
    | zero => intro y4_1 y4_2 j4_1 j4_2 l4_1 g4_0 mm4; exact m_no mm4 j4_2 rfl
    | succ k4 ih4 =>
      intro y4_1 y4_2 j4_1 j4_2 l4_1 g4_0 mm4
      refine gg_w (M := 1 + k4 * 900 + 900) gws ?_
      refine g_iload_n 5 (gd rfl) rfl rfl ?_
      refine g_aload_n 6 (gd rfl) rfl rfl ?_
      refine g_getI 9 (gd rfl) rfl rfl rfl (fun z6 e6 => ?_)
      have q6 : u_2_3 = z6 := (e_2_3).trans e6.symm
      subst q6
      refine g_cmp_ge 12 29 (gd rfl) rfl rfl (fun c9 => ?_) (fun c9 => ?_)
      · skip
        refine g_iload_n 30 (gd rfl) rfl rfl ?_
        have n30 : ((y4_1).toInt = MJ (ARE (gvC s) 0) (ARE (gvC s) 1)) := by exact mji_e g4_0 (by show (y4_2).toInt.toNat ≤ 160; (first | have a0 := in_u ro_2_3 | (have a0 := ro_2_3; unfold In at a0)); (first | have a1 := in_u j4_2 | (have a1 := j4_2; unfold In at a1)); (first | have a2 := in_u j4_1 | (have a2 := j4_1; unfold In at a2)); have oc := oc_98_2; (first | exact zt_u (by omega) | omega)) (fun p a c => are_q (Classical.byContradiction fun z => by have h9 := q_0 p c (fun y => z (by rw [are_f c rfl]; exact y)); rw [← e_2_3] at h9; have h8 : (y4_2).toNatClampNeg = (y4_2).toInt.toNat := rfl; (first | have a0 := in_u ro_2_3 | (have a0 := ro_2_3; unfold In at a0)); (first | have a1 := in_u j4_2 | (have a1 := j4_2; unfold In at a1)); (first | have a2 := in_u j4_1 | (have a2 := j4_1; unfold In at a2)); have oc := oc_98_2; omega) c)
        exact g_ireturn (gd rfl) rfl rfl (hP _ _ ⟨y4_1, rfl, rfl, in_w 0 160 j4_1 rfl, n30⟩)
      · skip
        have i9 := r_lt1 0 159 c9 j4_2 ro_2_3 rfl
        have i9a := r_lt2 1 160 c9 j4_2 ro_2_3 rfl
        refine g_aload_n 13 (gd rfl) rfl rfl ?_
        refine g_iload_n 14 (gd rfl) rfl rfl ?_
        refine g_callv (X := _) (As := [.int y4_2]) (r := []) (b := A 2) (q := 2) 17 (gd rfl) rfl rfl rfl rfl rfl (ww_o rfl) (Nat.le_of_ble_eq_true rfl) (mc := 0) (ms := 0) (Nat.zero_le _) (Nat.zero_le _) (P := fun v u => _) ?_ (fun e u h => h) (fun v u h => h)
        intro po14 xx14 hp14 hx14
        refine g_enter2 (k := 97) (N := 300) (by first | exact dq1 hd rfl | exact dq0 hd rfl | exact dq2 hd rfl | exact dq3 hd rfl | omega) rfl (Nat.le_of_ble_eq_true rfl) ?_
        refine g_aload_n 1 (gd rfl) rfl rfl ?_
        refine g_getA (q2 := 4) 4 (gd rfl) rfl rfl rfl rfl ?_
        refine g_iload_n 5 (gd rfl) rfl rfl ?_
        refine g_iaload 6 (gd rfl) rfl (n := 160) rfl (in_ix i9 rfl) (fun z14x5 e14x5 => ?_)
        have i14x5 := inv_I hI (n := 160) (t := 0) (-1) 31 rfl (in_ix i9 rfl) rfl e14x5
        refine g_iconst (-1) 7 (gd rfl) rfl rfl ?_
        refine g_cmp_eq 10 29 (gd rfl) rfl rfl (fun c14x7 => ?_) (fun c14x7 => ?_)
        · skip
          have i14x7 := r_eq1 (-1) (-1) c14x7 i14x5 (in_c (-1) rfl) rfl
          refine g_iconst 0 30 (gd rfl) rfl rfl ?_
          refine g_ireturn (gd rfl) rfl (nb01 (in_w 0 1 (in_c 0 rfl) rfl)) (hp14 _ _ ?_)
          show GG _ _ _ _ _ _ _ _ [.int (Int32.ofInt 0)] _ _ _
          refine g_if_eq 20 23 (gd rfl) rfl rfl (fun c17 => ?_) (fun c17 => ?_)
          · skip
            refine g_iinc 26 (gd rfl) rfl rfl (Nat.le_of_ble_eq_true rfl) (fun z23 e23 => ?_)
            have i23 := in_add 1 160 e23 i9 (in_c 1 rfl) rfl rfl
            refine g_goto 4 (gd rfl) rfl ?_
            have l4 := rl_0 l4_1 (t_add e23 i9 (in_c 1 rfl) rfl) (in_w 0 1 (in_c 1 rfl) rfl)
            have n4 : ((y4_1).toInt = sm (fun p => ind ((ARE (gvC s) 0) p ≠ (ARE (gvC s) 1) p)) (z23).toNatClampNeg) := by exact mji_n g4_0 (are_0 (show z14x5 = (gvC s).2.1 (y4_2).toNatClampNeg from e14x5) (by (first | have a0 := in_u i9a | (have a0 := i9a; unfold In at a0)); (first | have a1 := in_u i9 | (have a1 := i9; unfold In at a1)); (first | have a2 := in_u j4_1 | (have a2 := j4_1; unfold In at a2)); (first | have a3 := in_u i23 | (have a3 := i23; unfold In at a3)); have a4 := t_add e23 i9 (in_c 1 rfl) rfl; (first | have a5 := in_u ((in_c 1 rfl)) | (have a5 := (in_c 1 rfl); unfold In at a5)); have oc := oc_98_2; omega)) (show (z23).toNatClampNeg = (y4_2).toNatClampNeg + 1 from (by show (z23).toInt.toNat = (y4_2).toInt.toNat + 1; (first | have a0 := in_u i9a | (have a0 := i9a; unfold In at a0)); (first | have a1 := in_u i9 | (have a1 := i9; unfold In at a1)); (first | have a2 := in_u j4_1 | (have a2 := j4_1; unfold In at a2)); (first | have a3 := in_u i23 | (have a3 := i23; unfold In at a3)); have a4 := t_add e23 i9 (in_c 1 rfl) rfl; (first | have a5 := in_u ((in_c 1 rfl)) | (have a5 := (in_c 1 rfl); unfold In at a5)); have oc := oc_98_2; (first | exact zt_s (by omega) (by omega) | omega)))
            exact gg_w (by first | exact Nat.le_add_right _ _ | exact gw2 | exact gw3 | exact gwe rfl | exact gwf rfl | exact gwg rfl | exact gwh rfl | omega) (gg_f (gf_cons rfl (gf_cons rfl (gf_cons rfl gf_nil))) (ih4  y4_1 z23  (rl_w 0 160 l4 j4_1 (in_w 0 160 i23 rfl) rfl) (in_w 0 160 i23 rfl) l4 n4 (m_up mm4 (t_add e23 i9 (in_c 1 rfl) rfl) (in_w 1 1 (in_c 1 rfl) rfl))))
          · skip
            exact zn_ne c17 (in_c 0 rfl) rfl
        · skip
          have i14x7 := r_ne1 0 31 c14x7 i14x5 (in_c (-1) rfl) rfl
          refine g_aload_n 11 (gd rfl) rfl rfl ?_
          refine g_getA (q2 := 4) 14 (gd rfl) rfl rfl rfl rfl ?_
          refine g_iload_n 15 (gd rfl) rfl rfl ?_
          refine g_iaload 16 (gd rfl) rfl (n := 160) rfl (in_ix i9 rfl) (fun z14x15 e14x15 => ?_)
          have q14x15 : z14x5 = z14x15 := (e14x5).trans e14x15.symm
          subst q14x15
          refine g_aload_n 17 (gd rfl) rfl rfl ?_
          refine g_getA (q2 := 5) 20 (gd rfl) rfl rfl rfl rfl ?_
          refine g_iload_n 21 (gd rfl) rfl rfl ?_
          refine g_iaload 22 (gd rfl) rfl (n := 160) rfl (in_ix i9 rfl) (fun z14x21 e14x21 => ?_)
          have i14x21 := inv_I hI (n := 160) (t := 0) 0 31 rfl (in_ix i9 rfl) rfl e14x21
          refine g_cmp_eq 25 29 (gd rfl) rfl rfl (fun c14x22 => ?_) (fun c14x22 => ?_)
          · skip
            refine g_iconst 0 30 (gd rfl) rfl rfl ?_
            refine g_ireturn (gd rfl) rfl (nb01 (in_w 0 1 (in_c 0 rfl) rfl)) (hp14 _ _ ?_)
            show GG _ _ _ _ _ _ _ _ [.int (Int32.ofInt 0)] _ _ _
            refine g_if_eq 20 23 (gd rfl) rfl rfl (fun c17 => ?_) (fun c17 => ?_)
            · skip
              refine g_iinc 26 (gd rfl) rfl rfl (Nat.le_of_ble_eq_true rfl) (fun z23 e23 => ?_)
              have i23 := in_add 1 160 e23 i9 (in_c 1 rfl) rfl rfl
              refine g_goto 4 (gd rfl) rfl ?_
              have l4 := rl_0 l4_1 (t_add e23 i9 (in_c 1 rfl) rfl) (in_w 0 1 (in_c 1 rfl) rfl)
              have n4 : ((y4_1).toInt = sm (fun p => ind ((ARE (gvC s) 0) p ≠ (ARE (gvC s) 1) p)) (z23).toNatClampNeg) := by exact mji_n g4_0 ((are_2 (show (y4_2).toNatClampNeg < 160 from (by show (y4_2).toInt.toNat < 160; (first | have a0 := in_u i9a | (have a0 := i9a; unfold In at a0)); (first | have a1 := in_u i9 | (have a1 := i9; unfold In at a1)); (first | have a2 := in_u j4_1 | (have a2 := j4_1; unfold In at a2)); (first | have a3 := in_u i23 | (have a3 := i23; unfold In at a3)); have a4 := t_add e23 i9 (in_c 1 rfl) rfl; (first | have a5 := in_u ((in_c 1 rfl)) | (have a5 := (in_c 1 rfl); unfold In at a5)); have oc := oc_98_2; (first | exact zt_l (by decide) (by omega) | omega))) (show z14x5 = (gvC s).2.1 (y4_2).toNatClampNeg from e14x5) (by (first | have a0 := in_u i9a | (have a0 := i9a; unfold In at a0)); (first | have a1 := in_u i9 | (have a1 := i9; unfold In at a1)); (first | have a2 := in_u j4_1 | (have a2 := j4_1; unfold In at a2)); (first | have a3 := in_u i23 | (have a3 := i23; unfold In at a3)); have a4 := t_add e23 i9 (in_c 1 rfl) rfl; (first | have a5 := in_u ((in_c 1 rfl)) | (have a5 := (in_c 1 rfl); unfold In at a5)); have oc := oc_98_2; omega) (show z14x21 = (gvC s).2.2.1 (y4_2).toNatClampNeg from e14x21)).1.trans ((show (z14x5).toInt = (z14x21).toInt from c14x22).trans (are_2 (show (y4_2).toNatClampNeg < 160 from (by show (y4_2).toInt.toNat < 160; (first | have a0 := in_u i9a | (have a0 := i9a; unfold In at a0)); (first | have a1 := in_u i9 | (have a1 := i9; unfold In at a1)); (first | have a2 := in_u j4_1 | (have a2 := j4_1; unfold In at a2)); (first | have a3 := in_u i23 | (have a3 := i23; unfold In at a3)); have a4 := t_add e23 i9 (in_c 1 rfl) rfl; (first | have a5 := in_u ((in_c 1 rfl)) | (have a5 := (in_c 1 rfl); unfold In at a5)); have oc := oc_98_2; (first | exact zt_l (by decide) (by omega) | omega))) (show z14x5 = (gvC s).2.1 (y4_2).toNatClampNeg from e14x5) (by (first | have a0 := in_u i9a | (have a0 := i9a; unfold In at a0)); (first | have a1 := in_u i9 | (have a1 := i9; unfold In at a1)); (first | have a2 := in_u j4_1 | (have a2 := j4_1; unfold In at a2)); (first | have a3 := in_u i23 | (have a3 := i23; unfold In at a3)); have a4 := t_add e23 i9 (in_c 1 rfl) rfl; (first | have a5 := in_u ((in_c 1 rfl)) | (have a5 := (in_c 1 rfl); unfold In at a5)); have oc := oc_98_2; omega) (show z14x21 = (gvC s).2.2.1 (y4_2).toNatClampNeg from e14x21)).2.symm)) (show (z23).toNatClampNeg = (y4_2).toNatClampNeg + 1 from (by show (z23).toInt.toNat = (y4_2).toInt.toNat + 1; (first | have a0 := in_u i9a | (have a0 := i9a; unfold In at a0)); (first | have a1 := in_u i9 | (have a1 := i9; unfold In at a1)); (first | have a2 := in_u j4_1 | (have a2 := j4_1; unfold In at a2)); (first | have a3 := in_u i23 | (have a3 := i23; unfold In at a3)); have a4 := t_add e23 i9 (in_c 1 rfl) rfl; (first | have a5 := in_u ((in_c 1 rfl)) | (have a5 := (in_c 1 rfl); unfold In at a5)); have oc := oc_98_2; (first | exact zt_s (by omega) (by omega) | omega)))
              exact gg_w (by first | exact Nat.le_add_right _ _ | exact gw2 | exact gw3 | exact gwe rfl | exact gwf rfl | exact gwg rfl | exact gwh rfl | omega) (gg_f (gf_cons rfl (gf_cons rfl (gf_cons rfl gf_nil))) (ih4  y4_1 z23  (rl_w 0 160 l4 j4_1 (in_w 0 160 i23 rfl) rfl) (in_w 0 160 i23 rfl) l4 n4 (m_up mm4 (t_add e23 i9 (in_c 1 rfl) rfl) (in_w 1 1 (in_c 1 rfl) rfl))))
            · skip
              exact zn_ne c17 (in_c 0 rfl) rfl
          · skip
            refine g_iconst 1 26 (gd rfl) rfl rfl ?_
            refine g_goto 30 (gd rfl) rfl ?_
            refine g_ireturn (gd rfl) rfl (nb01 (in_w 0 1 (in_c 1 rfl) rfl)) (hp14 _ _ ?_)
            show GG _ _ _ _ _ _ _ _ [.int (Int32.ofInt 1)] _ _ _
            refine g_if_eq 20 23 (gd rfl) rfl rfl (fun c17 => ?_) (fun c17 => ?_)
            · skip
              exact zn_eq c17 (in_c 1 rfl) rfl
            · skip
              refine g_iinc 23 (gd rfl) rfl rfl (Nat.le_of_ble_eq_true rfl) (fun z20 e20 => ?_)
              have i20 := in_add 1 161 e20 j4_1 (in_c 1 rfl) rfl rfl
              refine g_iinc 26 (gd rfl) rfl rfl (Nat.le_of_ble_eq_true rfl) (fun z23 e23 => ?_)
              have i23 := in_add 1 160 e23 i9 (in_c 1 rfl) rfl rfl
              refine g_goto 4 (gd rfl) rfl ?_
              have l4 := rl_1 l4_1 (t_add e20 j4_1 (in_c 1 rfl) rfl) (in_c 1 rfl) (t_add e23 i9 (in_c 1 rfl) rfl) (in_c 1 rfl) rfl
              have n4 : ((z20).toInt = sm (fun p => ind ((ARE (gvC s) 0) p ≠ (ARE (gvC s) 1) p)) (z23).toNatClampNeg) := by exact mji_y g4_0 (by rw [(are_2 (show (y4_2).toNatClampNeg < 160 from (by show (y4_2).toInt.toNat < 160; (first | have a0 := in_u i9a | (have a0 := i9a; unfold In at a0)); (first | have a1 := in_u i9 | (have a1 := i9; unfold In at a1)); (first | have a2 := in_u j4_1 | (have a2 := j4_1; unfold In at a2)); (first | have a3 := in_u i23 | (have a3 := i23; unfold In at a3)); have a4 := t_add e23 i9 (in_c 1 rfl) rfl; (first | have a5 := in_u ((in_c 1 rfl)) | (have a5 := (in_c 1 rfl); unfold In at a5)); (first | have a6 := in_u i20 | (have a6 := i20; unfold In at a6)); have a7 := t_add e20 j4_1 (in_c 1 rfl) rfl; have oc := oc_98_2; (first | exact zt_l (by decide) (by omega) | omega))) (show z14x5 = (gvC s).2.1 (y4_2).toNatClampNeg from e14x5) (by (first | have a0 := in_u i9a | (have a0 := i9a; unfold In at a0)); (first | have a1 := in_u i9 | (have a1 := i9; unfold In at a1)); (first | have a2 := in_u j4_1 | (have a2 := j4_1; unfold In at a2)); (first | have a3 := in_u i23 | (have a3 := i23; unfold In at a3)); have a4 := t_add e23 i9 (in_c 1 rfl) rfl; (first | have a5 := in_u ((in_c 1 rfl)) | (have a5 := (in_c 1 rfl); unfold In at a5)); (first | have a6 := in_u i20 | (have a6 := i20; unfold In at a6)); have a7 := t_add e20 j4_1 (in_c 1 rfl) rfl; have oc := oc_98_2; omega) (show z14x21 = (gvC s).2.2.1 (y4_2).toNatClampNeg from e14x21)).1, (are_2 (show (y4_2).toNatClampNeg < 160 from (by show (y4_2).toInt.toNat < 160; (first | have a0 := in_u i9a | (have a0 := i9a; unfold In at a0)); (first | have a1 := in_u i9 | (have a1 := i9; unfold In at a1)); (first | have a2 := in_u j4_1 | (have a2 := j4_1; unfold In at a2)); (first | have a3 := in_u i23 | (have a3 := i23; unfold In at a3)); have a4 := t_add e23 i9 (in_c 1 rfl) rfl; (first | have a5 := in_u ((in_c 1 rfl)) | (have a5 := (in_c 1 rfl); unfold In at a5)); (first | have a6 := in_u i20 | (have a6 := i20; unfold In at a6)); have a7 := t_add e20 j4_1 (in_c 1 rfl) rfl; have oc := oc_98_2; (first | exact zt_l (by decide) (by omega) | omega))) (show z14x5 = (gvC s).2.1 (y4_2).toNatClampNeg from e14x5) (by (first | have a0 := in_u i9a | (have a0 := i9a; unfold In at a0)); (first | have a1 := in_u i9 | (have a1 := i9; unfold In at a1)); (first | have a2 := in_u j4_1 | (have a2 := j4_1; unfold In at a2)); (first | have a3 := in_u i23 | (have a3 := i23; unfold In at a3)); have a4 := t_add e23 i9 (in_c 1 rfl) rfl; (first | have a5 := in_u ((in_c 1 rfl)) | (have a5 := (in_c 1 rfl); unfold In at a5)); (first | have a6 := in_u i20 | (have a6 := i20; unfold In at a6)); have a7 := t_add e20 j4_1 (in_c 1 rfl) rfl; have oc := oc_98_2; omega) (show z14x21 = (gvC s).2.2.1 (y4_2).toNatClampNeg from e14x21)).2]; exact c14x22) (by (first | have a0 := in_u i9a | (have a0 := i9a; unfold In at a0)); (first | have a1 := in_u i9 | (have a1 := i9; unfold In at a1)); (first | have a2 := in_u j4_1 | (have a2 := j4_1; unfold In at a2)); (first | have a3 := in_u i23 | (have a3 := i23; unfold In at a3)); have a4 := t_add e23 i9 (in_c 1 rfl) rfl; (first | have a5 := in_u ((in_c 1 rfl)) | (have a5 := (in_c 1 rfl); unfold In at a5)); (first | have a6 := in_u i20 | (have a6 := i20; unfold In at a6)); have a7 := t_add e20 j4_1 (in_c 1 rfl) rfl; have oc := oc_98_2; omega) (show (z23).toNatClampNeg = (y4_2).toNatClampNeg + 1 from (by show (z23).toInt.toNat = (y4_2).toInt.toNat + 1; (first | have a0 := in_u i9a | (have a0 := i9a; unfold In at a0)); (first | have a1 := in_u i9 | (have a1 := i9; unfold In at a1)); (first | have a2 := in_u j4_1 | (have a2 := j4_1; unfold In at a2)); (first | have a3 := in_u i23 | (have a3 := i23; unfold In at a3)); have a4 := t_add e23 i9 (in_c 1 rfl) rfl; (first | have a5 := in_u ((in_c 1 rfl)) | (have a5 := (in_c 1 rfl); unfold In at a5)); (first | have a6 := in_u i20 | (have a6 := i20; unfold In at a6)); have a7 := t_add e20 j4_1 (in_c 1 rfl) rfl; have oc := oc_98_2; (first | exact zt_s (by omega) (by omega) | omega)))
              exact gg_w (by first | exact Nat.le_add_right _ _ | exact gw2 | exact gw3 | exact gwe rfl | exact gwf rfl | exact gwg rfl | exact gwh rfl | omega) (gg_f (gf_cons rfl (gf_cons rfl (gf_cons rfl gf_nil))) (ih4  z20 z23  (rl_w 0 160 l4 i20 (in_w 0 160 i23 rfl) rfl) (in_w 0 160 i23 rfl) l4 n4 (m_up mm4 (t_add e23 i9 (in_c 1 rfl) rfl) (in_w 1 1 (in_c 1 rfl) rfl))))
  refine g_enter2 (k := 98) (N := 145801) (by first | exact dq1 hd rfl | exact dq0 hd rfl | exact dq2 hd rfl | exact dq3 hd rfl | omega) rfl (Nat.le_of_ble_eq_true rfl) ?_
  refine g_iconst 0 1 (gd rfl) rfl rfl ?_
  refine g_istore_n 2 (gd rfl) rfl (Nat.le_of_ble_eq_true rfl) ?_
  refine g_iconst 0 3 (gd rfl) rfl rfl ?_
  refine g_istore_n 4 (gd rfl) rfl (Nat.le_of_ble_eq_true rfl) ?_
  have l4 := rl_in 0 (in_c 0 rfl) (in_c 0 rfl) rfl
  have n4 : (((Int32.ofInt 0)).toInt = sm (fun p => ind ((ARE (gvC s) 0) p ≠ (ARE (gvC s) 1) p)) ((Int32.ofInt 0)).toNatClampNeg) := by rfl
  exact gg_w (by first | exact Nat.le_of_ble_eq_true rfl | omega) (gg_f (gf_cons rfl (gf_cons rfl (gf_cons rfl gf_nil))) (ct4 161  (Int32.ofInt 0) (Int32.ofInt 0)  (rl_w 0 160 l4 (in_c 0 rfl) (in_w 0 160 (in_c 0 rfl) rfl) rfl) (in_w 0 160 (in_c 0 rfl) rfl) l4 n4 (m_in 161 (in_w 0 160 (in_c 0 rfl) rfl) rfl)))

theorem oc_98_32 : (Int32.ofInt (-1)).toInt = (-1) ∧ (Int32.ofInt 0).toInt = 0 ∧ (Int32.ofInt 1).toInt = 1 := ⟨rfl, rfl, rfl⟩
/-- GraphHouse$Graph.joints -/
theorem f_98_32 {Z : AmZ} {A : Nat → Nat} {s : GS} {ex : va_W} {d : Nat} {X : AmX}  (hd : 3 ≤ d) (hI : Inv s) (q_0 : TQD s) : GC Z d 98 [.ref (A 32)] (WW Z A s ++ ex) 0 0 (fun v u => ∃ z : Int32, v = some (.int z) ∧ u = WW Z A s ++ ex ∧ In z 0 160 ∧ (((z).toInt = MJ (ARE (gvD s) 0) (ARE (gvD s) 1)))) X := by
  intro post xp hP hX
  obtain ⟨u_32_3, e_32_3⟩ : ∃ w, w = s.2.2.1 32 3 := ⟨_, rfl⟩
  have ro_32_3 := inv_F hI 0 160 rfl e_32_3
  have ct4 : ∀ (k4 : Nat) (y4_1 : Int32) (y4_2 : Int32), (In y4_1 0 160) → (In y4_2 0 160) → ((y4_1).toInt ≤ (y4_2).toInt + 0) → (((y4_1).toInt = sm (fun p => ind ((ARE (gvD s) 0) p ≠ (ARE (gvD s) 1) p)) (y4_2).toNatClampNeg)) → 160 - (y4_2).toInt < (k4 : Int) → GG Z (d - 1) 98 post (gx xp) (1 + k4 * 900) 4 (fun j => xlook j [(0, .ref (A 32)), (1, .int y4_1), (2, .int y4_2)]) [] (WW Z A s ++ ex) 0 0 := by
    intro k4
    induction k4 with
    | zero => intro y4_1 y4_2 j4_1 j4_2 l4_1 g4_0 mm4; exact m_no mm4 j4_2 rfl
    | succ k4 ih4 =>
      intro y4_1 y4_2 j4_1 j4_2 l4_1 g4_0 mm4
      refine gg_w (M := 1 + k4 * 900 + 900) gws ?_
      refine g_iload_n 5 (gd rfl) rfl rfl ?_
      refine g_aload_n 6 (gd rfl) rfl rfl ?_
      refine g_getI 9 (gd rfl) rfl rfl rfl (fun z6 e6 => ?_)
      have q6 : u_32_3 = z6 := (e_32_3).trans e6.symm
      subst q6
      refine g_cmp_ge 12 29 (gd rfl) rfl rfl (fun c9 => ?_) (fun c9 => ?_)
      · skip
        refine g_iload_n 30 (gd rfl) rfl rfl ?_
        have n30 : ((y4_1).toInt = MJ (ARE (gvD s) 0) (ARE (gvD s) 1)) := by exact mji_e g4_0 (by show (y4_2).toInt.toNat ≤ 160; (first | have a0 := in_u ro_32_3 | (have a0 := ro_32_3; unfold In at a0)); (first | have a1 := in_u j4_2 | (have a1 := j4_2; unfold In at a1)); (first | have a2 := in_u j4_1 | (have a2 := j4_1; unfold In at a2)); have oc := oc_98_32; (first | exact zt_u (by omega) | omega)) (fun p a c => are_q (Classical.byContradiction fun z => by have h9 := q_0 p c (fun y => z (by rw [are_f c rfl]; exact y)); rw [← e_32_3] at h9; have h8 : (y4_2).toNatClampNeg = (y4_2).toInt.toNat := rfl; (first | have a0 := in_u ro_32_3 | (have a0 := ro_32_3; unfold In at a0)); (first | have a1 := in_u j4_2 | (have a1 := j4_2; unfold In at a1)); (first | have a2 := in_u j4_1 | (have a2 := j4_1; unfold In at a2)); have oc := oc_98_32; omega) c)
        exact g_ireturn (gd rfl) rfl rfl (hP _ _ ⟨y4_1, rfl, rfl, in_w 0 160 j4_1 rfl, n30⟩)
      · skip
        have i9 := r_lt1 0 159 c9 j4_2 ro_32_3 rfl
        have i9a := r_lt2 1 160 c9 j4_2 ro_32_3 rfl
        refine g_aload_n 13 (gd rfl) rfl rfl ?_
        refine g_iload_n 14 (gd rfl) rfl rfl ?_
        refine g_callv (X := _) (As := [.int y4_2]) (r := []) (b := A 32) (q := 32) 17 (gd rfl) rfl rfl rfl rfl rfl (ww_o rfl) (Nat.le_of_ble_eq_true rfl) (mc := 0) (ms := 0) (Nat.zero_le _) (Nat.zero_le _) (P := fun v u => _) ?_ (fun e u h => h) (fun v u h => h)
        intro po14 xx14 hp14 hx14
        refine g_enter2 (k := 97) (N := 300) (by first | exact dq1 hd rfl | exact dq0 hd rfl | exact dq2 hd rfl | exact dq3 hd rfl | omega) rfl (Nat.le_of_ble_eq_true rfl) ?_
        refine g_aload_n 1 (gd rfl) rfl rfl ?_
        refine g_getA (q2 := 34) 4 (gd rfl) rfl rfl rfl rfl ?_
        refine g_iload_n 5 (gd rfl) rfl rfl ?_
        refine g_iaload 6 (gd rfl) rfl (n := 160) rfl (in_ix i9 rfl) (fun z14x5 e14x5 => ?_)
        have i14x5 := inv_I hI (n := 160) (t := 0) (-1) 31 rfl (in_ix i9 rfl) rfl e14x5
        refine g_iconst (-1) 7 (gd rfl) rfl rfl ?_
        refine g_cmp_eq 10 29 (gd rfl) rfl rfl (fun c14x7 => ?_) (fun c14x7 => ?_)
        · skip
          have i14x7 := r_eq1 (-1) (-1) c14x7 i14x5 (in_c (-1) rfl) rfl
          refine g_iconst 0 30 (gd rfl) rfl rfl ?_
          refine g_ireturn (gd rfl) rfl (nb01 (in_w 0 1 (in_c 0 rfl) rfl)) (hp14 _ _ ?_)
          show GG _ _ _ _ _ _ _ _ [.int (Int32.ofInt 0)] _ _ _
          refine g_if_eq 20 23 (gd rfl) rfl rfl (fun c17 => ?_) (fun c17 => ?_)
          · skip
            refine g_iinc 26 (gd rfl) rfl rfl (Nat.le_of_ble_eq_true rfl) (fun z23 e23 => ?_)
            have i23 := in_add 1 160 e23 i9 (in_c 1 rfl) rfl rfl
            refine g_goto 4 (gd rfl) rfl ?_
            have l4 := rl_0 l4_1 (t_add e23 i9 (in_c 1 rfl) rfl) (in_w 0 1 (in_c 1 rfl) rfl)
            have n4 : ((y4_1).toInt = sm (fun p => ind ((ARE (gvD s) 0) p ≠ (ARE (gvD s) 1) p)) (z23).toNatClampNeg) := by exact mji_n g4_0 (are_0 (show z14x5 = (gvD s).2.1 (y4_2).toNatClampNeg from e14x5) (by (first | have a0 := in_u i9a | (have a0 := i9a; unfold In at a0)); (first | have a1 := in_u i9 | (have a1 := i9; unfold In at a1)); (first | have a2 := in_u j4_1 | (have a2 := j4_1; unfold In at a2)); (first | have a3 := in_u i23 | (have a3 := i23; unfold In at a3)); have a4 := t_add e23 i9 (in_c 1 rfl) rfl; (first | have a5 := in_u ((in_c 1 rfl)) | (have a5 := (in_c 1 rfl); unfold In at a5)); have oc := oc_98_32; omega)) (show (z23).toNatClampNeg = (y4_2).toNatClampNeg + 1 from (by show (z23).toInt.toNat = (y4_2).toInt.toNat + 1; (first | have a0 := in_u i9a | (have a0 := i9a; unfold In at a0)); (first | have a1 := in_u i9 | (have a1 := i9; unfold In at a1)); (first | have a2 := in_u j4_1 | (have a2 := j4_1; unfold In at a2)); (first | have a3 := in_u i23 | (have a3 := i23; unfold In at a3)); have a4 := t_add e23 i9 (in_c 1 rfl) rfl; (first | have a5 := in_u ((in_c 1 rfl)) | (have a5 := (in_c 1 rfl); unfold In at a5)); have oc := oc_98_32; (first | exact zt_s (by omega) (by omega) | omega)))
            exact gg_w (by first | exact Nat.le_add_right _ _ | exact gw2 | exact gw3 | exact gwe rfl | exact gwf rfl | exact gwg rfl | exact gwh rfl | omega) (gg_f (gf_cons rfl (gf_cons rfl (gf_cons rfl gf_nil))) (ih4  y4_1 z23  (rl_w 0 160 l4 j4_1 (in_w 0 160 i23 rfl) rfl) (in_w 0 160 i23 rfl) l4 n4 (m_up mm4 (t_add e23 i9 (in_c 1 rfl) rfl) (in_w 1 1 (in_c 1 rfl) rfl))))
          · skip
            exact zn_ne c17 (in_c 0 rfl) rfl
        · skip
          have i14x7 := r_ne1 0 31 c14x7 i14x5 (in_c (-1) rfl) rfl
          refine g_aload_n 11 (gd rfl) rfl rfl ?_
          refine g_getA (q2 := 34) 14 (gd rfl) rfl rfl rfl rfl ?_
          refine g_iload_n 15 (gd rfl) rfl rfl ?_
          refine g_iaload 16 (gd rfl) rfl (n := 160) rfl (in_ix i9 rfl) (fun z14x15 e14x15 => ?_)
          have q14x15 : z14x5 = z14x15 := (e14x5).trans e14x15.symm
          subst q14x15
          refine g_aload_n 17 (gd rfl) rfl rfl ?_
          refine g_getA (q2 := 35) 20 (gd rfl) rfl rfl rfl rfl ?_
          refine g_iload_n 21 (gd rfl) rfl rfl ?_
          refine g_iaload 22 (gd rfl) rfl (n := 160) rfl (in_ix i9 rfl) (fun z14x21 e14x21 => ?_)
          have i14x21 := inv_I hI (n := 160) (t := 0) 0 31 rfl (in_ix i9 rfl) rfl e14x21
          refine g_cmp_eq 25 29 (gd rfl) rfl rfl (fun c14x22 => ?_) (fun c14x22 => ?_)
          · skip
            refine g_iconst 0 30 (gd rfl) rfl rfl ?_
            refine g_ireturn (gd rfl) rfl (nb01 (in_w 0 1 (in_c 0 rfl) rfl)) (hp14 _ _ ?_)
            show GG _ _ _ _ _ _ _ _ [.int (Int32.ofInt 0)] _ _ _
            refine g_if_eq 20 23 (gd rfl) rfl rfl (fun c17 => ?_) (fun c17 => ?_)
            · skip
              refine g_iinc 26 (gd rfl) rfl rfl (Nat.le_of_ble_eq_true rfl) (fun z23 e23 => ?_)
              have i23 := in_add 1 160 e23 i9 (in_c 1 rfl) rfl rfl
              refine g_goto 4 (gd rfl) rfl ?_
              have l4 := rl_0 l4_1 (t_add e23 i9 (in_c 1 rfl) rfl) (in_w 0 1 (in_c 1 rfl) rfl)
              have n4 : ((y4_1).toInt = sm (fun p => ind ((ARE (gvD s) 0) p ≠ (ARE (gvD s) 1) p)) (z23).toNatClampNeg) := by exact mji_n g4_0 ((are_2 (show (y4_2).toNatClampNeg < 160 from (by show (y4_2).toInt.toNat < 160; (first | have a0 := in_u i9a | (have a0 := i9a; unfold In at a0)); (first | have a1 := in_u i9 | (have a1 := i9; unfold In at a1)); (first | have a2 := in_u j4_1 | (have a2 := j4_1; unfold In at a2)); (first | have a3 := in_u i23 | (have a3 := i23; unfold In at a3)); have a4 := t_add e23 i9 (in_c 1 rfl) rfl; (first | have a5 := in_u ((in_c 1 rfl)) | (have a5 := (in_c 1 rfl); unfold In at a5)); have oc := oc_98_32; (first | exact zt_l (by decide) (by omega) | omega))) (show z14x5 = (gvD s).2.1 (y4_2).toNatClampNeg from e14x5) (by (first | have a0 := in_u i9a | (have a0 := i9a; unfold In at a0)); (first | have a1 := in_u i9 | (have a1 := i9; unfold In at a1)); (first | have a2 := in_u j4_1 | (have a2 := j4_1; unfold In at a2)); (first | have a3 := in_u i23 | (have a3 := i23; unfold In at a3)); have a4 := t_add e23 i9 (in_c 1 rfl) rfl; (first | have a5 := in_u ((in_c 1 rfl)) | (have a5 := (in_c 1 rfl); unfold In at a5)); have oc := oc_98_32; omega) (show z14x21 = (gvD s).2.2.1 (y4_2).toNatClampNeg from e14x21)).1.trans ((show (z14x5).toInt = (z14x21).toInt from c14x22).trans (are_2 (show (y4_2).toNatClampNeg < 160 from (by show (y4_2).toInt.toNat < 160; (first | have a0 := in_u i9a | (have a0 := i9a; unfold In at a0)); (first | have a1 := in_u i9 | (have a1 := i9; unfold In at a1)); (first | have a2 := in_u j4_1 | (have a2 := j4_1; unfold In at a2)); (first | have a3 := in_u i23 | (have a3 := i23; unfold In at a3)); have a4 := t_add e23 i9 (in_c 1 rfl) rfl; (first | have a5 := in_u ((in_c 1 rfl)) | (have a5 := (in_c 1 rfl); unfold In at a5)); have oc := oc_98_32; (first | exact zt_l (by decide) (by omega) | omega))) (show z14x5 = (gvD s).2.1 (y4_2).toNatClampNeg from e14x5) (by (first | have a0 := in_u i9a | (have a0 := i9a; unfold In at a0)); (first | have a1 := in_u i9 | (have a1 := i9; unfold In at a1)); (first | have a2 := in_u j4_1 | (have a2 := j4_1; unfold In at a2)); (first | have a3 := in_u i23 | (have a3 := i23; unfold In at a3)); have a4 := t_add e23 i9 (in_c 1 rfl) rfl; (first | have a5 := in_u ((in_c 1 rfl)) | (have a5 := (in_c 1 rfl); unfold In at a5)); have oc := oc_98_32; omega) (show z14x21 = (gvD s).2.2.1 (y4_2).toNatClampNeg from e14x21)).2.symm)) (show (z23).toNatClampNeg = (y4_2).toNatClampNeg + 1 from (by show (z23).toInt.toNat = (y4_2).toInt.toNat + 1; (first | have a0 := in_u i9a | (have a0 := i9a; unfold In at a0)); (first | have a1 := in_u i9 | (have a1 := i9; unfold In at a1)); (first | have a2 := in_u j4_1 | (have a2 := j4_1; unfold In at a2)); (first | have a3 := in_u i23 | (have a3 := i23; unfold In at a3)); have a4 := t_add e23 i9 (in_c 1 rfl) rfl; (first | have a5 := in_u ((in_c 1 rfl)) | (have a5 := (in_c 1 rfl); unfold In at a5)); have oc := oc_98_32; (first | exact zt_s (by omega) (by omega) | omega)))
              exact gg_w (by first | exact Nat.le_add_right _ _ | exact gw2 | exact gw3 | exact gwe rfl | exact gwf rfl | exact gwg rfl | exact gwh rfl | omega) (gg_f (gf_cons rfl (gf_cons rfl (gf_cons rfl gf_nil))) (ih4  y4_1 z23  (rl_w 0 160 l4 j4_1 (in_w 0 160 i23 rfl) rfl) (in_w 0 160 i23 rfl) l4 n4 (m_up mm4 (t_add e23 i9 (in_c 1 rfl) rfl) (in_w 1 1 (in_c 1 rfl) rfl))))
            · skip
              exact zn_ne c17 (in_c 0 rfl) rfl
          · skip
            refine g_iconst 1 26 (gd rfl) rfl rfl ?_
            refine g_goto 30 (gd rfl) rfl ?_
            refine g_ireturn (gd rfl) rfl (nb01 (in_w 0 1 (in_c 1 rfl) rfl)) (hp14 _ _ ?_)
            show GG _ _ _ _ _ _ _ _ [.int (Int32.ofInt 1)] _ _ _
            refine g_if_eq 20 23 (gd rfl) rfl rfl (fun c17 => ?_) (fun c17 => ?_)
            · skip
              exact zn_eq c17 (in_c 1 rfl) rfl
            · skip
              refine g_iinc 23 (gd rfl) rfl rfl (Nat.le_of_ble_eq_true rfl) (fun z20 e20 => ?_)
              have i20 := in_add 1 161 e20 j4_1 (in_c 1 rfl) rfl rfl
              refine g_iinc 26 (gd rfl) rfl rfl (Nat.le_of_ble_eq_true rfl) (fun z23 e23 => ?_)
              have i23 := in_add 1 160 e23 i9 (in_c 1 rfl) rfl rfl
              refine g_goto 4 (gd rfl) rfl ?_
              have l4 := rl_1 l4_1 (t_add e20 j4_1 (in_c 1 rfl) rfl) (in_c 1 rfl) (t_add e23 i9 (in_c 1 rfl) rfl) (in_c 1 rfl) rfl
              have n4 : ((z20).toInt = sm (fun p => ind ((ARE (gvD s) 0) p ≠ (ARE (gvD s) 1) p)) (z23).toNatClampNeg) := by exact mji_y g4_0 (by rw [(are_2 (show (y4_2).toNatClampNeg < 160 from (by show (y4_2).toInt.toNat < 160; (first | have a0 := in_u i9a | (have a0 := i9a; unfold In at a0)); (first | have a1 := in_u i9 | (have a1 := i9; unfold In at a1)); (first | have a2 := in_u j4_1 | (have a2 := j4_1; unfold In at a2)); (first | have a3 := in_u i23 | (have a3 := i23; unfold In at a3)); have a4 := t_add e23 i9 (in_c 1 rfl) rfl; (first | have a5 := in_u ((in_c 1 rfl)) | (have a5 := (in_c 1 rfl); unfold In at a5)); (first | have a6 := in_u i20 | (have a6 := i20; unfold In at a6)); have a7 := t_add e20 j4_1 (in_c 1 rfl) rfl; have oc := oc_98_32; (first | exact zt_l (by decide) (by omega) | omega))) (show z14x5 = (gvD s).2.1 (y4_2).toNatClampNeg from e14x5) (by (first | have a0 := in_u i9a | (have a0 := i9a; unfold In at a0)); (first | have a1 := in_u i9 | (have a1 := i9; unfold In at a1)); (first | have a2 := in_u j4_1 | (have a2 := j4_1; unfold In at a2)); (first | have a3 := in_u i23 | (have a3 := i23; unfold In at a3)); have a4 := t_add e23 i9 (in_c 1 rfl) rfl; (first | have a5 := in_u ((in_c 1 rfl)) | (have a5 := (in_c 1 rfl); unfold In at a5)); (first | have a6 := in_u i20 | (have a6 := i20; unfold In at a6)); have a7 := t_add e20 j4_1 (in_c 1 rfl) rfl; have oc := oc_98_32; omega) (show z14x21 = (gvD s).2.2.1 (y4_2).toNatClampNeg from e14x21)).1, (are_2 (show (y4_2).toNatClampNeg < 160 from (by show (y4_2).toInt.toNat < 160; (first | have a0 := in_u i9a | (have a0 := i9a; unfold In at a0)); (first | have a1 := in_u i9 | (have a1 := i9; unfold In at a1)); (first | have a2 := in_u j4_1 | (have a2 := j4_1; unfold In at a2)); (first | have a3 := in_u i23 | (have a3 := i23; unfold In at a3)); have a4 := t_add e23 i9 (in_c 1 rfl) rfl; (first | have a5 := in_u ((in_c 1 rfl)) | (have a5 := (in_c 1 rfl); unfold In at a5)); (first | have a6 := in_u i20 | (have a6 := i20; unfold In at a6)); have a7 := t_add e20 j4_1 (in_c 1 rfl) rfl; have oc := oc_98_32; (first | exact zt_l (by decide) (by omega) | omega))) (show z14x5 = (gvD s).2.1 (y4_2).toNatClampNeg from e14x5) (by (first | have a0 := in_u i9a | (have a0 := i9a; unfold In at a0)); (first | have a1 := in_u i9 | (have a1 := i9; unfold In at a1)); (first | have a2 := in_u j4_1 | (have a2 := j4_1; unfold In at a2)); (first | have a3 := in_u i23 | (have a3 := i23; unfold In at a3)); have a4 := t_add e23 i9 (in_c 1 rfl) rfl; (first | have a5 := in_u ((in_c 1 rfl)) | (have a5 := (in_c 1 rfl); unfold In at a5)); (first | have a6 := in_u i20 | (have a6 := i20; unfold In at a6)); have a7 := t_add e20 j4_1 (in_c 1 rfl) rfl; have oc := oc_98_32; omega) (show z14x21 = (gvD s).2.2.1 (y4_2).toNatClampNeg from e14x21)).2]; exact c14x22) (by (first | have a0 := in_u i9a | (have a0 := i9a; unfold In at a0)); (first | have a1 := in_u i9 | (have a1 := i9; unfold In at a1)); (first | have a2 := in_u j4_1 | (have a2 := j4_1; unfold In at a2)); (first | have a3 := in_u i23 | (have a3 := i23; unfold In at a3)); have a4 := t_add e23 i9 (in_c 1 rfl) rfl; (first | have a5 := in_u ((in_c 1 rfl)) | (have a5 := (in_c 1 rfl); unfold In at a5)); (first | have a6 := in_u i20 | (have a6 := i20; unfold In at a6)); have a7 := t_add e20 j4_1 (in_c 1 rfl) rfl; have oc := oc_98_32; omega) (show (z23).toNatClampNeg = (y4_2).toNatClampNeg + 1 from (by show (z23).toInt.toNat = (y4_2).toInt.toNat + 1; (first | have a0 := in_u i9a | (have a0 := i9a; unfold In at a0)); (first | have a1 := in_u i9 | (have a1 := i9; unfold In at a1)); (first | have a2 := in_u j4_1 | (have a2 := j4_1; unfold In at a2)); (first | have a3 := in_u i23 | (have a3 := i23; unfold In at a3)); have a4 := t_add e23 i9 (in_c 1 rfl) rfl; (first | have a5 := in_u ((in_c 1 rfl)) | (have a5 := (in_c 1 rfl); unfold In at a5)); (first | have a6 := in_u i20 | (have a6 := i20; unfold In at a6)); have a7 := t_add e20 j4_1 (in_c 1 rfl) rfl; have oc := oc_98_32; (first | exact zt_s (by omega) (by omega) | omega)))
              exact gg_w (by first | exact Nat.le_add_right _ _ | exact gw2 | exact gw3 | exact gwe rfl | exact gwf rfl | exact gwg rfl | exact gwh rfl | omega) (gg_f (gf_cons rfl (gf_cons rfl (gf_cons rfl gf_nil))) (ih4  z20 z23  (rl_w 0 160 l4 i20 (in_w 0 160 i23 rfl) rfl) (in_w 0 160 i23 rfl) l4 n4 (m_up mm4 (t_add e23 i9 (in_c 1 rfl) rfl) (in_w 1 1 (in_c 1 rfl) rfl))))
  refine g_enter2 (k := 98) (N := 145801) (by first | exact dq1 hd rfl | exact dq0 hd rfl | exact dq2 hd rfl | exact dq3 hd rfl | omega) rfl (Nat.le_of_ble_eq_true rfl) ?_
  refine g_iconst 0 1 (gd rfl) rfl rfl ?_
  refine g_istore_n 2 (gd rfl) rfl (Nat.le_of_ble_eq_true rfl) ?_
  refine g_iconst 0 3 (gd rfl) rfl rfl ?_
  refine g_istore_n 4 (gd rfl) rfl (Nat.le_of_ble_eq_true rfl) ?_
  have l4 := rl_in 0 (in_c 0 rfl) (in_c 0 rfl) rfl
  have n4 : (((Int32.ofInt 0)).toInt = sm (fun p => ind ((ARE (gvD s) 0) p ≠ (ARE (gvD s) 1) p)) ((Int32.ofInt 0)).toNatClampNeg) := by rfl
  exact gg_w (by first | exact Nat.le_of_ble_eq_true rfl | omega) (gg_f (gf_cons rfl (gf_cons rfl (gf_cons rfl gf_nil))) (ct4 161  (Int32.ofInt 0) (Int32.ofInt 0)  (rl_w 0 160 l4 (in_c 0 rfl) (in_w 0 160 (in_c 0 rfl) rfl) rfl) (in_w 0 160 (in_c 0 rfl) rfl) l4 n4 (m_in 161 (in_w 0 160 (in_c 0 rfl) rfl) rfl)))

theorem oc_99_2_91 : (Int32.ofInt (-1)).toInt = (-1) ∧ (Int32.ofInt 0).toInt = 0 ∧ (Int32.ofInt 1).toInt = 1 := ⟨rfl, rfl, rfl⟩
/-- GraphHouse$Graph.countJoints -/
theorem f_99_2_91 {Z : AmZ} {A : Nat → Nat} {s : GS} {ex : va_W} {d : Nat} {X : AmX}  (hd : 3 ≤ d) (hI : Inv s) (q_0 : TQ s) : GC Z d 99 [.ref (A 2), .ref (A 91)] (WW Z A s ++ ex) 0 0 (fun v u => ∃ t : GS, Inv t ∧ Fr fm_99_2_91 s t ∧ v = none ∧ u = WW Z A t ++ ex ∧ ((∀ u : Nat, u < 32 → ((t).1 91 u).toInt = JD (ARE (gvC s) 0) (ARE (gvC s) 1) (Int32.ofInt (-1)) u))) X := by
  intro post xp hP hX
  obtain ⟨u_2_3, e_2_3⟩ : ∃ w, w = s.2.2.1 2 3 := ⟨_, rfl⟩
  have ro_2_3 := inv_F hI 0 160 rfl e_2_3
  have ct7 : ∀ (k7 : Nat) (sc7 : GS) (y7_2 : Int32), Inv sc7 → Fr fm_99_2_91 s sc7 → (In y7_2 0 160) → (CJI (ARE (gvC s) 0) (ARE (gvC s) 1) (y7_2).toNatClampNeg ((sc7).1 91)) → 160 - (y7_2).toInt < (k7 : Int) → GG Z (d - 1) 99 post (gx xp) (1 + k7 * 900) 7 (fun j => xlook j [(0, .ref (A 2)), (1, .ref (A 91)), (2, .int y7_2)]) [] (WW Z A sc7 ++ ex) 0 0 := by
    intro k7
    induction k7 with
    | zero => intro sc7 y7_2 hIc7 hFc7 j7_2 g7_0 mm7; exact m_no mm7 j7_2 rfl
    | succ k7 ih7 =>
      intro sc7 y7_2 hIc7 hFc7 j7_2 g7_0 mm7
      refine gg_w (M := 1 + k7 * 900 + 900) gws ?_
      refine g_iload_n 8 (gd rfl) rfl rfl ?_
      refine g_aload_n 9 (gd rfl) rfl rfl ?_
      refine g_getI 12 (gd rfl) rfl rfl rfl (fun z9 e9 => ?_)
      have q9 : u_2_3 = z9 := (fr_F e_2_3 hFc7 rfl).trans e9.symm
      subst q9
      refine g_cmp_ge 15 53 (gd rfl) rfl rfl (fun c12 => ?_) (fun c12 => ?_)
      · skip
        have n53 : (∀ u : Nat, u < 32 → ((sc7).1 91 u).toInt = JD (ARE (gvC s) 0) (ARE (gvC s) 1) (Int32.ofInt (-1)) u) := by exact cji_e g7_0 (by show (y7_2).toInt.toNat ≤ 160; (first | have a0 := in_u ro_2_3 | (have a0 := ro_2_3; unfold In at a0)); (first | have a1 := in_u j7_2 | (have a1 := j7_2; unfold In at a1)); have oc := oc_99_2_91; (first | exact zt_u (by omega) | omega)) (fun p a c => are_q (Classical.byContradiction fun z => by have h9 := q_0 p c (fun y => z (by rw [are_f c rfl]; exact y)); rw [← e_2_3] at h9; have h8 : (y7_2).toNatClampNeg = (y7_2).toInt.toNat := rfl; (first | have a0 := in_u ro_2_3 | (have a0 := ro_2_3; unfold In at a0)); (first | have a1 := in_u j7_2 | (have a1 := j7_2; unfold In at a1)); have oc := oc_99_2_91; omega) c)
        exact g_return (gd rfl) rfl (hP _ _ ⟨sc7, hIc7, hFc7, rfl, rfl, n53⟩)
      · skip
        have i12 := r_lt1 0 159 c12 j7_2 ro_2_3 rfl
        have i12a := r_lt2 1 160 c12 j7_2 ro_2_3 rfl
        refine g_aload_n 16 (gd rfl) rfl rfl ?_
        refine g_iload_n 17 (gd rfl) rfl rfl ?_
        refine g_callv (X := _) (As := [.int y7_2]) (r := []) (b := A 2) (q := 2) 20 (gd rfl) rfl rfl rfl rfl rfl (ww_o rfl) (Nat.le_of_ble_eq_true rfl) (mc := 0) (ms := 0) (Nat.zero_le _) (Nat.zero_le _) (P := fun v u => _) ?_ (fun e u h => h) (fun v u h => h)
        intro po17 xx17 hp17 hx17
        refine g_enter2 (k := 97) (N := 300) (by first | exact dq1 hd rfl | exact dq0 hd rfl | exact dq2 hd rfl | exact dq3 hd rfl | omega) rfl (Nat.le_of_ble_eq_true rfl) ?_
        refine g_aload_n 1 (gd rfl) rfl rfl ?_
        refine g_getA (q2 := 4) 4 (gd rfl) rfl rfl rfl rfl ?_
        refine g_iload_n 5 (gd rfl) rfl rfl ?_
        refine g_iaload 6 (gd rfl) rfl (n := 160) rfl (in_ix i12 rfl) (fun z17x5 e17x5 => ?_)
        have i17x5 := inv_I hIc7 (n := 160) (t := 0) (-1) 31 rfl (in_ix i12 rfl) rfl e17x5
        refine g_iconst (-1) 7 (gd rfl) rfl rfl ?_
        refine g_cmp_eq 10 29 (gd rfl) rfl rfl (fun c17x7 => ?_) (fun c17x7 => ?_)
        · skip
          have i17x7 := r_eq1 (-1) (-1) c17x7 i17x5 (in_c (-1) rfl) rfl
          refine g_iconst 0 30 (gd rfl) rfl rfl ?_
          refine g_ireturn (gd rfl) rfl (nb01 (in_w 0 1 (in_c 0 rfl) rfl)) (hp17 _ _ ?_)
          show GG _ _ _ _ _ _ _ _ [.int (Int32.ofInt 0)] _ _ _
          refine g_if_eq 23 47 (gd rfl) rfl rfl (fun c20 => ?_) (fun c20 => ?_)
          · skip
            refine g_iinc 50 (gd rfl) rfl rfl (Nat.le_of_ble_eq_true rfl) (fun z47 e47 => ?_)
            have i47 := in_add 1 160 e47 i12 (in_c 1 rfl) rfl rfl
            refine g_goto 7 (gd rfl) rfl ?_
            have n7 : CJI (ARE (gvC s) 0) (ARE (gvC s) 1) (z47).toNatClampNeg ((sc7).1 91) := by rw [show (z47).toNatClampNeg = (y7_2).toNatClampNeg + 1 from (by show (z47).toInt.toNat = (y7_2).toInt.toNat + 1; (first | have a0 := in_u i12a | (have a0 := i12a; unfold In at a0)); (first | have a1 := in_u i12 | (have a1 := i12; unfold In at a1)); (first | have a2 := in_u i47 | (have a2 := i47; unfold In at a2)); have a3 := t_add e47 i12 (in_c 1 rfl) rfl; (first | have a4 := in_u ((in_c 1 rfl)) | (have a4 := (in_c 1 rfl); unfold In at a4)); have oc := oc_99_2_91; (first | exact zt_s (by omega) (by omega) | omega))]; exact cji_n g7_0 (are_0 (show z17x5 = (gvC s).2.1 (y7_2).toNatClampNeg from e17x5.trans (congrFun (hFc7.1 4 rfl) _)) (by (first | have a0 := in_u i12a | (have a0 := i12a; unfold In at a0)); (first | have a1 := in_u i12 | (have a1 := i12; unfold In at a1)); (first | have a2 := in_u i47 | (have a2 := i47; unfold In at a2)); have a3 := t_add e47 i12 (in_c 1 rfl) rfl; (first | have a4 := in_u ((in_c 1 rfl)) | (have a4 := (in_c 1 rfl); unfold In at a4)); have oc := oc_99_2_91; omega))
            exact gg_w (by first | exact Nat.le_add_right _ _ | exact gw2 | exact gw3 | exact gwe rfl | exact gwf rfl | exact gwg rfl | exact gwh rfl | omega) (gg_f (gf_cons rfl (gf_cons rfl (gf_cons rfl gf_nil))) (ih7 sc7 z47 hIc7 hFc7 (in_w 0 160 i47 rfl) n7 (m_up mm7 (t_add e47 i12 (in_c 1 rfl) rfl) (in_w 1 1 (in_c 1 rfl) rfl))))
          · skip
            exact zn_ne c20 (in_c 0 rfl) rfl
        · skip
          have i17x7 := r_ne1 0 31 c17x7 i17x5 (in_c (-1) rfl) rfl
          refine g_aload_n 11 (gd rfl) rfl rfl ?_
          refine g_getA (q2 := 4) 14 (gd rfl) rfl rfl rfl rfl ?_
          refine g_iload_n 15 (gd rfl) rfl rfl ?_
          refine g_iaload 16 (gd rfl) rfl (n := 160) rfl (in_ix i12 rfl) (fun z17x15 e17x15 => ?_)
          have q17x15 : z17x5 = z17x15 := (e17x5).trans e17x15.symm
          subst q17x15
          refine g_aload_n 17 (gd rfl) rfl rfl ?_
          refine g_getA (q2 := 5) 20 (gd rfl) rfl rfl rfl rfl ?_
          refine g_iload_n 21 (gd rfl) rfl rfl ?_
          refine g_iaload 22 (gd rfl) rfl (n := 160) rfl (in_ix i12 rfl) (fun z17x21 e17x21 => ?_)
          have i17x21 := inv_I hIc7 (n := 160) (t := 0) 0 31 rfl (in_ix i12 rfl) rfl e17x21
          refine g_cmp_eq 25 29 (gd rfl) rfl rfl (fun c17x22 => ?_) (fun c17x22 => ?_)
          · skip
            refine g_iconst 0 30 (gd rfl) rfl rfl ?_
            refine g_ireturn (gd rfl) rfl (nb01 (in_w 0 1 (in_c 0 rfl) rfl)) (hp17 _ _ ?_)
            show GG _ _ _ _ _ _ _ _ [.int (Int32.ofInt 0)] _ _ _
            refine g_if_eq 23 47 (gd rfl) rfl rfl (fun c20 => ?_) (fun c20 => ?_)
            · skip
              refine g_iinc 50 (gd rfl) rfl rfl (Nat.le_of_ble_eq_true rfl) (fun z47 e47 => ?_)
              have i47 := in_add 1 160 e47 i12 (in_c 1 rfl) rfl rfl
              refine g_goto 7 (gd rfl) rfl ?_
              have n7 : CJI (ARE (gvC s) 0) (ARE (gvC s) 1) (z47).toNatClampNeg ((sc7).1 91) := by rw [show (z47).toNatClampNeg = (y7_2).toNatClampNeg + 1 from (by show (z47).toInt.toNat = (y7_2).toInt.toNat + 1; (first | have a0 := in_u i12a | (have a0 := i12a; unfold In at a0)); (first | have a1 := in_u i12 | (have a1 := i12; unfold In at a1)); (first | have a2 := in_u i47 | (have a2 := i47; unfold In at a2)); have a3 := t_add e47 i12 (in_c 1 rfl) rfl; (first | have a4 := in_u ((in_c 1 rfl)) | (have a4 := (in_c 1 rfl); unfold In at a4)); have oc := oc_99_2_91; (first | exact zt_s (by omega) (by omega) | omega))]; exact cji_n g7_0 ((are_2 (show (y7_2).toNatClampNeg < 160 from (by show (y7_2).toInt.toNat < 160; (first | have a0 := in_u i12a | (have a0 := i12a; unfold In at a0)); (first | have a1 := in_u i12 | (have a1 := i12; unfold In at a1)); (first | have a2 := in_u i47 | (have a2 := i47; unfold In at a2)); have a3 := t_add e47 i12 (in_c 1 rfl) rfl; (first | have a4 := in_u ((in_c 1 rfl)) | (have a4 := (in_c 1 rfl); unfold In at a4)); have oc := oc_99_2_91; (first | exact zt_l (by decide) (by omega) | omega))) (show z17x5 = (gvC s).2.1 (y7_2).toNatClampNeg from e17x5.trans (congrFun (hFc7.1 4 rfl) _)) (by (first | have a0 := in_u i12a | (have a0 := i12a; unfold In at a0)); (first | have a1 := in_u i12 | (have a1 := i12; unfold In at a1)); (first | have a2 := in_u i47 | (have a2 := i47; unfold In at a2)); have a3 := t_add e47 i12 (in_c 1 rfl) rfl; (first | have a4 := in_u ((in_c 1 rfl)) | (have a4 := (in_c 1 rfl); unfold In at a4)); have oc := oc_99_2_91; omega) (show z17x21 = (gvC s).2.2.1 (y7_2).toNatClampNeg from e17x21.trans (congrFun (hFc7.1 5 rfl) _))).1.trans ((show (z17x5).toInt = (z17x21).toInt from c17x22).trans (are_2 (show (y7_2).toNatClampNeg < 160 from (by show (y7_2).toInt.toNat < 160; (first | have a0 := in_u i12a | (have a0 := i12a; unfold In at a0)); (first | have a1 := in_u i12 | (have a1 := i12; unfold In at a1)); (first | have a2 := in_u i47 | (have a2 := i47; unfold In at a2)); have a3 := t_add e47 i12 (in_c 1 rfl) rfl; (first | have a4 := in_u ((in_c 1 rfl)) | (have a4 := (in_c 1 rfl); unfold In at a4)); have oc := oc_99_2_91; (first | exact zt_l (by decide) (by omega) | omega))) (show z17x5 = (gvC s).2.1 (y7_2).toNatClampNeg from e17x5.trans (congrFun (hFc7.1 4 rfl) _)) (by (first | have a0 := in_u i12a | (have a0 := i12a; unfold In at a0)); (first | have a1 := in_u i12 | (have a1 := i12; unfold In at a1)); (first | have a2 := in_u i47 | (have a2 := i47; unfold In at a2)); have a3 := t_add e47 i12 (in_c 1 rfl) rfl; (first | have a4 := in_u ((in_c 1 rfl)) | (have a4 := (in_c 1 rfl); unfold In at a4)); have oc := oc_99_2_91; omega) (show z17x21 = (gvC s).2.2.1 (y7_2).toNatClampNeg from e17x21.trans (congrFun (hFc7.1 5 rfl) _))).2.symm))
              exact gg_w (by first | exact Nat.le_add_right _ _ | exact gw2 | exact gw3 | exact gwe rfl | exact gwf rfl | exact gwg rfl | exact gwh rfl | omega) (gg_f (gf_cons rfl (gf_cons rfl (gf_cons rfl gf_nil))) (ih7 sc7 z47 hIc7 hFc7 (in_w 0 160 i47 rfl) n7 (m_up mm7 (t_add e47 i12 (in_c 1 rfl) rfl) (in_w 1 1 (in_c 1 rfl) rfl))))
            · skip
              exact zn_ne c20 (in_c 0 rfl) rfl
          · skip
            refine g_iconst 1 26 (gd rfl) rfl rfl ?_
            refine g_goto 30 (gd rfl) rfl ?_
            refine g_ireturn (gd rfl) rfl (nb01 (in_w 0 1 (in_c 1 rfl) rfl)) (hp17 _ _ ?_)
            show GG _ _ _ _ _ _ _ _ [.int (Int32.ofInt 1)] _ _ _
            refine g_if_eq 23 47 (gd rfl) rfl rfl (fun c20 => ?_) (fun c20 => ?_)
            · skip
              exact zn_eq c20 (in_c 1 rfl) rfl
            · skip
              refine g_aload_n 24 (gd rfl) rfl rfl ?_
              refine g_aload_n 25 (gd rfl) rfl rfl ?_
              refine g_getA (q2 := 4) 28 (gd rfl) rfl rfl rfl rfl ?_
              refine g_iload_n 29 (gd rfl) rfl rfl ?_
              refine g_iaload 30 (gd rfl) rfl (n := 160) rfl (in_ix i12 rfl) (fun z29 e29 => ?_)
              have q29 : z17x5 = z29 := (e17x5).trans e29.symm
              subst q29
              refine g_dup2 31 (gd rfl) rfl rfl rfl ?_
              refine g_iaload 32 (gd rfl) rfl (n := 32) rfl (in_ix i17x7 rfl) (fun z31 e31 => ?_)
              refine g_iconst 1 33 (gd rfl) rfl rfl ?_
              refine g_iadd 34 (gd rfl) rfl (fun z33 e33 => ?_)
              refine g_iastore 35 (gd rfl) rfl (n := 32) rfl (in_ix i17x7 rfl) ?_
              have hI34 := inv_sI (q := 91) (j := z17x5.toNatClampNeg) hIc7 rfl (in_w (-2147483648) 2147483647 (i_rng z33) rfl)
              refine g_aload_n 36 (gd rfl) rfl rfl ?_
              refine g_aload_n 37 (gd rfl) rfl rfl ?_
              refine g_getA (q2 := 5) 40 (gd rfl) rfl rfl rfl rfl ?_
              refine g_iload_n 41 (gd rfl) rfl rfl ?_
              refine g_iaload 42 (gd rfl) rfl (n := 160) rfl (in_ix i12 rfl) (fun z41 e41 => ?_)
              have q41 : z17x21 = z41 := (sI_ne rfl (e17x21)).trans e41.symm
              subst q41
              refine g_dup2 43 (gd rfl) rfl rfl rfl ?_
              refine g_iaload 44 (gd rfl) rfl (n := 32) rfl (in_ix i17x21 rfl) (fun z43 e43 => ?_)
              refine g_iconst 1 45 (gd rfl) rfl rfl ?_
              refine g_iadd 46 (gd rfl) rfl (fun z45 e45 => ?_)
              refine g_iastore 47 (gd rfl) rfl (n := 32) rfl (in_ix i17x21 rfl) ?_
              have hI46 := inv_sI (q := 91) (j := z17x21.toNatClampNeg) hI34 rfl (in_w (-2147483648) 2147483647 (i_rng z45) rfl)
              refine g_iinc 50 (gd rfl) rfl rfl (Nat.le_of_ble_eq_true rfl) (fun z47 e47 => ?_)
              have i47 := in_add 1 160 e47 i12 (in_c 1 rfl) rfl rfl
              refine g_goto 7 (gd rfl) rfl ?_
              have n7 : CJI (ARE (gvC s) 0) (ARE (gvC s) 1) (z47).toNatClampNeg (((sI (sI sc7 91 z17x5.toNatClampNeg z33) 91 z17x21.toNatClampNeg z45)).1 91) := by rw [show (z47).toNatClampNeg = (y7_2).toNatClampNeg + 1 from (by show (z47).toInt.toNat = (y7_2).toInt.toNat + 1; (first | have a0 := in_u i12a | (have a0 := i12a; unfold In at a0)); (first | have a1 := in_u i12 | (have a1 := i12; unfold In at a1)); (first | have a2 := in_u i47 | (have a2 := i47; unfold In at a2)); have a3 := t_add e47 i12 (in_c 1 rfl) rfl; (first | have a4 := in_u ((in_c 1 rfl)) | (have a4 := (in_c 1 rfl); unfold In at a4)); have oc := oc_99_2_91; (first | exact zt_s (by omega) (by omega) | omega))]; rw [sI_q, sI_q]; exact cji_s g7_0 (show (y7_2).toNatClampNeg < 160 from (by show (y7_2).toInt.toNat < 160; (first | have a0 := in_u i12a | (have a0 := i12a; unfold In at a0)); (first | have a1 := in_u i12 | (have a1 := i12; unfold In at a1)); (first | have a2 := in_u i47 | (have a2 := i47; unfold In at a2)); have a3 := t_add e47 i12 (in_c 1 rfl) rfl; (first | have a4 := in_u ((in_c 1 rfl)) | (have a4 := (in_c 1 rfl); unfold In at a4)); have oc := oc_99_2_91; (first | exact zt_l (by decide) (by omega) | omega))) (are_2 (show (y7_2).toNatClampNeg < 160 from (by show (y7_2).toInt.toNat < 160; (first | have a0 := in_u i12a | (have a0 := i12a; unfold In at a0)); (first | have a1 := in_u i12 | (have a1 := i12; unfold In at a1)); (first | have a2 := in_u i47 | (have a2 := i47; unfold In at a2)); have a3 := t_add e47 i12 (in_c 1 rfl) rfl; (first | have a4 := in_u ((in_c 1 rfl)) | (have a4 := (in_c 1 rfl); unfold In at a4)); have oc := oc_99_2_91; (first | exact zt_l (by decide) (by omega) | omega))) (show z17x5 = (gvC s).2.1 (y7_2).toNatClampNeg from e17x5.trans (congrFun (hFc7.1 4 rfl) _)) (by (first | have a0 := in_u i12a | (have a0 := i12a; unfold In at a0)); (first | have a1 := in_u i12 | (have a1 := i12; unfold In at a1)); (first | have a2 := in_u i47 | (have a2 := i47; unfold In at a2)); have a3 := t_add e47 i12 (in_c 1 rfl) rfl; (first | have a4 := in_u ((in_c 1 rfl)) | (have a4 := (in_c 1 rfl); unfold In at a4)); have oc := oc_99_2_91; omega) (show z17x21 = (gvC s).2.2.1 (y7_2).toNatClampNeg from e17x21.trans (congrFun (hFc7.1 5 rfl) _))).1 (are_2 (show (y7_2).toNatClampNeg < 160 from (by show (y7_2).toInt.toNat < 160; (first | have a0 := in_u i12a | (have a0 := i12a; unfold In at a0)); (first | have a1 := in_u i12 | (have a1 := i12; unfold In at a1)); (first | have a2 := in_u i47 | (have a2 := i47; unfold In at a2)); have a3 := t_add e47 i12 (in_c 1 rfl) rfl; (first | have a4 := in_u ((in_c 1 rfl)) | (have a4 := (in_c 1 rfl); unfold In at a4)); have oc := oc_99_2_91; (first | exact zt_l (by decide) (by omega) | omega))) (show z17x5 = (gvC s).2.1 (y7_2).toNatClampNeg from e17x5.trans (congrFun (hFc7.1 4 rfl) _)) (by (first | have a0 := in_u i12a | (have a0 := i12a; unfold In at a0)); (first | have a1 := in_u i12 | (have a1 := i12; unfold In at a1)); (first | have a2 := in_u i47 | (have a2 := i47; unfold In at a2)); have a3 := t_add e47 i12 (in_c 1 rfl) rfl; (first | have a4 := in_u ((in_c 1 rfl)) | (have a4 := (in_c 1 rfl); unfold In at a4)); have oc := oc_99_2_91; omega) (show z17x21 = (gvC s).2.2.1 (y7_2).toNatClampNeg from e17x21.trans (congrFun (hFc7.1 5 rfl) _))).2 i17x7 i17x21 c17x22 e31 e33 (by rw [e43, sI_q]) e45
              exact gg_w (by first | exact Nat.le_add_right _ _ | exact gw2 | exact gw3 | exact gwe rfl | exact gwf rfl | exact gwg rfl | exact gwh rfl | omega) (gg_f (gf_cons rfl (gf_cons rfl (gf_cons rfl gf_nil))) (ih7 (sI (sI sc7 91 z17x5.toNatClampNeg z33) 91 z17x21.toNatClampNeg z45) z47 hI46 (fr_sI rfl (fr_sI rfl hFc7)) (in_w 0 160 i47 rfl) n7 (m_up mm7 (t_add e47 i12 (in_c 1 rfl) rfl) (in_w 1 1 (in_c 1 rfl) rfl))))
  refine g_enter2 (k := 99) (N := 145801) (by first | exact dq1 hd rfl | exact dq0 hd rfl | exact dq2 hd rfl | exact dq3 hd rfl | omega) rfl (Nat.le_of_ble_eq_true rfl) ?_
  refine g_aload_n 1 (gd rfl) rfl rfl ?_
  refine g_iconst 0 2 (gd rfl) rfl rfl ?_
  refine g_calls (As := [.ref (A 91), .int (Int32.ofInt 0)]) (r := []) 5 (gd rfl) rfl rfl rfl rfl rfl (Nat.le_of_ble_eq_true rfl) (Nat.zero_le _) (Nat.zero_le _) (k_fillI 91 (by first | exact dq1 hd rfl | exact dq0 hd rfl | exact dq2 hd rfl | exact dq3 hd rfl | omega) hI (in_c 0 rfl) (n := 32) rfl rfl rfl rfl) (fun v u h => ?_)
  obtain ⟨s2, hI2, hF2, rfl, rfl, fl2⟩ := h
  show GG _ _ _ _ _ _ _ _ [] _ _ _
  refine g_iconst 0 6 (gd rfl) rfl rfl ?_
  refine g_istore_n 7 (gd rfl) rfl (Nat.le_of_ble_eq_true rfl) ?_
  have n7 : CJI (ARE (gvC s) 0) (ARE (gvC s) 1) ((Int32.ofInt 0)).toNatClampNeg ((s2).1 91) := by exact cji_0 rfl (fun u hu => fl2 u hu)
  exact gg_w (by first | exact Nat.le_of_ble_eq_true rfl | omega) (gg_f (gf_cons rfl (gf_cons rfl (gf_cons rfl gf_nil))) (ct7 161 s2 (Int32.ofInt 0) hI2 (fr_tr rfl fr_rf hF2) (in_w 0 160 (in_c 0 rfl) rfl) n7 (m_in 161 (in_w 0 160 (in_c 0 rfl) rfl) rfl)))

theorem oc_99_32_91 : (Int32.ofInt (-1)).toInt = (-1) ∧ (Int32.ofInt 0).toInt = 0 ∧ (Int32.ofInt 1).toInt = 1 := ⟨rfl, rfl, rfl⟩
/-- GraphHouse$Graph.countJoints -/
theorem f_99_32_91 {Z : AmZ} {A : Nat → Nat} {s : GS} {ex : va_W} {d : Nat} {X : AmX}  (hd : 3 ≤ d) (hI : Inv s) (q_0 : TQD s) : GC Z d 99 [.ref (A 32), .ref (A 91)] (WW Z A s ++ ex) 0 0 (fun v u => ∃ t : GS, Inv t ∧ Fr fm_99_32_91 s t ∧ v = none ∧ u = WW Z A t ++ ex ∧ ((∀ u : Nat, u < 32 → ((t).1 91 u).toInt = JD (ARE (gvD s) 0) (ARE (gvD s) 1) (Int32.ofInt (-1)) u))) X := by
  intro post xp hP hX
  obtain ⟨u_32_3, e_32_3⟩ : ∃ w, w = s.2.2.1 32 3 := ⟨_, rfl⟩
  have ro_32_3 := inv_F hI 0 160 rfl e_32_3
  have ct7 : ∀ (k7 : Nat) (sc7 : GS) (y7_2 : Int32), Inv sc7 → Fr fm_99_32_91 s sc7 → (In y7_2 0 160) → (CJI (ARE (gvD s) 0) (ARE (gvD s) 1) (y7_2).toNatClampNeg ((sc7).1 91)) → 160 - (y7_2).toInt < (k7 : Int) → GG Z (d - 1) 99 post (gx xp) (1 + k7 * 900) 7 (fun j => xlook j [(0, .ref (A 32)), (1, .ref (A 91)), (2, .int y7_2)]) [] (WW Z A sc7 ++ ex) 0 0 := by
    intro k7
    induction k7 with
    | zero => intro sc7 y7_2 hIc7 hFc7 j7_2 g7_0 mm7; exact m_no mm7 j7_2 rfl
    | succ k7 ih7 =>
      intro sc7 y7_2 hIc7 hFc7 j7_2 g7_0 mm7
      refine gg_w (M := 1 + k7 * 900 + 900) gws ?_
      refine g_iload_n 8 (gd rfl) rfl rfl ?_
      refine g_aload_n 9 (gd rfl) rfl rfl ?_
      refine g_getI 12 (gd rfl) rfl rfl rfl (fun z9 e9 => ?_)
      have q9 : u_32_3 = z9 := (fr_F e_32_3 hFc7 rfl).trans e9.symm
      subst q9
      refine g_cmp_ge 15 53 (gd rfl) rfl rfl (fun c12 => ?_) (fun c12 => ?_)
      · skip
        have n53 : (∀ u : Nat, u < 32 → ((sc7).1 91 u).toInt = JD (ARE (gvD s) 0) (ARE (gvD s) 1) (Int32.ofInt (-1)) u) := by exact cji_e g7_0 (by show (y7_2).toInt.toNat ≤ 160; (first | have a0 := in_u ro_32_3 | (have a0 := ro_32_3; unfold In at a0)); (first | have a1 := in_u j7_2 | (have a1 := j7_2; unfold In at a1)); have oc := oc_99_32_91; (first | exact zt_u (by omega) | omega)) (fun p a c => are_q (Classical.byContradiction fun z => by have h9 := q_0 p c (fun y => z (by rw [are_f c rfl]; exact y)); rw [← e_32_3] at h9; have h8 : (y7_2).toNatClampNeg = (y7_2).toInt.toNat := rfl; (first | have a0 := in_u ro_32_3 | (have a0 := ro_32_3; unfold In at a0)); (first | have a1 := in_u j7_2 | (have a1 := j7_2; unfold In at a1)); have oc := oc_99_32_91; omega) c)
        exact g_return (gd rfl) rfl (hP _ _ ⟨sc7, hIc7, hFc7, rfl, rfl, n53⟩)
      · skip
        have i12 := r_lt1 0 159 c12 j7_2 ro_32_3 rfl
        have i12a := r_lt2 1 160 c12 j7_2 ro_32_3 rfl
        refine g_aload_n 16 (gd rfl) rfl rfl ?_
        refine g_iload_n 17 (gd rfl) rfl rfl ?_
        refine g_callv (X := _) (As := [.int y7_2]) (r := []) (b := A 32) (q := 32) 20 (gd rfl) rfl rfl rfl rfl rfl (ww_o rfl) (Nat.le_of_ble_eq_true rfl) (mc := 0) (ms := 0) (Nat.zero_le _) (Nat.zero_le _) (P := fun v u => _) ?_ (fun e u h => h) (fun v u h => h)
        intro po17 xx17 hp17 hx17
        refine g_enter2 (k := 97) (N := 300) (by first | exact dq1 hd rfl | exact dq0 hd rfl | exact dq2 hd rfl | exact dq3 hd rfl | omega) rfl (Nat.le_of_ble_eq_true rfl) ?_
        refine g_aload_n 1 (gd rfl) rfl rfl ?_
        refine g_getA (q2 := 34) 4 (gd rfl) rfl rfl rfl rfl ?_
        refine g_iload_n 5 (gd rfl) rfl rfl ?_
        refine g_iaload 6 (gd rfl) rfl (n := 160) rfl (in_ix i12 rfl) (fun z17x5 e17x5 => ?_)
        have i17x5 := inv_I hIc7 (n := 160) (t := 0) (-1) 31 rfl (in_ix i12 rfl) rfl e17x5
        refine g_iconst (-1) 7 (gd rfl) rfl rfl ?_
        refine g_cmp_eq 10 29 (gd rfl) rfl rfl (fun c17x7 => ?_) (fun c17x7 => ?_)
        · skip
          have i17x7 := r_eq1 (-1) (-1) c17x7 i17x5 (in_c (-1) rfl) rfl
          refine g_iconst 0 30 (gd rfl) rfl rfl ?_
          refine g_ireturn (gd rfl) rfl (nb01 (in_w 0 1 (in_c 0 rfl) rfl)) (hp17 _ _ ?_)
          show GG _ _ _ _ _ _ _ _ [.int (Int32.ofInt 0)] _ _ _
          refine g_if_eq 23 47 (gd rfl) rfl rfl (fun c20 => ?_) (fun c20 => ?_)
          · skip
            refine g_iinc 50 (gd rfl) rfl rfl (Nat.le_of_ble_eq_true rfl) (fun z47 e47 => ?_)
            have i47 := in_add 1 160 e47 i12 (in_c 1 rfl) rfl rfl
            refine g_goto 7 (gd rfl) rfl ?_
            have n7 : CJI (ARE (gvD s) 0) (ARE (gvD s) 1) (z47).toNatClampNeg ((sc7).1 91) := by rw [show (z47).toNatClampNeg = (y7_2).toNatClampNeg + 1 from (by show (z47).toInt.toNat = (y7_2).toInt.toNat + 1; (first | have a0 := in_u i12a | (have a0 := i12a; unfold In at a0)); (first | have a1 := in_u i12 | (have a1 := i12; unfold In at a1)); (first | have a2 := in_u i47 | (have a2 := i47; unfold In at a2)); have a3 := t_add e47 i12 (in_c 1 rfl) rfl; (first | have a4 := in_u ((in_c 1 rfl)) | (have a4 := (in_c 1 rfl); unfold In at a4)); have oc := oc_99_32_91; (first | exact zt_s (by omega) (by omega) | omega))]; exact cji_n g7_0 (are_0 (show z17x5 = (gvD s).2.1 (y7_2).toNatClampNeg from e17x5.trans (congrFun (hFc7.1 34 rfl) _)) (by (first | have a0 := in_u i12a | (have a0 := i12a; unfold In at a0)); (first | have a1 := in_u i12 | (have a1 := i12; unfold In at a1)); (first | have a2 := in_u i47 | (have a2 := i47; unfold In at a2)); have a3 := t_add e47 i12 (in_c 1 rfl) rfl; (first | have a4 := in_u ((in_c 1 rfl)) | (have a4 := (in_c 1 rfl); unfold In at a4)); have oc := oc_99_32_91; omega))
            exact gg_w (by first | exact Nat.le_add_right _ _ | exact gw2 | exact gw3 | exact gwe rfl | exact gwf rfl | exact gwg rfl | exact gwh rfl | omega) (gg_f (gf_cons rfl (gf_cons rfl (gf_cons rfl gf_nil))) (ih7 sc7 z47 hIc7 hFc7 (in_w 0 160 i47 rfl) n7 (m_up mm7 (t_add e47 i12 (in_c 1 rfl) rfl) (in_w 1 1 (in_c 1 rfl) rfl))))
          · skip
            exact zn_ne c20 (in_c 0 rfl) rfl
        · skip
          have i17x7 := r_ne1 0 31 c17x7 i17x5 (in_c (-1) rfl) rfl
          refine g_aload_n 11 (gd rfl) rfl rfl ?_
          refine g_getA (q2 := 34) 14 (gd rfl) rfl rfl rfl rfl ?_
          refine g_iload_n 15 (gd rfl) rfl rfl ?_
          refine g_iaload 16 (gd rfl) rfl (n := 160) rfl (in_ix i12 rfl) (fun z17x15 e17x15 => ?_)
          have q17x15 : z17x5 = z17x15 := (e17x5).trans e17x15.symm
          subst q17x15
          refine g_aload_n 17 (gd rfl) rfl rfl ?_
          refine g_getA (q2 := 35) 20 (gd rfl) rfl rfl rfl rfl ?_
          refine g_iload_n 21 (gd rfl) rfl rfl ?_
          refine g_iaload 22 (gd rfl) rfl (n := 160) rfl (in_ix i12 rfl) (fun z17x21 e17x21 => ?_)
          have i17x21 := inv_I hIc7 (n := 160) (t := 0) 0 31 rfl (in_ix i12 rfl) rfl e17x21
          refine g_cmp_eq 25 29 (gd rfl) rfl rfl (fun c17x22 => ?_) (fun c17x22 => ?_)
          · skip
            refine g_iconst 0 30 (gd rfl) rfl rfl ?_
            refine g_ireturn (gd rfl) rfl (nb01 (in_w 0 1 (in_c 0 rfl) rfl)) (hp17 _ _ ?_)
            show GG _ _ _ _ _ _ _ _ [.int (Int32.ofInt 0)] _ _ _
            refine g_if_eq 23 47 (gd rfl) rfl rfl (fun c20 => ?_) (fun c20 => ?_)
            · skip
              refine g_iinc 50 (gd rfl) rfl rfl (Nat.le_of_ble_eq_true rfl) (fun z47 e47 => ?_)
              have i47 := in_add 1 160 e47 i12 (in_c 1 rfl) rfl rfl
              refine g_goto 7 (gd rfl) rfl ?_
              have n7 : CJI (ARE (gvD s) 0) (ARE (gvD s) 1) (z47).toNatClampNeg ((sc7).1 91) := by rw [show (z47).toNatClampNeg = (y7_2).toNatClampNeg + 1 from (by show (z47).toInt.toNat = (y7_2).toInt.toNat + 1; (first | have a0 := in_u i12a | (have a0 := i12a; unfold In at a0)); (first | have a1 := in_u i12 | (have a1 := i12; unfold In at a1)); (first | have a2 := in_u i47 | (have a2 := i47; unfold In at a2)); have a3 := t_add e47 i12 (in_c 1 rfl) rfl; (first | have a4 := in_u ((in_c 1 rfl)) | (have a4 := (in_c 1 rfl); unfold In at a4)); have oc := oc_99_32_91; (first | exact zt_s (by omega) (by omega) | omega))]; exact cji_n g7_0 ((are_2 (show (y7_2).toNatClampNeg < 160 from (by show (y7_2).toInt.toNat < 160; (first | have a0 := in_u i12a | (have a0 := i12a; unfold In at a0)); (first | have a1 := in_u i12 | (have a1 := i12; unfold In at a1)); (first | have a2 := in_u i47 | (have a2 := i47; unfold In at a2)); have a3 := t_add e47 i12 (in_c 1 rfl) rfl; (first | have a4 := in_u ((in_c 1 rfl)) | (have a4 := (in_c 1 rfl); unfold In at a4)); have oc := oc_99_32_91; (first | exact zt_l (by decide) (by omega) | omega))) (show z17x5 = (gvD s).2.1 (y7_2).toNatClampNeg from e17x5.trans (congrFun (hFc7.1 34 rfl) _)) (by (first | have a0 := in_u i12a | (have a0 := i12a; unfold In at a0)); (first | have a1 := in_u i12 | (have a1 := i12; unfold In at a1)); (first | have a2 := in_u i47 | (have a2 := i47; unfold In at a2)); have a3 := t_add e47 i12 (in_c 1 rfl) rfl; (first | have a4 := in_u ((in_c 1 rfl)) | (have a4 := (in_c 1 rfl); unfold In at a4)); have oc := oc_99_32_91; omega) (show z17x21 = (gvD s).2.2.1 (y7_2).toNatClampNeg from e17x21.trans (congrFun (hFc7.1 35 rfl) _))).1.trans ((show (z17x5).toInt = (z17x21).toInt from c17x22).trans (are_2 (show (y7_2).toNatClampNeg < 160 from (by show (y7_2).toInt.toNat < 160; (first | have a0 := in_u i12a | (have a0 := i12a; unfold In at a0)); (first | have a1 := in_u i12 | (have a1 := i12; unfold In at a1)); (first | have a2 := in_u i47 | (have a2 := i47; unfold In at a2)); have a3 := t_add e47 i12 (in_c 1 rfl) rfl; (first | have a4 := in_u ((in_c 1 rfl)) | (have a4 := (in_c 1 rfl); unfold In at a4)); have oc := oc_99_32_91; (first | exact zt_l (by decide) (by omega) | omega))) (show z17x5 = (gvD s).2.1 (y7_2).toNatClampNeg from e17x5.trans (congrFun (hFc7.1 34 rfl) _)) (by (first | have a0 := in_u i12a | (have a0 := i12a; unfold In at a0)); (first | have a1 := in_u i12 | (have a1 := i12; unfold In at a1)); (first | have a2 := in_u i47 | (have a2 := i47; unfold In at a2)); have a3 := t_add e47 i12 (in_c 1 rfl) rfl; (first | have a4 := in_u ((in_c 1 rfl)) | (have a4 := (in_c 1 rfl); unfold In at a4)); have oc := oc_99_32_91; omega) (show z17x21 = (gvD s).2.2.1 (y7_2).toNatClampNeg from e17x21.trans (congrFun (hFc7.1 35 rfl) _))).2.symm))
              exact gg_w (by first | exact Nat.le_add_right _ _ | exact gw2 | exact gw3 | exact gwe rfl | exact gwf rfl | exact gwg rfl | exact gwh rfl | omega) (gg_f (gf_cons rfl (gf_cons rfl (gf_cons rfl gf_nil))) (ih7 sc7 z47 hIc7 hFc7 (in_w 0 160 i47 rfl) n7 (m_up mm7 (t_add e47 i12 (in_c 1 rfl) rfl) (in_w 1 1 (in_c 1 rfl) rfl))))
            · skip
              exact zn_ne c20 (in_c 0 rfl) rfl
          · skip
            refine g_iconst 1 26 (gd rfl) rfl rfl ?_
            refine g_goto 30 (gd rfl) rfl ?_
            refine g_ireturn (gd rfl) rfl (nb01 (in_w 0 1 (in_c 1 rfl) rfl)) (hp17 _ _ ?_)
            show GG _ _ _ _ _ _ _ _ [.int (Int32.ofInt 1)] _ _ _
            refine g_if_eq 23 47 (gd rfl) rfl rfl (fun c20 => ?_) (fun c20 => ?_)
            · skip
              exact zn_eq c20 (in_c 1 rfl) rfl
            · skip
              refine g_aload_n 24 (gd rfl) rfl rfl ?_
              refine g_aload_n 25 (gd rfl) rfl rfl ?_
              refine g_getA (q2 := 34) 28 (gd rfl) rfl rfl rfl rfl ?_
              refine g_iload_n 29 (gd rfl) rfl rfl ?_
              refine g_iaload 30 (gd rfl) rfl (n := 160) rfl (in_ix i12 rfl) (fun z29 e29 => ?_)
              have q29 : z17x5 = z29 := (e17x5).trans e29.symm
              subst q29
              refine g_dup2 31 (gd rfl) rfl rfl rfl ?_
              refine g_iaload 32 (gd rfl) rfl (n := 32) rfl (in_ix i17x7 rfl) (fun z31 e31 => ?_)
              refine g_iconst 1 33 (gd rfl) rfl rfl ?_
              refine g_iadd 34 (gd rfl) rfl (fun z33 e33 => ?_)
              refine g_iastore 35 (gd rfl) rfl (n := 32) rfl (in_ix i17x7 rfl) ?_
              have hI34 := inv_sI (q := 91) (j := z17x5.toNatClampNeg) hIc7 rfl (in_w (-2147483648) 2147483647 (i_rng z33) rfl)
              refine g_aload_n 36 (gd rfl) rfl rfl ?_
              refine g_aload_n 37 (gd rfl) rfl rfl ?_
              refine g_getA (q2 := 35) 40 (gd rfl) rfl rfl rfl rfl ?_
              refine g_iload_n 41 (gd rfl) rfl rfl ?_
              refine g_iaload 42 (gd rfl) rfl (n := 160) rfl (in_ix i12 rfl) (fun z41 e41 => ?_)
              have q41 : z17x21 = z41 := (sI_ne rfl (e17x21)).trans e41.symm
              subst q41
              refine g_dup2 43 (gd rfl) rfl rfl rfl ?_
              refine g_iaload 44 (gd rfl) rfl (n := 32) rfl (in_ix i17x21 rfl) (fun z43 e43 => ?_)
              refine g_iconst 1 45 (gd rfl) rfl rfl ?_
              refine g_iadd 46 (gd rfl) rfl (fun z45 e45 => ?_)
              refine g_iastore 47 (gd rfl) rfl (n := 32) rfl (in_ix i17x21 rfl) ?_
              have hI46 := inv_sI (q := 91) (j := z17x21.toNatClampNeg) hI34 rfl (in_w (-2147483648) 2147483647 (i_rng z45) rfl)
              refine g_iinc 50 (gd rfl) rfl rfl (Nat.le_of_ble_eq_true rfl) (fun z47 e47 => ?_)
              have i47 := in_add 1 160 e47 i12 (in_c 1 rfl) rfl rfl
              refine g_goto 7 (gd rfl) rfl ?_
              have n7 : CJI (ARE (gvD s) 0) (ARE (gvD s) 1) (z47).toNatClampNeg (((sI (sI sc7 91 z17x5.toNatClampNeg z33) 91 z17x21.toNatClampNeg z45)).1 91) := by rw [show (z47).toNatClampNeg = (y7_2).toNatClampNeg + 1 from (by show (z47).toInt.toNat = (y7_2).toInt.toNat + 1; (first | have a0 := in_u i12a | (have a0 := i12a; unfold In at a0)); (first | have a1 := in_u i12 | (have a1 := i12; unfold In at a1)); (first | have a2 := in_u i47 | (have a2 := i47; unfold In at a2)); have a3 := t_add e47 i12 (in_c 1 rfl) rfl; (first | have a4 := in_u ((in_c 1 rfl)) | (have a4 := (in_c 1 rfl); unfold In at a4)); have oc := oc_99_32_91; (first | exact zt_s (by omega) (by omega) | omega))]; rw [sI_q, sI_q]; exact cji_s g7_0 (show (y7_2).toNatClampNeg < 160 from (by show (y7_2).toInt.toNat < 160; (first | have a0 := in_u i12a | (have a0 := i12a; unfold In at a0)); (first | have a1 := in_u i12 | (have a1 := i12; unfold In at a1)); (first | have a2 := in_u i47 | (have a2 := i47; unfold In at a2)); have a3 := t_add e47 i12 (in_c 1 rfl) rfl; (first | have a4 := in_u ((in_c 1 rfl)) | (have a4 := (in_c 1 rfl); unfold In at a4)); have oc := oc_99_32_91; (first | exact zt_l (by decide) (by omega) | omega))) (are_2 (show (y7_2).toNatClampNeg < 160 from (by show (y7_2).toInt.toNat < 160; (first | have a0 := in_u i12a | (have a0 := i12a; unfold In at a0)); (first | have a1 := in_u i12 | (have a1 := i12; unfold In at a1)); (first | have a2 := in_u i47 | (have a2 := i47; unfold In at a2)); have a3 := t_add e47 i12 (in_c 1 rfl) rfl; (first | have a4 := in_u ((in_c 1 rfl)) | (have a4 := (in_c 1 rfl); unfold In at a4)); have oc := oc_99_32_91; (first | exact zt_l (by decide) (by omega) | omega))) (show z17x5 = (gvD s).2.1 (y7_2).toNatClampNeg from e17x5.trans (congrFun (hFc7.1 34 rfl) _)) (by (first | have a0 := in_u i12a | (have a0 := i12a; unfold In at a0)); (first | have a1 := in_u i12 | (have a1 := i12; unfold In at a1)); (first | have a2 := in_u i47 | (have a2 := i47; unfold In at a2)); have a3 := t_add e47 i12 (in_c 1 rfl) rfl; (first | have a4 := in_u ((in_c 1 rfl)) | (have a4 := (in_c 1 rfl); unfold In at a4)); have oc := oc_99_32_91; omega) (show z17x21 = (gvD s).2.2.1 (y7_2).toNatClampNeg from e17x21.trans (congrFun (hFc7.1 35 rfl) _))).1 (are_2 (show (y7_2).toNatClampNeg < 160 from (by show (y7_2).toInt.toNat < 160; (first | have a0 := in_u i12a | (have a0 := i12a; unfold In at a0)); (first | have a1 := in_u i12 | (have a1 := i12; unfold In at a1)); (first | have a2 := in_u i47 | (have a2 := i47; unfold In at a2)); have a3 := t_add e47 i12 (in_c 1 rfl) rfl; (first | have a4 := in_u ((in_c 1 rfl)) | (have a4 := (in_c 1 rfl); unfold In at a4)); have oc := oc_99_32_91; (first | exact zt_l (by decide) (by omega) | omega))) (show z17x5 = (gvD s).2.1 (y7_2).toNatClampNeg from e17x5.trans (congrFun (hFc7.1 34 rfl) _)) (by (first | have a0 := in_u i12a | (have a0 := i12a; unfold In at a0)); (first | have a1 := in_u i12 | (have a1 := i12; unfold In at a1)); (first | have a2 := in_u i47 | (have a2 := i47; unfold In at a2)); have a3 := t_add e47 i12 (in_c 1 rfl) rfl; (first | have a4 := in_u ((in_c 1 rfl)) | (have a4 := (in_c 1 rfl); unfold In at a4)); have oc := oc_99_32_91; omega) (show z17x21 = (gvD s).2.2.1 (y7_2).toNatClampNeg from e17x21.trans (congrFun (hFc7.1 35 rfl) _))).2 i17x7 i17x21 c17x22 e31 e33 (by rw [e43, sI_q]) e45
              exact gg_w (by first | exact Nat.le_add_right _ _ | exact gw2 | exact gw3 | exact gwe rfl | exact gwf rfl | exact gwg rfl | exact gwh rfl | omega) (gg_f (gf_cons rfl (gf_cons rfl (gf_cons rfl gf_nil))) (ih7 (sI (sI sc7 91 z17x5.toNatClampNeg z33) 91 z17x21.toNatClampNeg z45) z47 hI46 (fr_sI rfl (fr_sI rfl hFc7)) (in_w 0 160 i47 rfl) n7 (m_up mm7 (t_add e47 i12 (in_c 1 rfl) rfl) (in_w 1 1 (in_c 1 rfl) rfl))))
  refine g_enter2 (k := 99) (N := 145801) (by first | exact dq1 hd rfl | exact dq0 hd rfl | exact dq2 hd rfl | exact dq3 hd rfl | omega) rfl (Nat.le_of_ble_eq_true rfl) ?_
  refine g_aload_n 1 (gd rfl) rfl rfl ?_
  refine g_iconst 0 2 (gd rfl) rfl rfl ?_
  refine g_calls (As := [.ref (A 91), .int (Int32.ofInt 0)]) (r := []) 5 (gd rfl) rfl rfl rfl rfl rfl (Nat.le_of_ble_eq_true rfl) (Nat.zero_le _) (Nat.zero_le _) (k_fillI 91 (by first | exact dq1 hd rfl | exact dq0 hd rfl | exact dq2 hd rfl | exact dq3 hd rfl | omega) hI (in_c 0 rfl) (n := 32) rfl rfl rfl rfl) (fun v u h => ?_)
  obtain ⟨s2, hI2, hF2, rfl, rfl, fl2⟩ := h
  show GG _ _ _ _ _ _ _ _ [] _ _ _
  refine g_iconst 0 6 (gd rfl) rfl rfl ?_
  refine g_istore_n 7 (gd rfl) rfl (Nat.le_of_ble_eq_true rfl) ?_
  have n7 : CJI (ARE (gvD s) 0) (ARE (gvD s) 1) ((Int32.ofInt 0)).toNatClampNeg ((s2).1 91) := by exact cji_0 rfl (fun u hu => fl2 u hu)
  exact gg_w (by first | exact Nat.le_of_ble_eq_true rfl | omega) (gg_f (gf_cons rfl (gf_cons rfl (gf_cons rfl gf_nil))) (ct7 161 s2 (Int32.ofInt 0) hI2 (fr_tr rfl fr_rf hF2) (in_w 0 160 (in_c 0 rfl) rfl) n7 (m_in 161 (in_w 0 160 (in_c 0 rfl) rfl) rfl)))

/-- GraphHouse$Groups.score -/
theorem f_118_86 {Z : AmZ} {A : Nat → Nat} {s : GS} {ex : va_W} {d : Nat} {X : AmX} {x1 : Int32} {x2 : Int32} (hd : 1 ≤ d) (hI : Inv s) (h1 : In x1 0 31) (h2 : In x2 0 31) : GC Z d 118 [.ref (A 86), .int x1, .int x2] (WW Z A s ++ ex) 0 0 (fun v u => ∃ z : Int64, v = some (.long z) ∧ u = WW Z A s ++ ex ∧ (∀ (F T : Nat → Int) (n : Nat), SCP F T n s (x1).toNatClampNeg → NEM n s (x2).toInt → (z).toInt = SCR F T (lbl n (s.1 89)) n (x1).toNatClampNeg (x2).toInt)) X := by
  intro post xp hP hX
  obtain ⟨u_86_5, e_86_5⟩ : ∃ w, w = s.2.2.1 86 5 := ⟨_, rfl⟩
  have ro_86_5 := inv_F hI 0 160 rfl e_86_5
  refine g_enter2 (k := 118) (N := 900) (by first | exact dq1 hd rfl | exact dq0 hd rfl | exact dq2 hd rfl | exact dq3 hd rfl | omega) rfl (Nat.le_of_ble_eq_true rfl) ?_
  refine g_aload_n 1 (gd rfl) rfl rfl ?_
  refine g_getA (q2 := 89) 4 (gd rfl) rfl rfl rfl rfl ?_
  refine g_iload_n 5 (gd rfl) rfl rfl ?_
  refine g_iaload 6 (gd rfl) rfl (n := 32) rfl (in_ix h1 rfl) (fun z5 e5 => ?_)
  have i5 := inv_I hI (n := 32) (t := 0) 0 31 rfl (in_ix h1 rfl) rfl e5
  refine g_iload_n 7 (gd rfl) rfl rfl ?_
  refine g_cmp_ne 10 26 (gd rfl) rfl rfl (fun c7 => ?_) (fun c7 => ?_)
  · skip
    refine g_aload_n 27 (gd rfl) rfl rfl ?_
    refine g_getA (q2 := 92) 30 (gd rfl) rfl rfl rfl rfl ?_
    refine g_iload_n 31 (gd rfl) rfl rfl ?_
    refine g_iaload 32 (gd rfl) rfl (n := 32) rfl (in_ix h2 rfl) (fun z31 e31 => ?_)
    refine g_istore_n 33 (gd rfl) rfl (Nat.le_of_ble_eq_true rfl) ?_
    refine g_ldc2_w 2 36 (gd rfl) rfl rfl ?_
    refine g_aload_n 37 (gd rfl) rfl rfl ?_
    refine g_getI 40 (gd rfl) rfl rfl rfl (fun z37 e37 => ?_)
    have q37 : u_86_5 = z37 := (e_86_5).trans e37.symm
    subst q37
    refine g_i2l 41 (gd rfl) rfl (fun z40 e40 => ?_)
    have i40 := l_i e40 ro_86_5
    refine g_lmul 42 (gd rfl) rfl (fun z41 e41 => ?_)
    have i41 := l_mulc 2 0 320 (Or.inl e41) i40 rfl
    refine g_aload_n 43 (gd rfl) rfl rfl ?_
    refine g_getA (q2 := 93) 46 (gd rfl) rfl rfl rfl rfl ?_
    refine g_iload_n 47 (gd rfl) rfl rfl ?_
    refine g_iaload 48 (gd rfl) rfl (n := 32) rfl (in_ix h2 rfl) (fun z47 e47 => ?_)
    refine g_i2l 49 (gd rfl) rfl (fun z48 e48 => ?_)
    have i48 := l_i e48 (i_rng z47)
    refine g_lmul 50 (gd rfl) rfl (fun z49 e49 => ?_)
    refine g_aload_n 51 (gd rfl) rfl rfl ?_
    refine g_getA (q2 := 91) 54 (gd rfl) rfl rfl rfl rfl ?_
    refine g_iload_n 55 (gd rfl) rfl rfl ?_
    refine g_iaload 56 (gd rfl) rfl (n := 32) rfl (in_ix h1 rfl) (fun z55 e55 => ?_)
    refine g_i2l 57 (gd rfl) rfl (fun z56 e56 => ?_)
    have i56 := l_i e56 (i_rng z55)
    refine g_iload_n 58 (gd rfl) rfl rfl ?_
    refine g_i2l 59 (gd rfl) rfl (fun z58 e58 => ?_)
    have i58 := l_i e58 (i_rng z31)
    refine g_lmul 60 (gd rfl) rfl (fun z59 e59 => ?_)
    refine g_lsub 61 (gd rfl) rfl (fun z60 e60 => ?_)
    have n61 : ∀ (F T : Nat → Int) (n : Nat), SCP F T n s (x1).toNatClampNeg → NEM n s (x2).toInt → (z60).toInt = SCR F T (lbl n (s.1 89)) n (x1).toNatClampNeg (x2).toInt := by intro F T n h hc; exact scp_s h h2 hc e5 e31 e55 e47 e_86_5 (Or.inr ⟨c7, rfl⟩) e40 e41 e48 e49 e56 e58 e59 e60
    exact g_lreturn (gd rfl) rfl (hP _ _ ⟨z60, rfl, rfl, n61⟩)
  · skip
    refine g_aload_n 11 (gd rfl) rfl rfl ?_
    refine g_getA (q2 := 92) 14 (gd rfl) rfl rfl rfl rfl ?_
    refine g_iload_n 15 (gd rfl) rfl rfl ?_
    refine g_iaload 16 (gd rfl) rfl (n := 32) rfl (in_ix h2 rfl) (fun z15 e15 => ?_)
    refine g_aload_n 17 (gd rfl) rfl rfl ?_
    refine g_getA (q2 := 91) 20 (gd rfl) rfl rfl rfl rfl ?_
    refine g_iload_n 21 (gd rfl) rfl rfl ?_
    refine g_iaload 22 (gd rfl) rfl (n := 32) rfl (in_ix h1 rfl) (fun z21 e21 => ?_)
    refine g_isub 23 (gd rfl) rfl (fun z22 e22 => ?_)
    refine g_goto 32 (gd rfl) rfl ?_
    refine g_istore_n 33 (gd rfl) rfl (Nat.le_of_ble_eq_true rfl) ?_
    refine g_ldc2_w 2 36 (gd rfl) rfl rfl ?_
    refine g_aload_n 37 (gd rfl) rfl rfl ?_
    refine g_getI 40 (gd rfl) rfl rfl rfl (fun z37 e37 => ?_)
    have q37 : u_86_5 = z37 := (e_86_5).trans e37.symm
    subst q37
    refine g_i2l 41 (gd rfl) rfl (fun z40 e40 => ?_)
    have i40 := l_i e40 ro_86_5
    refine g_lmul 42 (gd rfl) rfl (fun z41 e41 => ?_)
    have i41 := l_mulc 2 0 320 (Or.inl e41) i40 rfl
    refine g_aload_n 43 (gd rfl) rfl rfl ?_
    refine g_getA (q2 := 93) 46 (gd rfl) rfl rfl rfl rfl ?_
    refine g_iload_n 47 (gd rfl) rfl rfl ?_
    refine g_iaload 48 (gd rfl) rfl (n := 32) rfl (in_ix h2 rfl) (fun z47 e47 => ?_)
    refine g_i2l 49 (gd rfl) rfl (fun z48 e48 => ?_)
    have i48 := l_i e48 (i_rng z47)
    refine g_lmul 50 (gd rfl) rfl (fun z49 e49 => ?_)
    refine g_aload_n 51 (gd rfl) rfl rfl ?_
    refine g_getA (q2 := 91) 54 (gd rfl) rfl rfl rfl rfl ?_
    refine g_iload_n 55 (gd rfl) rfl rfl ?_
    refine g_iaload 56 (gd rfl) rfl (n := 32) rfl (in_ix h1 rfl) (fun z55 e55 => ?_)
    have q55 : z21 = z55 := (e21).trans e55.symm
    subst q55
    refine g_i2l 57 (gd rfl) rfl (fun z56 e56 => ?_)
    have i56 := l_i e56 (i_rng z21)
    refine g_iload_n 58 (gd rfl) rfl rfl ?_
    refine g_i2l 59 (gd rfl) rfl (fun z58 e58 => ?_)
    have i58 := l_i e58 (i_rng z22)
    refine g_lmul 60 (gd rfl) rfl (fun z59 e59 => ?_)
    refine g_lsub 61 (gd rfl) rfl (fun z60 e60 => ?_)
    have n61 : ∀ (F T : Nat → Int) (n : Nat), SCP F T n s (x1).toNatClampNeg → NEM n s (x2).toInt → (z60).toInt = SCR F T (lbl n (s.1 89)) n (x1).toNatClampNeg (x2).toInt := by intro F T n h hc; exact scp_s h h2 hc e5 e15 e21 e47 e_86_5 (Or.inl ⟨c7, e22⟩) e40 e41 e48 e49 e56 e58 e59 e60
    exact g_lreturn (gd rfl) rfl (hP _ _ ⟨z60, rfl, rfl, n61⟩)

theorem oc_116_86 : (Int32.ofInt (-1)).toInt = (-1) ∧ (Int32.ofInt 0).toInt = 0 ∧ (Int32.ofInt 1).toInt = 1 ∧ (Int64.ofInt 0).toInt = 0 := ⟨rfl, rfl, rfl, rfl⟩
/-- GraphHouse$Groups.isBetter -/
theorem f_116_86 {Z : AmZ} {A : Nat → Nat} {s : GS} {ex : va_W} {d : Nat} {X : AmX} {x1 : Int32} {x2 : Int32} {x3 : Int32} (hd : 4 ≤ d) (hI : Inv s) (h1 : In x1 0 31) (h2 : In x2 0 31) (h3 : In x3 0 31) : GC Z d 116 [.ref (A 86), .int x1, .int x2, .int x3] (WW Z A s ++ ex) 0 0 (fun v u => ∃ z : Int32, v = some (.int z) ∧ u = WW Z A s ++ ex ∧ In z 0 1 ∧ (∀ (F T : Nat → Int) (n : Nat), SCP F T n s (x1).toNatClampNeg → NEM n s (x2).toInt → NEM n s (x3).toInt → ISB F T n s (x1).toNatClampNeg (x2).toInt (x3).toInt (z))) X := by
  intro post xp hP hX
  refine g_enter2 (k := 116) (N := 900) (by first | exact dq1 hd rfl | exact dq0 hd rfl | exact dq2 hd rfl | exact dq3 hd rfl | omega) rfl (Nat.le_of_ble_eq_true rfl) ?_
  refine g_aload_n 1 (gd rfl) rfl rfl ?_
  refine g_iload_n 2 (gd rfl) rfl rfl ?_
  refine g_iload_n 3 (gd rfl) rfl rfl ?_
  refine g_callv (X := _) (As := [.int x1, .int x2]) (r := []) (b := A 86) (q := 86) 6 (gd rfl) rfl rfl rfl rfl rfl (ww_o rfl) (Nat.le_of_ble_eq_true rfl) (Nat.zero_le _) (Nat.zero_le _) (f_118_86 (by first | exact dq1 hd rfl | exact dq0 hd rfl | exact dq2 hd rfl | exact dq3 hd rfl | omega) hI (in_w 0 31 h1 rfl) (in_w 0 31 h2 rfl)) (fun e u h => h) (fun v u h => ?_)
  obtain ⟨z3, rfl, rfl, p3⟩ := h
  show GG _ _ _ _ _ _ _ _ [.long z3] _ _ _
  refine g_aload_n 7 (gd rfl) rfl rfl ?_
  refine g_iload_n 8 (gd rfl) rfl rfl ?_
  refine g_iload_n 9 (gd rfl) rfl rfl ?_
  refine g_callv (X := _) (As := [.int x1, .int x3]) (r := [.long z3]) (b := A 86) (q := 86) 12 (gd rfl) rfl rfl rfl rfl rfl (ww_o rfl) (Nat.le_of_ble_eq_true rfl) (Nat.zero_le _) (Nat.zero_le _) (f_118_86 (by first | exact dq1 hd rfl | exact dq0 hd rfl | exact dq2 hd rfl | exact dq3 hd rfl | omega) hI (in_w 0 31 h1 rfl) (in_w 0 31 h3 rfl)) (fun e u h => h) (fun v u h => ?_)
  obtain ⟨z9, rfl, rfl, p9⟩ := h
  show GG _ _ _ _ _ _ _ _ [.long z9, .long z3] _ _ _
  refine g_lsub 13 (gd rfl) rfl (fun z12 e12 => ?_)
  refine g_lstore 15 (gd rfl) rfl (Nat.le_of_ble_eq_true rfl) ?_
  refine g_lload 17 (gd rfl) rfl rfl ?_
  refine g_lconst 0 18 (gd rfl) rfl rfl ?_
  refine g_lcmp 19 (gd rfl) rfl (fun z18 e18 => ?_)
  have i18 := lc_in e18
  refine g_if_gt 22 50 (gd rfl) rfl rfl (fun c19 => ?_) (fun c19 => ?_)
  · skip
    have i19 := z_gt 1 1 c19 i18 rfl
    have c19a := lc_gt e18 c19
    have i19a := lr_lt2 1 9223372036854775807 c19a (l_c 0 rfl) (l_rng z12) rfl
    refine g_iconst 1 51 (gd rfl) rfl rfl ?_
    refine g_goto 55 (gd rfl) rfl ?_
    have n55 : ∀ (F T : Nat → Int) (n : Nat), SCP F T n s (x1).toNatClampNeg → NEM n s (x2).toInt → NEM n s (x3).toInt → ISB F T n s (x1).toNatClampNeg (x2).toInt (x3).toInt ((Int32.ofInt 1)) := by intro F T n h c2 c3; have a := p3 F T n h c2; have b := p9 F T n h c3; have t := btr_g a b (scr_b h.1) (scr_b h.1) e12; exact ⟨fun _ => Or.inl (by have h8 := c19a; (first | have a0 := in_u h3 | (have a0 := h3; unfold In at a0)); (first | have a1 := in_u h2 | (have a1 := h2; unfold In at a1)); (first | have a2 := in_u h1 | (have a2 := h1; unfold In at a2)); have oc := oc_116_86; omega), fun q => absurd q (by decide)⟩
    exact g_ireturn (gd rfl) rfl (nb01 (in_w 0 1 (in_c 1 rfl) rfl)) (hP _ _ ⟨(Int32.ofInt 1), rfl, rfl, in_w 0 1 (in_c 1 rfl) rfl, n55⟩)
  · skip
    have i19 := z_le (-1) 0 c19 i18 rfl
    have c19a := lc_le e18 c19
    have i19a := lr_le1 (-9223372036854775808) 0 c19a (l_rng z12) (l_c 0 rfl) rfl
    refine g_lload 24 (gd rfl) rfl rfl ?_
    refine g_lconst 0 25 (gd rfl) rfl rfl ?_
    refine g_lcmp 26 (gd rfl) rfl (fun z25 e25 => ?_)
    have i25 := lc_in e25
    refine g_if_ne 29 54 (gd rfl) rfl rfl (fun c26 => ?_) (fun c26 => ?_)
    · skip
      have c26a := lc_ne e25 c26
      have i26 := lr_ne1 (-9223372036854775808) (-1) c26a i19a (l_c 0 rfl) rfl
      refine g_iconst 0 55 (gd rfl) rfl rfl ?_
      have n55 : ∀ (F T : Nat → Int) (n : Nat), SCP F T n s (x1).toNatClampNeg → NEM n s (x2).toInt → NEM n s (x3).toInt → ISB F T n s (x1).toNatClampNeg (x2).toInt (x3).toInt ((Int32.ofInt 0)) := by intro F T n h c2 c3; have a := p3 F T n h c2; have b := p9 F T n h c3; have t := btr_g a b (scr_b h.1) (scr_b h.1) e12; exact ⟨fun q => absurd (by decide) q, fun _ => Or.inl (by have h9 := c26a; have h8 := c19a; (first | have a0 := in_u h3 | (have a0 := h3; unfold In at a0)); (first | have a1 := in_u h2 | (have a1 := h2; unfold In at a1)); (first | have a2 := in_u h1 | (have a2 := h1; unfold In at a2)); have oc := oc_116_86; omega)⟩
      exact g_ireturn (gd rfl) rfl (nb01 (in_w 0 1 (in_c 0 rfl) rfl)) (hP _ _ ⟨(Int32.ofInt 0), rfl, rfl, in_w 0 1 (in_c 0 rfl) rfl, n55⟩)
    · skip
      have i26 := z_eq 0 0 c26 i25 rfl
      have c26a := lc_eq e25 c26
      have i26a := lr_eq1 0 0 c26a i19a (l_c 0 rfl) rfl
      refine g_aload_n 30 (gd rfl) rfl rfl ?_
      refine g_getA (q2 := 90) 33 (gd rfl) rfl rfl rfl rfl ?_
      refine g_iload_n 34 (gd rfl) rfl rfl ?_
      refine g_iaload 35 (gd rfl) rfl (n := 32) rfl (in_ix h2 rfl) (fun z34 e34 => ?_)
      refine g_calls (As := [.int z34]) (r := []) 38 (gd rfl) rfl rfl rfl rfl rfl (Nat.le_of_ble_eq_true rfl) (Nat.zero_le _) (Nat.zero_le _) (k_264 (by first | exact dq1 hd rfl | exact dq0 hd rfl | exact dq2 hd rfl | exact dq3 hd rfl | omega)) (fun v u h => ?_)
      obtain ⟨z35, rfl, rfl, i35, hb35⟩ := h
      show GG _ _ _ _ _ _ _ _ [.int z35] _ _ _
      refine g_aload_n 39 (gd rfl) rfl rfl ?_
      refine g_getA (q2 := 90) 42 (gd rfl) rfl rfl rfl rfl ?_
      refine g_iload_n 43 (gd rfl) rfl rfl ?_
      refine g_iaload 44 (gd rfl) rfl (n := 32) rfl (in_ix h3 rfl) (fun z43 e43 => ?_)
      refine g_calls (As := [.int z43]) (r := [.int z35]) 47 (gd rfl) rfl rfl rfl rfl rfl (Nat.le_of_ble_eq_true rfl) (Nat.zero_le _) (Nat.zero_le _) (k_264 (by first | exact dq1 hd rfl | exact dq0 hd rfl | exact dq2 hd rfl | exact dq3 hd rfl | omega)) (fun v u h => ?_)
      obtain ⟨z44, rfl, rfl, i44, hb44⟩ := h
      show GG _ _ _ _ _ _ _ _ [.int z44, .int z35] _ _ _
      refine g_cmp_ge 50 54 (gd rfl) rfl rfl (fun c47 => ?_) (fun c47 => ?_)
      · skip
        refine g_iconst 0 55 (gd rfl) rfl rfl ?_
        have n55 : ∀ (F T : Nat → Int) (n : Nat), SCP F T n s (x1).toNatClampNeg → NEM n s (x2).toInt → NEM n s (x3).toInt → ISB F T n s (x1).toNatClampNeg (x2).toInt (x3).toInt ((Int32.ofInt 0)) := by intro F T n h c2 c3; have a := p3 F T n h c2; have b := p9 F T n h c3; have t := btr_g a b (scr_b h.1) (scr_b h.1) e12; have k2 := (show In z35 0 31 ∧ bt (s.1 90 (x2).toNatClampNeg) z35.toNatClampNeg = true ∧ lowB (s.1 90 (x2).toNatClampNeg) z35.toNatClampNeg from (by rw [← e34]; exact hb35 (by rw [e34]; exact nem_nz h.2.2.1 h2 c2))); have k3 := (show In z44 0 31 ∧ bt (s.1 90 (x3).toNatClampNeg) z44.toNatClampNeg = true ∧ lowB (s.1 90 (x3).toNatClampNeg) z44.toNatClampNeg from (by rw [← e43]; exact hb44 (by rw [e43]; exact nem_nz h.2.2.1 h3 c3))); have eq : SCR F T (lbl n (s.1 89)) n (x1).toNatClampNeg (x2).toInt = SCR F T (lbl n (s.1 89)) n (x1).toNatClampNeg (x3).toInt := (by have h9 := c26a; (first | have a0 := in_u h3 | (have a0 := h3; unfold In at a0)); (first | have a1 := in_u h2 | (have a1 := h2; unfold In at a1)); (first | have a2 := in_u h1 | (have a2 := h1; unfold In at a2)); have oc := oc_116_86; omega); first | (exact ⟨fun q => absurd (by decide) q, fun _ => Or.inr ⟨eq, loq_m h.2.2.1 h.1 h3 h2 k3.2.2 k3.2.1 k2.2.2 (show z44.toInt.toNat ≤ z35.toInt.toNat from (by (first | have a0 := in_u h3 | (have a0 := h3; unfold In at a0)); (first | have a1 := in_u h2 | (have a1 := h2; unfold In at a1)); (first | have a2 := in_u h1 | (have a2 := h1; unfold In at a2)); have oc := oc_116_86; omega)) k2.2.1⟩⟩) | (exact ⟨fun _ => Or.inr ⟨eq.symm, loq_m h.2.2.1 h.1 h2 h3 k2.2.2 k2.2.1 k3.2.2 (show z35.toInt.toNat ≤ z44.toInt.toNat from (by (first | have a0 := in_u h3 | (have a0 := h3; unfold In at a0)); (first | have a1 := in_u h2 | (have a1 := h2; unfold In at a1)); (first | have a2 := in_u h1 | (have a2 := h1; unfold In at a2)); have oc := oc_116_86; omega)) k3.2.1⟩, fun q => absurd q (by decide)⟩)
        exact g_ireturn (gd rfl) rfl (nb01 (in_w 0 1 (in_c 0 rfl) rfl)) (hP _ _ ⟨(Int32.ofInt 0), rfl, rfl, in_w 0 1 (in_c 0 rfl) rfl, n55⟩)
      · skip
        have i47 := r_lt1 0 31 c47 i35 i44 rfl
        have i47a := r_lt2 1 32 c47 i35 i44 rfl
        refine g_iconst 1 51 (gd rfl) rfl rfl ?_
        refine g_goto 55 (gd rfl) rfl ?_
        have n55 : ∀ (F T : Nat → Int) (n : Nat), SCP F T n s (x1).toNatClampNeg → NEM n s (x2).toInt → NEM n s (x3).toInt → ISB F T n s (x1).toNatClampNeg (x2).toInt (x3).toInt ((Int32.ofInt 1)) := by intro F T n h c2 c3; have a := p3 F T n h c2; have b := p9 F T n h c3; have t := btr_g a b (scr_b h.1) (scr_b h.1) e12; have k2 := (show In z35 0 31 ∧ bt (s.1 90 (x2).toNatClampNeg) z35.toNatClampNeg = true ∧ lowB (s.1 90 (x2).toNatClampNeg) z35.toNatClampNeg from (by rw [← e34]; exact hb35 (by rw [e34]; exact nem_nz h.2.2.1 h2 c2))); have k3 := (show In z44 0 31 ∧ bt (s.1 90 (x3).toNatClampNeg) z44.toNatClampNeg = true ∧ lowB (s.1 90 (x3).toNatClampNeg) z44.toNatClampNeg from (by rw [← e43]; exact hb44 (by rw [e43]; exact nem_nz h.2.2.1 h3 c3))); have eq : SCR F T (lbl n (s.1 89)) n (x1).toNatClampNeg (x2).toInt = SCR F T (lbl n (s.1 89)) n (x1).toNatClampNeg (x3).toInt := (by have h9 := c26a; (first | have a0 := in_u h3 | (have a0 := h3; unfold In at a0)); (first | have a1 := in_u h2 | (have a1 := h2; unfold In at a1)); (first | have a2 := in_u h1 | (have a2 := h1; unfold In at a2)); have oc := oc_116_86; omega); first | (exact ⟨fun q => absurd (by decide) q, fun _ => Or.inr ⟨eq, loq_m h.2.2.1 h.1 h3 h2 k3.2.2 k3.2.1 k2.2.2 (show z44.toInt.toNat ≤ z35.toInt.toNat from (by (first | have a0 := in_u h3 | (have a0 := h3; unfold In at a0)); (first | have a1 := in_u h2 | (have a1 := h2; unfold In at a1)); (first | have a2 := in_u h1 | (have a2 := h1; unfold In at a2)); have oc := oc_116_86; omega)) k2.2.1⟩⟩) | (exact ⟨fun _ => Or.inr ⟨eq.symm, loq_m h.2.2.1 h.1 h2 h3 k2.2.2 k2.2.1 k3.2.2 (show z35.toInt.toNat ≤ z44.toInt.toNat from (by (first | have a0 := in_u h3 | (have a0 := h3; unfold In at a0)); (first | have a1 := in_u h2 | (have a1 := h2; unfold In at a1)); (first | have a2 := in_u h1 | (have a2 := h1; unfold In at a2)); have oc := oc_116_86; omega)) k3.2.1⟩, fun q => absurd q (by decide)⟩)
        exact g_ireturn (gd rfl) rfl (nb01 (in_w 0 1 (in_c 1 rfl) rfl)) (hP _ _ ⟨(Int32.ofInt 1), rfl, rfl, in_w 0 1 (in_c 1 rfl) rfl, n55⟩)

theorem oc_119_86 : (Int32.ofInt (-1)).toInt = (-1) ∧ (Int32.ofInt 0).toInt = 0 ∧ (Int32.ofInt 1).toInt = 1 ∧ (Int32.ofInt 32).toInt = 32 := ⟨rfl, rfl, rfl, rfl⟩
/-- GraphHouse$Groups.freeGroup -/
theorem f_119_86 {Z : AmZ} {A : Nat → Nat} {s : GS} {ex : va_W} {d : Nat} {X : AmX}  (hd : 1 ≤ d) (hI : Inv s)  : GC Z d 119 [.ref (A 86)] (WW Z A s ++ ex) 0 0 (fun v u => ∃ z : Int32, v = some (.int z) ∧ u = WW Z A s ++ ex ∧ In z (-1) 31 ∧ (FGQ s (z))) X := by
  intro post xp hP hX
  have ct2 : ∀ (k2 : Nat) (y2_1 : Int32), (In y2_1 0 32) → (∀ i : Nat, (i : Int) < (y2_1).toInt → (s.1 90 i).toInt ≠ 0) → 32 - (y2_1).toInt < (k2 : Int) → GG Z (d - 1) 119 post (gx xp) (1 + k2 * 900) 2 (fun j => xlook j [(0, .ref (A 86)), (1, .int y2_1)]) [] (WW Z A s ++ ex) 0 0 := by
    intro k2
    induction k2 with
    | zero => intro y2_1 j2_1 g2_0 mm2; exact m_no mm2 j2_1 rfl
    | succ k2 ih2 =>
      intro y2_1 j2_1 g2_0 mm2
      refine gg_w (M := 1 + k2 * 900 + 900) gws ?_
      refine g_iload_n 3 (gd rfl) rfl rfl ?_
      refine g_bipush 32 5 (gd rfl) rfl rfl ?_
      refine g_cmp_ge 8 25 (gd rfl) rfl rfl (fun c5 => ?_) (fun c5 => ?_)
      · skip
        have i5 := r_le2 32 32 c5 (in_c 32 rfl) j2_1 rfl
        refine g_iconst (-1) 26 (gd rfl) rfl rfl ?_
        have n26 : FGQ s ((Int32.ofInt (-1))) := by exact ⟨fun _ i hi => g2_0 i (by (first | have a0 := in_u i5 | (have a0 := i5; unfold In at a0)); have oc := oc_119_86; omega), fun q => absurd (by decide) q⟩
        exact g_ireturn (gd rfl) rfl rfl (hP _ _ ⟨(Int32.ofInt (-1)), rfl, rfl, in_w (-1) 31 (in_c (-1) rfl) rfl, n26⟩)
      · skip
        have i5 := r_lt1 0 31 c5 j2_1 (in_c 32 rfl) rfl
        refine g_aload_n 9 (gd rfl) rfl rfl ?_
        refine g_getA (q2 := 90) 12 (gd rfl) rfl rfl rfl rfl ?_
        refine g_iload_n 13 (gd rfl) rfl rfl ?_
        refine g_iaload 14 (gd rfl) rfl (n := 32) rfl (in_ix i5 rfl) (fun z13 e13 => ?_)
        refine g_if_ne 17 19 (gd rfl) rfl rfl (fun c14 => ?_) (fun c14 => ?_)
        · skip
          refine g_iinc 22 (gd rfl) rfl rfl (Nat.le_of_ble_eq_true rfl) (fun z19 e19 => ?_)
          have i19 := in_add 1 32 e19 i5 (in_c 1 rfl) rfl rfl
          refine g_goto 2 (gd rfl) rfl ?_
          have n2 : ∀ i : Nat, (i : Int) < (z19).toInt → (s.1 90 i).toInt ≠ 0 := by exact fgq_s g2_0 (by (first | have a0 := in_u i5 | (have a0 := i5; unfold In at a0)); (first | have a1 := in_u i19 | (have a1 := i19; unfold In at a1)); have a2 := t_add e19 i5 (in_c 1 rfl) rfl; (first | have a3 := in_u ((in_c 1 rfl)) | (have a3 := (in_c 1 rfl); unfold In at a3)); have oc := oc_119_86; omega) e13 c14 (by (first | have a0 := in_u i5 | (have a0 := i5; unfold In at a0)); (first | have a1 := in_u i19 | (have a1 := i19; unfold In at a1)); have a2 := t_add e19 i5 (in_c 1 rfl) rfl; (first | have a3 := in_u ((in_c 1 rfl)) | (have a3 := (in_c 1 rfl); unfold In at a3)); have oc := oc_119_86; omega)
          exact gg_w (by first | exact Nat.le_add_right _ _ | exact gw2 | exact gw3 | exact gwe rfl | exact gwf rfl | exact gwg rfl | exact gwh rfl | omega) (gg_f (gf_cons rfl (gf_cons rfl gf_nil)) (ih2  z19  (in_w 0 32 i19 rfl) n2 (m_up mm2 (t_add e19 i5 (in_c 1 rfl) rfl) (in_w 1 1 (in_c 1 rfl) rfl))))
        · skip
          have i14 := z_eq 0 0 c14 (i_rng z13) rfl
          refine g_iload_n 18 (gd rfl) rfl rfl ?_
          have n18 : FGQ s (y2_1) := by exact ⟨fun q => (by exfalso; (first | have a0 := in_u i5 | (have a0 := i5; unfold In at a0)); have oc := oc_119_86; omega), fun _ => ⟨g2_0, by rw [← e13]; exact c14⟩⟩
          exact g_ireturn (gd rfl) rfl rfl (hP _ _ ⟨y2_1, rfl, rfl, in_w (-1) 31 i5 rfl, n18⟩)
  refine g_enter2 (k := 119) (N := 30601) (by first | exact dq1 hd rfl | exact dq0 hd rfl | exact dq2 hd rfl | exact dq3 hd rfl | omega) rfl (Nat.le_of_ble_eq_true rfl) ?_
  refine g_iconst 0 1 (gd rfl) rfl rfl ?_
  refine g_istore_n 2 (gd rfl) rfl (Nat.le_of_ble_eq_true rfl) ?_
  have n2 : ∀ i : Nat, (i : Int) < ((Int32.ofInt 0)).toInt → (s.1 90 i).toInt ≠ 0 := by intro i hi; exfalso; have h9 : (Int32.ofInt 0).toInt = 0 := rfl; omega
  exact gg_w (by first | exact Nat.le_of_ble_eq_true rfl | omega) (gg_f (gf_cons rfl (gf_cons rfl gf_nil)) (ct2 33  (Int32.ofInt 0)  (in_w 0 32 (in_c 0 rfl) rfl) n2 (m_in 33 (in_w 0 32 (in_c 0 rfl) rfl) rfl)))

theorem oc_120_86 : (Int32.ofInt (-1)).toInt = (-1) ∧ (Int32.ofInt 0).toInt = 0 ∧ (Int32.ofInt 1).toInt = 1 := ⟨rfl, rfl, rfl⟩
set_option maxHeartbeats 4000000 in
/-- GraphHouse$Groups.moveTo -/
theorem f_120_86 {Z : AmZ} {A : Nat → Nat} {s : GS} {ex : va_W} {d : Nat} {X : AmX} {x1 : Int32} {x2 : Int32} (hd : 1 ≤ d) (hI : Inv s) (h1 : In x1 0 31) (h2 : In x2 (-1) 31) : GC Z d 120 [.ref (A 86), .int x1, .int x2] (WW Z A s ++ ex) 0 0 (fun v u => ∃ t : GS, Inv t ∧ Fr fm_120_86 s t ∧ ∃ z : Int32, v = some (.int z) ∧ u = WW Z A t ++ ex ∧ In z 0 1 ∧ ((x2).toInt ≠ -1 → (z).toInt ≠ 0 ∧ (t).1 89 = upd (s.1 89) (x1).toNatClampNeg x2) ∧ ((x2).toInt ≠ -1 → ∀ (F T : Nat → Int) (n : Nat), CGI F T n (s.1 89) (s.1 90) (s.1 91) (s.1 92) → n ≤ 32 → (x1).toNatClampNeg < n → (x2).toInt ≠ (s.1 89 (x1).toNatClampNeg).toInt → CGI F T n ((t).1 89) ((t).1 90) ((t).1 91) ((t).1 92))) X := by
  intro post xp hP hX
  refine g_enter2 (k := 120) (N := 900) (by first | exact dq1 hd rfl | exact dq0 hd rfl | exact dq2 hd rfl | exact dq3 hd rfl | omega) rfl (Nat.le_of_ble_eq_true rfl) ?_
  refine g_iload_n 1 (gd rfl) rfl rfl ?_
  refine g_iconst (-1) 2 (gd rfl) rfl rfl ?_
  refine g_cmp_ne 5 7 (gd rfl) rfl rfl (fun c2 => ?_) (fun c2 => ?_)
  · skip
    have i2 := r_ne1 0 31 c2 h2 (in_c (-1) rfl) rfl
    refine g_aload_n 8 (gd rfl) rfl rfl ?_
    refine g_getA (q2 := 89) 11 (gd rfl) rfl rfl rfl rfl ?_
    refine g_iload_n 12 (gd rfl) rfl rfl ?_
    refine g_iaload 13 (gd rfl) rfl (n := 32) rfl (in_ix h1 rfl) (fun z12 e12 => ?_)
    have i12 := inv_I hI (n := 32) (t := 0) 0 31 rfl (in_ix h1 rfl) rfl e12
    refine g_istore_n 14 (gd rfl) rfl (Nat.le_of_ble_eq_true rfl) ?_
    refine g_aload_n 15 (gd rfl) rfl rfl ?_
    refine g_getA (q2 := 90) 18 (gd rfl) rfl rfl rfl rfl ?_
    refine g_iload_n 19 (gd rfl) rfl rfl ?_
    refine g_dup2 20 (gd rfl) rfl rfl rfl ?_
    refine g_iaload 21 (gd rfl) rfl (n := 32) rfl (in_ix i12 rfl) (fun z20 e20 => ?_)
    refine g_iconst 1 22 (gd rfl) rfl rfl ?_
    refine g_iload_n 23 (gd rfl) rfl rfl ?_
    refine g_ishl 24 (gd rfl) rfl (fun z23 e23 => ?_)
    refine g_iconst (-1) 25 (gd rfl) rfl rfl ?_
    refine g_ixor 26 (gd rfl) rfl (fun z25 e25 => ?_)
    refine g_iand 27 (gd rfl) rfl (fun z26 e26 => ?_)
    refine g_iastore 28 (gd rfl) rfl (n := 32) rfl (in_ix i12 rfl) ?_
    have hI27 := inv_sI (q := 90) (j := z12.toNatClampNeg) hI rfl (in_w (-2147483648) 2147483647 (i_rng z26) rfl)
    refine g_aload_n 29 (gd rfl) rfl rfl ?_
    refine g_getA (q2 := 92) 32 (gd rfl) rfl rfl rfl rfl ?_
    refine g_iload_n 33 (gd rfl) rfl rfl ?_
    refine g_dup2 34 (gd rfl) rfl rfl rfl ?_
    refine g_iaload 35 (gd rfl) rfl (n := 32) rfl (in_ix i12 rfl) (fun z34 e34 => ?_)
    refine g_aload_n 36 (gd rfl) rfl rfl ?_
    refine g_getA (q2 := 91) 39 (gd rfl) rfl rfl rfl rfl ?_
    refine g_iload_n 40 (gd rfl) rfl rfl ?_
    refine g_iaload 41 (gd rfl) rfl (n := 32) rfl (in_ix h1 rfl) (fun z40 e40 => ?_)
    refine g_isub 42 (gd rfl) rfl (fun z41 e41 => ?_)
    refine g_iastore 43 (gd rfl) rfl (n := 32) rfl (in_ix i12 rfl) ?_
    have hI42 := inv_sI (q := 92) (j := z12.toNatClampNeg) hI27 rfl (in_w (-2147483648) 2147483647 (i_rng z41) rfl)
    refine g_aload_n 44 (gd rfl) rfl rfl ?_
    refine g_getA (q2 := 92) 47 (gd rfl) rfl rfl rfl rfl ?_
    refine g_iload_n 48 (gd rfl) rfl rfl ?_
    refine g_aload_n 49 (gd rfl) rfl rfl ?_
    refine g_getA (q2 := 90) 52 (gd rfl) rfl rfl rfl rfl ?_
    refine g_iload_n 53 (gd rfl) rfl rfl ?_
    refine g_iaload 54 (gd rfl) rfl (n := 32) rfl (in_ix i2 rfl) (fun z53 e53 => ?_)
    refine g_if_ne 57 66 (gd rfl) rfl rfl (fun c54 => ?_) (fun c54 => ?_)
    · skip
      refine g_aload_n 67 (gd rfl) rfl rfl ?_
      refine g_getA (q2 := 92) 70 (gd rfl) rfl rfl rfl rfl ?_
      refine g_iload_n 71 (gd rfl) rfl rfl ?_
      refine g_iaload 72 (gd rfl) rfl (n := 32) rfl (in_ix i2 rfl) (fun z71 e71 => ?_)
      refine g_aload_n 73 (gd rfl) rfl rfl ?_
      refine g_getA (q2 := 91) 76 (gd rfl) rfl rfl rfl rfl ?_
      refine g_iload_n 77 (gd rfl) rfl rfl ?_
      refine g_iaload 78 (gd rfl) rfl (n := 32) rfl (in_ix h1 rfl) (fun z77 e77 => ?_)
      have q77 : z40 = z77 := (sI_ne rfl (e40)).trans e77.symm
      subst q77
      refine g_iadd 79 (gd rfl) rfl (fun z78 e78 => ?_)
      refine g_iastore 80 (gd rfl) rfl (n := 32) rfl (in_ix i2 rfl) ?_
      have hI79 := inv_sI (q := 92) (j := x2.toNatClampNeg) hI42 rfl (in_w (-2147483648) 2147483647 (i_rng z78) rfl)
      refine g_aload_n 81 (gd rfl) rfl rfl ?_
      refine g_getA (q2 := 90) 84 (gd rfl) rfl rfl rfl rfl ?_
      refine g_iload_n 85 (gd rfl) rfl rfl ?_
      refine g_dup2 86 (gd rfl) rfl rfl rfl ?_
      refine g_iaload 87 (gd rfl) rfl (n := 32) rfl (in_ix i2 rfl) (fun z86 e86 => ?_)
      have q86 : z53 = z86 := (sI_ne rfl (e53)).trans e86.symm
      subst q86
      refine g_iconst 1 88 (gd rfl) rfl rfl ?_
      refine g_iload_n 89 (gd rfl) rfl rfl ?_
      refine g_ishl 90 (gd rfl) rfl (fun z89 e89 => ?_)
      refine g_ior 91 (gd rfl) rfl (fun z90 e90 => ?_)
      refine g_iastore 92 (gd rfl) rfl (n := 32) rfl (in_ix i2 rfl) ?_
      have hI91 := inv_sI (q := 90) (j := x2.toNatClampNeg) hI79 rfl (in_w (-2147483648) 2147483647 (i_rng z90) rfl)
      refine g_aload_n 93 (gd rfl) rfl rfl ?_
      refine g_getA (q2 := 89) 96 (gd rfl) rfl rfl rfl rfl ?_
      refine g_iload_n 97 (gd rfl) rfl rfl ?_
      refine g_iload_n 98 (gd rfl) rfl rfl ?_
      refine g_iastore 99 (gd rfl) rfl (n := 32) rfl (in_ix h1 rfl) ?_
      have hI98 := inv_sI (q := 89) (j := x1.toNatClampNeg) hI91 rfl (in_w 0 31 i2 rfl)
      refine g_iconst 1 100 (gd rfl) rfl rfl ?_
      have n100 : (x2).toInt ≠ -1 → ((Int32.ofInt 1)).toInt ≠ 0 ∧ ((sI (sI (sI (sI (sI s 90 z12.toNatClampNeg z26) 92 z12.toNatClampNeg z41) 92 x2.toNatClampNeg z78) 90 x2.toNatClampNeg z90) 89 x1.toNatClampNeg x2)).1 89 = upd (s.1 89) (x1).toNatClampNeg x2 := by exact fun _ => ⟨by decide, by simp [sI]⟩
      have n100a : (x2).toInt ≠ -1 → ∀ (F T : Nat → Int) (n : Nat), CGI F T n (s.1 89) (s.1 90) (s.1 91) (s.1 92) → n ≤ 32 → (x1).toNatClampNeg < n → (x2).toInt ≠ (s.1 89 (x1).toNatClampNeg).toInt → CGI F T n (((sI (sI (sI (sI (sI s 90 z12.toNatClampNeg z26) 92 z12.toNatClampNeg z41) 92 x2.toNatClampNeg z78) 90 x2.toNatClampNeg z90) 89 x1.toNatClampNeg x2)).1 89) (((sI (sI (sI (sI (sI s 90 z12.toNatClampNeg z26) 92 z12.toNatClampNeg z41) 92 x2.toNatClampNeg z78) 90 x2.toNatClampNeg z90) 89 x1.toNatClampNeg x2)).1 90) (((sI (sI (sI (sI (sI s 90 z12.toNatClampNeg z26) 92 z12.toNatClampNeg z41) 92 x2.toNatClampNeg z78) 90 x2.toNatClampNeg z90) 89 x1.toNatClampNeg x2)).1 91) (((sI (sI (sI (sI (sI s 90 z12.toNatClampNeg z26) 92 z12.toNatClampNeg z41) 92 x2.toNatClampNeg z78) 90 x2.toNatClampNeg z90) 89 x1.toNatClampNeg x2)).1 92) := by intro _; intro F T n h n32 hv hne; have ea : ((sI (sI (sI (sI (sI s 90 z12.toNatClampNeg z26) 92 z12.toNatClampNeg z41) 92 x2.toNatClampNeg z78) 90 x2.toNatClampNeg z90) 89 x1.toNatClampNeg x2)).1 89 = upd (s.1 89) (x1).toNatClampNeg x2 := (by simp [sI]); have eb : ((sI (sI (sI (sI (sI s 90 z12.toNatClampNeg z26) 92 z12.toNatClampNeg z41) 92 x2.toNatClampNeg z78) 90 x2.toNatClampNeg z90) 89 x1.toNatClampNeg x2)).1 90 = upd (upd (s.1 90) z12.toNatClampNeg z26) (x2).toNatClampNeg z90 := (by simp [sI]); have ec : ((sI (sI (sI (sI (sI s 90 z12.toNatClampNeg z26) 92 z12.toNatClampNeg z41) 92 x2.toNatClampNeg z78) 90 x2.toNatClampNeg z90) 89 x1.toNatClampNeg x2)).1 91 = s.1 91 := (by simp [sI]); have ed : ((sI (sI (sI (sI (sI s 90 z12.toNatClampNeg z26) 92 z12.toNatClampNeg z41) 92 x2.toNatClampNeg z78) 90 x2.toNatClampNeg z90) 89 x1.toNatClampNeg x2)).1 92 = upd (upd (s.1 92) z12.toNatClampNeg z41) (x2).toNatClampNeg z78 := (by simp [sI]); rw [ea, eb, ec, ed]; exact cgi_mv h n32 h1 hv i2 e12 i12 (by rw [e12]; exact hne) e20 e23 e25 e26 (e34.trans (congrFun (sI_p rfl) _)) (e40.trans (congrFun (sI_p rfl) _)) e41 (e53.trans (by rw [sI_p rfl, sI_q, up_n (show (x2).toNatClampNeg ≠ z12.toNatClampNeg from (by have h9 := hne; rw [← e12] at h9; show (x2).toInt.toNat ≠ z12.toInt.toNat; (first | have a0 := in_u i2 | (have a0 := i2; unfold In at a0)); (first | have a1 := in_u h1 | (have a1 := h1; unfold In at a1)); (first | have a2 := in_u i12 | (have a2 := i12; unfold In at a2)); have oc := oc_120_86; omega))])) (Or.inl ⟨c54, by rw [e78, (show z71 = s.1 92 (x2).toNatClampNeg from e71.trans (by rw [sI_q, sI_p rfl, up_n (show (x2).toNatClampNeg ≠ z12.toNatClampNeg from (by have h9 := hne; rw [← e12] at h9; show (x2).toInt.toNat ≠ z12.toInt.toNat; (first | have a0 := in_u i2 | (have a0 := i2; unfold In at a0)); (first | have a1 := in_u h1 | (have a1 := h1; unfold In at a1)); (first | have a2 := in_u i12 | (have a2 := i12; unfold In at a2)); have oc := oc_120_86; omega))]))]⟩) (by rw [show z23 = z89 from e23.trans e89.symm]; exact e90)
      exact g_ireturn (gd rfl) rfl (nb01 (in_w 0 1 (in_c 1 rfl) rfl)) (hP _ _ ⟨(sI (sI (sI (sI (sI s 90 z12.toNatClampNeg z26) 92 z12.toNatClampNeg z41) 92 x2.toNatClampNeg z78) 90 x2.toNatClampNeg z90) 89 x1.toNatClampNeg x2), hI98, (fr_sI rfl (fr_sI rfl (fr_sI rfl (fr_sI rfl (fr_sI rfl fr_rf))))), (Int32.ofInt 1), rfl, rfl, in_w 0 1 (in_c 1 rfl) rfl, n100, n100a⟩)
    · skip
      have i54 := z_eq 0 0 c54 (i_rng z53) rfl
      refine g_aload_n 58 (gd rfl) rfl rfl ?_
      refine g_getA (q2 := 91) 61 (gd rfl) rfl rfl rfl rfl ?_
      refine g_iload_n 62 (gd rfl) rfl rfl ?_
      refine g_iaload 63 (gd rfl) rfl (n := 32) rfl (in_ix h1 rfl) (fun z62 e62 => ?_)
      have q62 : z40 = z62 := (sI_ne rfl (e40)).trans e62.symm
      subst q62
      refine g_goto 79 (gd rfl) rfl ?_
      refine g_iastore 80 (gd rfl) rfl (n := 32) rfl (in_ix i2 rfl) ?_
      have hI79 := inv_sI (q := 92) (j := x2.toNatClampNeg) hI42 rfl (in_w (-2147483648) 2147483647 (i_rng z40) rfl)
      refine g_aload_n 81 (gd rfl) rfl rfl ?_
      refine g_getA (q2 := 90) 84 (gd rfl) rfl rfl rfl rfl ?_
      refine g_iload_n 85 (gd rfl) rfl rfl ?_
      refine g_dup2 86 (gd rfl) rfl rfl rfl ?_
      refine g_iaload 87 (gd rfl) rfl (n := 32) rfl (in_ix i2 rfl) (fun z86 e86 => ?_)
      have q86 : z53 = z86 := (sI_ne rfl (e53)).trans e86.symm
      subst q86
      refine g_iconst 1 88 (gd rfl) rfl rfl ?_
      refine g_iload_n 89 (gd rfl) rfl rfl ?_
      refine g_ishl 90 (gd rfl) rfl (fun z89 e89 => ?_)
      refine g_ior 91 (gd rfl) rfl (fun z90 e90 => ?_)
      refine g_iastore 92 (gd rfl) rfl (n := 32) rfl (in_ix i2 rfl) ?_
      have hI91 := inv_sI (q := 90) (j := x2.toNatClampNeg) hI79 rfl (in_w (-2147483648) 2147483647 (i_rng z90) rfl)
      refine g_aload_n 93 (gd rfl) rfl rfl ?_
      refine g_getA (q2 := 89) 96 (gd rfl) rfl rfl rfl rfl ?_
      refine g_iload_n 97 (gd rfl) rfl rfl ?_
      refine g_iload_n 98 (gd rfl) rfl rfl ?_
      refine g_iastore 99 (gd rfl) rfl (n := 32) rfl (in_ix h1 rfl) ?_
      have hI98 := inv_sI (q := 89) (j := x1.toNatClampNeg) hI91 rfl (in_w 0 31 i2 rfl)
      refine g_iconst 1 100 (gd rfl) rfl rfl ?_
      have n100 : (x2).toInt ≠ -1 → ((Int32.ofInt 1)).toInt ≠ 0 ∧ ((sI (sI (sI (sI (sI s 90 z12.toNatClampNeg z26) 92 z12.toNatClampNeg z41) 92 x2.toNatClampNeg z40) 90 x2.toNatClampNeg z90) 89 x1.toNatClampNeg x2)).1 89 = upd (s.1 89) (x1).toNatClampNeg x2 := by exact fun _ => ⟨by decide, by simp [sI]⟩
      have n100a : (x2).toInt ≠ -1 → ∀ (F T : Nat → Int) (n : Nat), CGI F T n (s.1 89) (s.1 90) (s.1 91) (s.1 92) → n ≤ 32 → (x1).toNatClampNeg < n → (x2).toInt ≠ (s.1 89 (x1).toNatClampNeg).toInt → CGI F T n (((sI (sI (sI (sI (sI s 90 z12.toNatClampNeg z26) 92 z12.toNatClampNeg z41) 92 x2.toNatClampNeg z40) 90 x2.toNatClampNeg z90) 89 x1.toNatClampNeg x2)).1 89) (((sI (sI (sI (sI (sI s 90 z12.toNatClampNeg z26) 92 z12.toNatClampNeg z41) 92 x2.toNatClampNeg z40) 90 x2.toNatClampNeg z90) 89 x1.toNatClampNeg x2)).1 90) (((sI (sI (sI (sI (sI s 90 z12.toNatClampNeg z26) 92 z12.toNatClampNeg z41) 92 x2.toNatClampNeg z40) 90 x2.toNatClampNeg z90) 89 x1.toNatClampNeg x2)).1 91) (((sI (sI (sI (sI (sI s 90 z12.toNatClampNeg z26) 92 z12.toNatClampNeg z41) 92 x2.toNatClampNeg z40) 90 x2.toNatClampNeg z90) 89 x1.toNatClampNeg x2)).1 92) := by intro _; intro F T n h n32 hv hne; have ea : ((sI (sI (sI (sI (sI s 90 z12.toNatClampNeg z26) 92 z12.toNatClampNeg z41) 92 x2.toNatClampNeg z40) 90 x2.toNatClampNeg z90) 89 x1.toNatClampNeg x2)).1 89 = upd (s.1 89) (x1).toNatClampNeg x2 := (by simp [sI]); have eb : ((sI (sI (sI (sI (sI s 90 z12.toNatClampNeg z26) 92 z12.toNatClampNeg z41) 92 x2.toNatClampNeg z40) 90 x2.toNatClampNeg z90) 89 x1.toNatClampNeg x2)).1 90 = upd (upd (s.1 90) z12.toNatClampNeg z26) (x2).toNatClampNeg z90 := (by simp [sI]); have ec : ((sI (sI (sI (sI (sI s 90 z12.toNatClampNeg z26) 92 z12.toNatClampNeg z41) 92 x2.toNatClampNeg z40) 90 x2.toNatClampNeg z90) 89 x1.toNatClampNeg x2)).1 91 = s.1 91 := (by simp [sI]); have ed : ((sI (sI (sI (sI (sI s 90 z12.toNatClampNeg z26) 92 z12.toNatClampNeg z41) 92 x2.toNatClampNeg z40) 90 x2.toNatClampNeg z90) 89 x1.toNatClampNeg x2)).1 92 = upd (upd (s.1 92) z12.toNatClampNeg z41) (x2).toNatClampNeg z40 := (by simp [sI]); rw [ea, eb, ec, ed]; exact cgi_mv h n32 h1 hv i2 e12 i12 (by rw [e12]; exact hne) e20 e23 e25 e26 (e34.trans (congrFun (sI_p rfl) _)) (e40.trans (congrFun (sI_p rfl) _)) e41 (e53.trans (by rw [sI_p rfl, sI_q, up_n (show (x2).toNatClampNeg ≠ z12.toNatClampNeg from (by have h9 := hne; rw [← e12] at h9; show (x2).toInt.toNat ≠ z12.toInt.toNat; (first | have a0 := in_u i2 | (have a0 := i2; unfold In at a0)); (first | have a1 := in_u h1 | (have a1 := h1; unfold In at a1)); (first | have a2 := in_u i12 | (have a2 := i12; unfold In at a2)); have oc := oc_120_86; omega))])) (Or.inr ⟨c54, rfl⟩) (by rw [show z23 = z89 from e23.trans e89.symm]; exact e90)
      exact g_ireturn (gd rfl) rfl (nb01 (in_w 0 1 (in_c 1 rfl) rfl)) (hP _ _ ⟨(sI (sI (sI (sI (sI s 90 z12.toNatClampNeg z26) 92 z12.toNatClampNeg z41) 92 x2.toNatClampNeg z40) 90 x2.toNatClampNeg z90) 89 x1.toNatClampNeg x2), hI98, (fr_sI rfl (fr_sI rfl (fr_sI rfl (fr_sI rfl (fr_sI rfl fr_rf))))), (Int32.ofInt 1), rfl, rfl, in_w 0 1 (in_c 1 rfl) rfl, n100, n100a⟩)
  · skip
    have i2 := r_eq1 (-1) (-1) c2 h2 (in_c (-1) rfl) rfl
    refine g_iconst 0 6 (gd rfl) rfl rfl ?_
    have n6 : (x2).toInt ≠ -1 → ((Int32.ofInt 0)).toInt ≠ 0 ∧ (s).1 89 = upd (s.1 89) (x1).toNatClampNeg x2 := by exact fun q => absurd (by (first | have a0 := in_u i2 | (have a0 := i2; unfold In at a0)); (first | have a1 := in_u h1 | (have a1 := h1; unfold In at a1)); have oc := oc_120_86; omega) q
    have n6a : (x2).toInt ≠ -1 → ∀ (F T : Nat → Int) (n : Nat), CGI F T n (s.1 89) (s.1 90) (s.1 91) (s.1 92) → n ≤ 32 → (x1).toNatClampNeg < n → (x2).toInt ≠ (s.1 89 (x1).toNatClampNeg).toInt → CGI F T n ((s).1 89) ((s).1 90) ((s).1 91) ((s).1 92) := by exact fun q => absurd (by (first | have a0 := in_u i2 | (have a0 := i2; unfold In at a0)); (first | have a1 := in_u h1 | (have a1 := h1; unfold In at a1)); have oc := oc_120_86; omega) q
    exact g_ireturn (gd rfl) rfl (nb01 (in_w 0 1 (in_c 0 rfl) rfl)) (hP _ _ ⟨s, hI, fr_rf, (Int32.ofInt 0), rfl, rfl, in_w 0 1 (in_c 0 rfl) rfl, n6, n6a⟩)
