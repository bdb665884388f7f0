/-! FUNCTIONAL CONTRACTS, by fgen.py -/
theorem oc_135_1_46 : (Int32.ofInt (-4)).toInt = (-4) ∧ (Int32.ofInt (-1)).toInt = (-1) ∧ (Int32.ofInt 0).toInt = 0 ∧ (Int32.ofInt 1).toInt = 1 ∧ (Int32.ofInt 7).toInt = 7 ∧ (Int32.ofInt 1000).toInt = 1000 := ⟨rfl, rfl, rfl, rfl, rfl, rfl⟩
/-- GraphHouse$Ledger.carryOut -/
theorem f_135_1_46 {Z : AmZ} {A : Nat → Nat} {s : GS} {ex : va_W} {d : Nat} {X : AmX} {u_2_0 : Int32} {u_2_1 : Int32} {u_30_0 : Int32} {u_46_1 : Int32} (hd : 10 ≤ d) (hI : Inv s) (e_2_0 : u_2_0 = s.2.2.1 2 0) (e_2_1 : u_2_1 = s.2.2.1 2 1) (e_30_0 : u_30_0 = s.2.2.1 30 0) (e_46_1 : u_46_1 = s.2.2.1 46 1) (q_0 : KL s) (q_1 : TQ s) : GC Z d 135 [.ref (A 1), .ref (A 46)] (WW Z A s ++ ex) (lgC s) (lgS s) (fun v u => ∃ a : Nat, ∃ t : GS, Inv t ∧ Fr fm_135_1_46 s t ∧ ∃ z : Int32, v = some (.int z) ∧ u = WW Z (ax A 30 a) t ++ ex ∧ In z (-4) 1000 ∧ (KL t) ∧ ((z).toInt ≠ -4 → LOT (s.1 47) (s.2.2.1 46 1).toInt.toNat (gvC s) (z).toInt 0 0 (gvC t) ∧ (t.2.2.1 46 6).toInt = -1 ∧ (t.2.2.1 46 7).toInt = -1) ∧ ((z).toInt = -4 → LOT (s.1 47) (s.2.2.1 46 1).toInt.toNat (gvC s) (-4) (t.2.2.1 46 6).toInt (t.2.2.1 46 7).toInt (gvC t)) ∧ (TQ t) ∧ (LCO s t z)) X := by
  intro post xp hP hX
  have ro_46_1 := inv_F hI 0 1000 rfl e_46_1
  have ct17 : ∀ (k17 : Nat) (sc17 : GS) (ac17 : Nat) (cc17 : Nat) (cs17 : Nat) (y17_2 : Int32) (w17_46_2 : Int32) (w17_2_0 : Int32) (w17_2_1 : Int32) (w17_30_0 : Int32), Inv sc17 → Fr fm_135_1_46 s sc17 → (lgC sc17 ≤ cc17) → (lgS sc17 ≤ cs17) → (In y17_2 0 2001) → (w17_46_2 = sc17.2.2.1 46 2) → (w17_2_0 = sc17.2.2.1 2 0) → (w17_2_1 = sc17.2.2.1 2 1) → (w17_30_0 = sc17.2.2.1 30 0) → ((w17_46_2).toInt ≤ (u_46_1).toInt) → ((u_2_0).toInt ≤ (w17_2_0).toInt) → (KL sc17) → ((∀ p : Nat, p < 160 → sc17.1 18 p = s.1 4 p ∧ sc17.1 19 p = s.1 5 p) ∧ sc17.2.2.1 16 0 = s.2.2.1 2 0 ∧ sc17.2.2.1 16 1 = s.2.2.1 2 1) → (∀ k : Nat, (k : Int) < 7 * (s.2.2.1 2 0).toInt → sc17.1 30 k = s.1 30 k) → (GEQ (gvS sc17) (gvC s) ∧ TQS sc17) → (LRN (s.1 47) (s.2.2.1 46 1).toInt.toNat (gvC s) (y17_2).toInt.toNat (w17_46_2).toInt.toNat (gvC sc17)) → (TQ sc17) → ((sc17.2.2.1 46 6).toInt = -1 ∧ (sc17.2.2.1 46 7).toInt = -1) → (LGS s sc17 (y17_2).toInt.toNat) → 2001 - (y17_2).toInt < (k17 : Int) → GG Z (d - 1) 135 post (gx xp) (1 + k17 * 900) 17 (fun j => xlook j [(0, .ref (A 1)), (1, .ref (A 46)), (2, .int y17_2)]) [] (WW Z (ax A 30 ac17) sc17 ++ ex) cc17 cs17 := by
    intro k17
    induction k17 with
    | zero => intro sc17 ac17 cc17 cs17 y17_2 w17_46_2 w17_2_0 w17_2_1 w17_30_0 hIc17 hFc17 hcc17 hcs17 j17_2 v17_46_2 v17_2_0 v17_2_1 v17_30_0 n17_0 n17_1 g17_0 g17_1 g17_2 g17_3 g17_4 g17_5 g17_6 g17_7 mm17; exact m_no mm17 j17_2 rfl
    | succ k17 ih17 =>
      intro sc17 ac17 cc17 cs17 y17_2 w17_46_2 w17_2_0 w17_2_1 w17_30_0 hIc17 hFc17 hcc17 hcs17 j17_2 v17_46_2 v17_2_0 v17_2_1 v17_30_0 n17_0 n17_1 g17_0 g17_1 g17_2 g17_3 g17_4 g17_5 g17_6 g17_7 mm17
      refine gg_w (M := 1 + k17 * 900 + 900) gws ?_
      refine g_iload_n 18 (gd rfl) rfl rfl ?_
      refine g_sipush 1000 21 (gd rfl) rfl rfl ?_
      refine g_cmp_gt 24 68 (gd rfl) rfl rfl (fun c21 => ?_) (fun c21 => ?_)
      · skip
        have i21 := r_lt2 1001 2001 c21 (in_c 1000 rfl) j17_2 rfl
        refine g_bipush (-4) 70 (gd rfl) rfl rfl ?_
        have n70 : KL sc17 := by exact g17_0
        have n70a : ((Int32.ofInt (-4))).toInt ≠ -4 → LOT (s.1 47) (s.2.2.1 46 1).toInt.toNat (gvC s) ((Int32.ofInt (-4))).toInt 0 0 (gvC sc17) ∧ (sc17.2.2.1 46 6).toInt = -1 ∧ (sc17.2.2.1 46 7).toInt = -1 := by intro h; exact absurd rfl h
        have n70b : ((Int32.ofInt (-4))).toInt = -4 → LOT (s.1 47) (s.2.2.1 46 1).toInt.toNat (gvC s) (-4) (sc17.2.2.1 46 6).toInt (sc17.2.2.1 46 7).toInt (gvC sc17) := by intro _; exfalso; have h9 := lrn_l _ g17_4; (first | have a0 := oa6 ro_46_1 ((inv_F hIc17 448 28000 rfl v17_30_0)) ((inv_F hIc17 0 32 rfl v17_2_1)) ((inv_F hIc17 0 4000 rfl v17_2_0)) ((inv_F hIc17 0 1000 rfl v17_46_2)) i21 | ((first | have a0 := in_u ro_46_1 | (have a0 := ro_46_1; unfold In at a0)); (first | have a1 := in_u ((inv_F hIc17 448 28000 rfl v17_30_0)) | (have a1 := (inv_F hIc17 448 28000 rfl v17_30_0); unfold In at a1)); (first | have a2 := in_u ((inv_F hIc17 0 32 rfl v17_2_1)) | (have a2 := (inv_F hIc17 0 32 rfl v17_2_1); unfold In at a2)); (first | have a3 := in_u ((inv_F hIc17 0 4000 rfl v17_2_0)) | (have a3 := (inv_F hIc17 0 4000 rfl v17_2_0); unfold In at a3)); (first | have a4 := in_u ((inv_F hIc17 0 1000 rfl v17_46_2)) | (have a4 := (inv_F hIc17 0 1000 rfl v17_46_2); unfold In at a4)); (first | have a5 := in_u i21 | (have a5 := i21; unfold In at a5)))); have oc := oc_135_1_46; omega
        have n70c : TQ sc17 := by exact g17_5
        have n70d : LCO s sc17 (Int32.ofInt (-4)) := by exact ⟨fun h => absurd rfl h, fun _ => (by exfalso; have h9 := lrn_l _ g17_4; (first | have a0 := oa6 ro_46_1 ((inv_F hIc17 448 28000 rfl v17_30_0)) ((inv_F hIc17 0 32 rfl v17_2_1)) ((inv_F hIc17 0 4000 rfl v17_2_0)) ((inv_F hIc17 0 1000 rfl v17_46_2)) i21 | ((first | have a0 := in_u ro_46_1 | (have a0 := ro_46_1; unfold In at a0)); (first | have a1 := in_u ((inv_F hIc17 448 28000 rfl v17_30_0)) | (have a1 := (inv_F hIc17 448 28000 rfl v17_30_0); unfold In at a1)); (first | have a2 := in_u ((inv_F hIc17 0 32 rfl v17_2_1)) | (have a2 := (inv_F hIc17 0 32 rfl v17_2_1); unfold In at a2)); (first | have a3 := in_u ((inv_F hIc17 0 4000 rfl v17_2_0)) | (have a3 := (inv_F hIc17 0 4000 rfl v17_2_0); unfold In at a3)); (first | have a4 := in_u ((inv_F hIc17 0 1000 rfl v17_46_2)) | (have a4 := (inv_F hIc17 0 1000 rfl v17_46_2); unfold In at a4)); (first | have a5 := in_u i21 | (have a5 := i21; unfold In at a5)))); have oc := oc_135_1_46; omega)⟩
        exact g_ireturn (gd rfl) rfl rfl (hP _ _ ⟨ac17, sc17, hIc17, hFc17, (Int32.ofInt (-4)), rfl, rfl, in_w (-4) 1000 (in_c (-4) rfl) rfl, n70, n70a, n70b, n70c, n70d⟩)
      · skip
        have i21 := r_le1 0 1000 c21 j17_2 (in_c 1000 rfl) rfl
        refine g_aload_n 25 (gd rfl) rfl rfl ?_
        refine g_bipush 7 27 (gd rfl) rfl rfl ?_
        refine g_iconst 1 28 (gd rfl) rfl rfl ?_
        have v28 : u_46_1 = sc17.2.2.1 46 1 := fr_F e_46_1 hFc17 rfl
        have n28 : (w17_46_2).toInt ≤ (u_46_1).toInt := by first | exact n17_0 | ((first | have a0 := oa6 ro_46_1 ((inv_F hIc17 448 28000 rfl v17_30_0)) ((inv_F hIc17 0 32 rfl v17_2_1)) ((inv_F hIc17 0 4000 rfl v17_2_0)) ((inv_F hIc17 0 1000 rfl v17_46_2)) i21 | ((first | have a0 := in_u ro_46_1 | (have a0 := ro_46_1; unfold In at a0)); (first | have a1 := in_u ((inv_F hIc17 448 28000 rfl v17_30_0)) | (have a1 := (inv_F hIc17 448 28000 rfl v17_30_0); unfold In at a1)); (first | have a2 := in_u ((inv_F hIc17 0 32 rfl v17_2_1)) | (have a2 := (inv_F hIc17 0 32 rfl v17_2_1); unfold In at a2)); (first | have a3 := in_u ((inv_F hIc17 0 4000 rfl v17_2_0)) | (have a3 := (inv_F hIc17 0 4000 rfl v17_2_0); unfold In at a3)); (first | have a4 := in_u ((inv_F hIc17 0 1000 rfl v17_46_2)) | (have a4 := (inv_F hIc17 0 1000 rfl v17_46_2); unfold In at a4)); (first | have a5 := in_u i21 | (have a5 := i21; unfold In at a5)))); have oc := oc_135_1_46; omega)
        refine g_callv (X := _) (As := [.int (Int32.ofInt 7), .int (Int32.ofInt 1)]) (r := []) (b := A 46) (q := 46) 31 (gd rfl) rfl rfl rfl rfl rfl (ww_o rfl) (Nat.le_of_ble_eq_true rfl) (Nat.zero_le _) (Nat.zero_le _) (f_171_46 (A := (ax A 30 ac17)) (by omega) hIc17 (in_w 7 7 (in_c 7 rfl) rfl) (in_w 1 1 (in_c 1 rfl) rfl) v17_46_2 v28 n28) (fun e u h => h) (fun v u h => ?_)
        obtain ⟨s28, hI28, hF28, n28a, n28b, n28c, rfl, rfl, p28, p28a, p28b⟩ := h
        obtain ⟨z28a, e28⟩ : ∃ w, w = s28.2.2.1 46 2 := ⟨_, rfl⟩
        have i28a := inv_F hI28 0 1000 rfl e28
        obtain ⟨z28b, e28a⟩ : ∃ w, w = s28.2.2.1 46 4 := ⟨_, rfl⟩
        have i28b := inv_F hI28 0 1000 rfl e28a
        rw [← (show z28a = s28.2.2.1 46 2 from e28)] at n28a
        rw [← (show u_46_1 = s28.2.2.1 46 1 from fr_F (fr_F e_46_1 hFc17 rfl) hF28 rfl)] at n28a
        rw [← (show z28a = s28.2.2.1 46 2 from e28)] at n28b
        rw [← (show z28b = s28.2.2.1 46 4 from e28a)] at n28b
        rw [← (show w17_46_2 = sc17.2.2.1 46 2 from v17_46_2)] at n28c
        rw [← (show z28b = s28.2.2.1 46 4 from e28a)] at n28c
        show GG _ _ _ _ _ _ _ _ [] _ _ _
        have ht28 : TKN (s28.1 47) (s28.2.2.1 46 1).toInt.toNat (w17_46_2).toInt.toNat (s28.2.2.1 46 4).toInt.toNat (s28.2.2.1 46 2).toInt.toNat (s28.2.2.1 46 3).toInt (s28.2.2.1 46 5).toInt := (by rw [hF28.1 47 rfl, hF28.2.2.1 46 1 rfl, v17_46_2]; exact p28b)
        have hx28 : s28.1 47 = s.1 47 := (hF28.1 47 rfl).trans (hFc17.1 47 rfl)
        have hl28 : s28.2.2.1 46 1 = s.2.2.1 46 1 := (hF28.2.2.1 46 1 rfl).trans (hFc17.2.2.1 46 1 rfl)
        have hg28 : gvC s28 = gvC sc17 := gvC_cg hF28 rfl
        have hk28 : ∀ t : GS, (∀ a : Nat, TKN (s28.1 47) (s28.2.2.1 46 1).toInt.toNat a (s28.2.2.1 46 4).toInt.toNat (s28.2.2.1 46 2).toInt.toNat (s28.2.2.1 46 3).toInt (s28.2.2.1 46 5).toInt → ∃ c V, CMP (s28.1 47) (s28.2.2.1 46 1).toInt.toNat a (s28.2.2.1 46 4).toInt.toNat c V (t.2.2.1 46 2).toInt.toNat ∧ dkC (gvC s28) c V ∧ gvC t = opC (gvC s28) c V) → LRN (s.1 47) (s.2.2.1 46 1).toInt.toNat (gvC s) (y17_2.toInt.toNat + 1) (t.2.2.1 46 2).toInt.toNat (gvC t) := (fun t h => by obtain ⟨c, V, h1, h2, h3⟩ := h _ ht28; rw [hx28, hl28] at h1; rw [hg28] at h2 h3; exact ⟨_, _, _, c, V, g17_4, h1, h2, h3⟩)
        refine g_aload_n 32 (gd rfl) rfl rfl ?_
        refine g_getI (A := (ax A 30 ac17)) (q := 46) 35 (gd rfl) rfl rfl rfl (fun z32 e32 => ?_)
        have i32 := inv_F hI28 0 5 rfl e32
        refine g_if_ne 38 40 (gd rfl) rfl rfl (fun c35 => ?_) (fun c35 => ?_)
        · skip
          have i35 := z_ne 1 5 c35 i32 rfl
          refine g_aload_n 41 (gd rfl) rfl rfl ?_
          refine g_aload_n 42 (gd rfl) rfl rfl ?_
          have v42 : w17_2_0 = s28.2.2.1 2 0 := fr_F (v17_2_0) hF28 rfl
          have v42a : w17_2_1 = s28.2.2.1 2 1 := fr_F (v17_2_1) hF28 rfl
          have v42b : w17_30_0 = s28.2.2.1 30 0 := fr_F (v17_30_0) hF28 rfl
          have v42c : u_46_1 = s28.2.2.1 46 1 := fr_F (fr_F e_46_1 hFc17 rfl) hF28 rfl
          have n42 : (z28a).toInt ≤ (u_46_1).toInt := by (first | have a0 := oa9 ro_46_1 ((inv_F hIc17 448 28000 rfl v17_30_0)) ((inv_F hIc17 0 32 rfl v17_2_1)) ((inv_F hIc17 0 4000 rfl v17_2_0)) ((inv_F hIc17 0 1000 rfl v17_46_2)) i21 i35 i28b i28a | ((first | have a0 := in_u ro_46_1 | (have a0 := ro_46_1; unfold In at a0)); (first | have a1 := in_u ((inv_F hIc17 448 28000 rfl v17_30_0)) | (have a1 := (inv_F hIc17 448 28000 rfl v17_30_0); unfold In at a1)); (first | have a2 := in_u ((inv_F hIc17 0 32 rfl v17_2_1)) | (have a2 := (inv_F hIc17 0 32 rfl v17_2_1); unfold In at a2)); (first | have a3 := in_u ((inv_F hIc17 0 4000 rfl v17_2_0)) | (have a3 := (inv_F hIc17 0 4000 rfl v17_2_0); unfold In at a3)); (first | have a4 := in_u ((inv_F hIc17 0 1000 rfl v17_46_2)) | (have a4 := (inv_F hIc17 0 1000 rfl v17_46_2); unfold In at a4)); (first | have a5 := in_u i21 | (have a5 := i21; unfold In at a5)); (first | have a6 := in_u i35 | (have a6 := i35; unfold In at a6)); (first | have a7 := in_u i28b | (have a7 := i28b; unfold In at a7)); (first | have a8 := in_u i28a | (have a8 := i28a; unfold In at a8)))); have oc := oc_135_1_46; omega
          have p42 : KL s28 := by exact kl_fr g17_0 hF28 rfl
          have p42a : (s28.2.2.1 46 3).toInt = 1 → In (s28.2.2.1 46 5) 0 25 := by exact p28a
          have p42b : ∃ a : Nat, TKN (s28.1 47) (s28.2.2.1 46 1).toInt.toNat a (s28.2.2.1 46 4).toInt.toNat (s28.2.2.1 46 2).toInt.toNat (s28.2.2.1 46 3).toInt (s28.2.2.1 46 5).toInt := by exact ⟨_, ht28⟩
          have p42c : TQ s28 := by exact tq_fr g17_5 hF28 rfl
          have p42d : (s28.2.2.1 46 3).toInt ≠ 0 := by rw [← (show z32 = s28.2.2.1 46 3 from e32)]; (first | have a0 := oa9 ro_46_1 ((inv_F hIc17 448 28000 rfl v17_30_0)) ((inv_F hIc17 0 32 rfl v17_2_1)) ((inv_F hIc17 0 4000 rfl v17_2_0)) ((inv_F hIc17 0 1000 rfl v17_46_2)) i21 i35 i28b i28a | ((first | have a0 := in_u ro_46_1 | (have a0 := ro_46_1; unfold In at a0)); (first | have a1 := in_u ((inv_F hIc17 448 28000 rfl v17_30_0)) | (have a1 := (inv_F hIc17 448 28000 rfl v17_30_0); unfold In at a1)); (first | have a2 := in_u ((inv_F hIc17 0 32 rfl v17_2_1)) | (have a2 := (inv_F hIc17 0 32 rfl v17_2_1); unfold In at a2)); (first | have a3 := in_u ((inv_F hIc17 0 4000 rfl v17_2_0)) | (have a3 := (inv_F hIc17 0 4000 rfl v17_2_0); unfold In at a3)); (first | have a4 := in_u ((inv_F hIc17 0 1000 rfl v17_46_2)) | (have a4 := (inv_F hIc17 0 1000 rfl v17_46_2); unfold In at a4)); (first | have a5 := in_u i21 | (have a5 := i21; unfold In at a5)); (first | have a6 := in_u i35 | (have a6 := i35; unfold In at a6)); (first | have a7 := in_u i28b | (have a7 := i28b; unfold In at a7)); (first | have a8 := in_u i28a | (have a8 := i28a; unfold In at a8)))); have oc := oc_135_1_46; omega
          refine g_callv (X := _) (As := [.ref (A 46)]) (r := []) (b := A 1) (q := 1) 45 (gd rfl) rfl rfl rfl rfl rfl (ww_o rfl) (Nat.le_of_ble_eq_true rfl) (Nat.le_trans (lg_lc (inv_F hI28 448 28000 (q := 30) (j := 0) rfl rfl)).1 (by have h2 := (lg_cg (hF28.2.2.1 30 0 rfl)).1; omega)) (Nat.le_trans (lg_lc (inv_F hI28 448 28000 (q := 30) (j := 0) rfl rfl)).2 (by have h2 := (lg_cg (hF28.2.2.1 30 0 rfl)).2; omega)) (f_136_1_46 (A := (ax A 30 ac17)) (by omega) hI28 v42 v42a v42b e28 v42c e32 e28a rfl n42 p42 p42a p42b p42c p42d) (fun e u h => h) (fun v u h => ?_)
          obtain ⟨a42, s42, hI42, hF42, n42a, n42b, z42, rfl, rfl, i42, p42e, p42f, p42g, p42h, p42i, p42j, p42k, p42l, p42m, p42n⟩ := h
          rw [ax_ax]
          obtain ⟨z42a, e42⟩ : ∃ w, w = s42.2.2.1 46 2 := ⟨_, rfl⟩
          have i42a := inv_F hI42 0 1000 rfl e42
          obtain ⟨z42b, e42a⟩ : ∃ w, w = s42.2.2.1 2 0 := ⟨_, rfl⟩
          have i42b := inv_F hI42 0 4000 rfl e42a
          rw [← (show z42a = s42.2.2.1 46 2 from e42)] at n42a
          rw [← (show u_46_1 = s42.2.2.1 46 1 from fr_F (fr_F (fr_F e_46_1 hFc17 rfl) hF28 rfl) hF42 rfl)] at n42a
          rw [← (show w17_2_0 = s28.2.2.1 2 0 from fr_F (v17_2_0) hF28 rfl)] at n42b
          rw [← (show z42b = s42.2.2.1 2 0 from e42a)] at n42b
          show GG _ _ _ _ _ _ _ _ [.int z42] _ _ _
          have hv42 : _ = s42.2.2.1 2 0 := (show z42b = s42.2.2.1 2 0 from e42a)
          refine g_if_ne 48 62 (gd rfl) rfl rfl (fun c45 => ?_) (fun c45 => ?_)
          · skip
            have i45 := z_ne 1 1 c45 i42 rfl
            refine g_iinc 65 (gd rfl) rfl rfl (Nat.le_of_ble_eq_true rfl) (fun z62 e62 => ?_)
            have i62 := in_add 1 1001 e62 i21 (in_c 1 rfl) rfl rfl
            refine g_goto 17 (gd rfl) rfl ?_
            have hr17 : lgC s42 ≤ (cc17 - lc s28) := by have h := (lgt_st (s := s28) (t := s42) (inv_F hI28 448 28000 (q := 30) (j := 0) rfl rfl) (p42g c45) (kl_fr g17_0 hF28 rfl).2.1 (p42f c45)).1; have h2 := (lg_cg (hF28.2.2.1 30 0 rfl)).1; omega
            have hr17a : lgS s42 ≤ (cs17 - lsl s28) := by have h := (lgt_st (s := s28) (t := s42) (inv_F hI28 448 28000 (q := 30) (j := 0) rfl rfl) (p42g c45) (kl_fr g17_0 hF28 rfl).2.1 (p42f c45)).2; have h2 := (lg_cg (hF28.2.2.1 30 0 rfl)).2; omega
            have n17 : (z42a).toInt ≤ (u_46_1).toInt := by (first | have a0 := oa7 ro_46_1 ((inv_F hIc17 448 28000 rfl v17_30_0)) ((inv_F hIc17 0 32 rfl v17_2_1)) ((inv_F hIc17 0 4000 rfl v17_2_0)) ((inv_F hIc17 0 1000 rfl v17_46_2)) i21 i62 | ((first | have a0 := in_u ro_46_1 | (have a0 := ro_46_1; unfold In at a0)); (first | have a1 := in_u ((inv_F hIc17 448 28000 rfl v17_30_0)) | (have a1 := (inv_F hIc17 448 28000 rfl v17_30_0); unfold In at a1)); (first | have a2 := in_u ((inv_F hIc17 0 32 rfl v17_2_1)) | (have a2 := (inv_F hIc17 0 32 rfl v17_2_1); unfold In at a2)); (first | have a3 := in_u ((inv_F hIc17 0 4000 rfl v17_2_0)) | (have a3 := (inv_F hIc17 0 4000 rfl v17_2_0); unfold In at a3)); (first | have a4 := in_u ((inv_F hIc17 0 1000 rfl v17_46_2)) | (have a4 := (inv_F hIc17 0 1000 rfl v17_46_2); unfold In at a4)); (first | have a5 := in_u i21 | (have a5 := i21; unfold In at a5)); (first | have a6 := in_u i62 | (have a6 := i62; unfold In at a6)))); have a7 := t_add e62 i21 (in_c 1 rfl) rfl; (first | have a8 := oa3 ((in_c 1 rfl)) i42b i42a | ((first | have a8 := in_u ((in_c 1 rfl)) | (have a8 := (in_c 1 rfl); unfold In at a8)); (first | have a9 := in_u i42b | (have a9 := i42b; unfold In at a9)); (first | have a10 := in_u i42a | (have a10 := i42a; unfold In at a10)))); have oc := oc_135_1_46; omega
            have n17a : (u_2_0).toInt ≤ (z42b).toInt := by (first | have a0 := oa7 ro_46_1 ((inv_F hIc17 448 28000 rfl v17_30_0)) ((inv_F hIc17 0 32 rfl v17_2_1)) ((inv_F hIc17 0 4000 rfl v17_2_0)) ((inv_F hIc17 0 1000 rfl v17_46_2)) i21 i62 | ((first | have a0 := in_u ro_46_1 | (have a0 := ro_46_1; unfold In at a0)); (first | have a1 := in_u ((inv_F hIc17 448 28000 rfl v17_30_0)) | (have a1 := (inv_F hIc17 448 28000 rfl v17_30_0); unfold In at a1)); (first | have a2 := in_u ((inv_F hIc17 0 32 rfl v17_2_1)) | (have a2 := (inv_F hIc17 0 32 rfl v17_2_1); unfold In at a2)); (first | have a3 := in_u ((inv_F hIc17 0 4000 rfl v17_2_0)) | (have a3 := (inv_F hIc17 0 4000 rfl v17_2_0); unfold In at a3)); (first | have a4 := in_u ((inv_F hIc17 0 1000 rfl v17_46_2)) | (have a4 := (inv_F hIc17 0 1000 rfl v17_46_2); unfold In at a4)); (first | have a5 := in_u i21 | (have a5 := i21; unfold In at a5)); (first | have a6 := in_u i62 | (have a6 := i62; unfold In at a6)))); have a7 := t_add e62 i21 (in_c 1 rfl) rfl; (first | have a8 := oa3 ((in_c 1 rfl)) i42b i42a | ((first | have a8 := in_u ((in_c 1 rfl)) | (have a8 := (in_c 1 rfl); unfold In at a8)); (first | have a9 := in_u i42b | (have a9 := i42b; unfold In at a9)); (first | have a10 := in_u i42a | (have a10 := i42a; unfold In at a10)))); have oc := oc_135_1_46; omega
            have n17b : KL s42 := by exact p42e
            have n17c : (∀ p : Nat, p < 160 → s42.1 18 p = s.1 4 p ∧ s42.1 19 p = s.1 5 p) ∧ s42.2.2.1 16 0 = s.2.2.1 2 0 ∧ s42.2.2.1 16 1 = s.2.2.1 2 1 := by exact ⟨fun p hp => by rw [hF42.1 18 rfl, hF42.1 19 rfl, hF28.1 18 rfl, hF28.1 19 rfl]; exact g17_1.1 p hp, by rw [hF42.2.2.1 16 0 rfl, hF28.2.2.1 16 0 rfl]; exact g17_1.2.1, by rw [hF42.2.2.1 16 1 rfl, hF28.2.2.1 16 1 rfl]; exact g17_1.2.2⟩
            have n17d : ∀ k : Nat, (k : Int) < 7 * (s.2.2.1 2 0).toInt → s42.1 30 k = s.1 30 k := by exact fun k hk => by rw [p42h k (by rw [hF28.2.2.1 2 0 rfl, ← v17_2_0]; rw [← e_2_0] at hk; (first | have a0 := oa7 ro_46_1 ((inv_F hIc17 448 28000 rfl v17_30_0)) ((inv_F hIc17 0 32 rfl v17_2_1)) ((inv_F hIc17 0 4000 rfl v17_2_0)) ((inv_F hIc17 0 1000 rfl v17_46_2)) i21 i62 | ((first | have a0 := in_u ro_46_1 | (have a0 := ro_46_1; unfold In at a0)); (first | have a1 := in_u ((inv_F hIc17 448 28000 rfl v17_30_0)) | (have a1 := (inv_F hIc17 448 28000 rfl v17_30_0); unfold In at a1)); (first | have a2 := in_u ((inv_F hIc17 0 32 rfl v17_2_1)) | (have a2 := (inv_F hIc17 0 32 rfl v17_2_1); unfold In at a2)); (first | have a3 := in_u ((inv_F hIc17 0 4000 rfl v17_2_0)) | (have a3 := (inv_F hIc17 0 4000 rfl v17_2_0); unfold In at a3)); (first | have a4 := in_u ((inv_F hIc17 0 1000 rfl v17_46_2)) | (have a4 := (inv_F hIc17 0 1000 rfl v17_46_2); unfold In at a4)); (first | have a5 := in_u i21 | (have a5 := i21; unfold In at a5)); (first | have a6 := in_u i62 | (have a6 := i62; unfold In at a6)))); have a7 := t_add e62 i21 (in_c 1 rfl) rfl; (first | have a8 := oa3 ((in_c 1 rfl)) i42b i42a | ((first | have a8 := in_u ((in_c 1 rfl)) | (have a8 := (in_c 1 rfl); unfold In at a8)); (first | have a9 := in_u i42b | (have a9 := i42b; unfold In at a9)); (first | have a10 := in_u i42a | (have a10 := i42a; unfold In at a10)))); have oc := oc_135_1_46; omega), hF28.1 30 rfl]; exact g17_2 k hk
            have n17e : GEQ (gvS s42) (gvC s) ∧ TQS s42 := by exact ⟨by rw [gvS_cg hF42 rfl, gvS_cg hF28 rfl]; exact g17_3.1, tqs_fr (tqs_fr g17_3.2 hF28 rfl) hF42 rfl⟩
            have n17f : LRN (s.1 47) (s.2.2.1 46 1).toInt.toNat (gvC s) (z62).toInt.toNat (z42a).toInt.toNat (gvC s42) := by have hn9 := hk28 _ (p42i c45); rw [show z62.toInt.toNat = y17_2.toInt.toNat + 1 from (by (first | have a0 := oa7 ro_46_1 ((inv_F hIc17 448 28000 rfl v17_30_0)) ((inv_F hIc17 0 32 rfl v17_2_1)) ((inv_F hIc17 0 4000 rfl v17_2_0)) ((inv_F hIc17 0 1000 rfl v17_46_2)) i21 i62 | ((first | have a0 := in_u ro_46_1 | (have a0 := ro_46_1; unfold In at a0)); (first | have a1 := in_u ((inv_F hIc17 448 28000 rfl v17_30_0)) | (have a1 := (inv_F hIc17 448 28000 rfl v17_30_0); unfold In at a1)); (first | have a2 := in_u ((inv_F hIc17 0 32 rfl v17_2_1)) | (have a2 := (inv_F hIc17 0 32 rfl v17_2_1); unfold In at a2)); (first | have a3 := in_u ((inv_F hIc17 0 4000 rfl v17_2_0)) | (have a3 := (inv_F hIc17 0 4000 rfl v17_2_0); unfold In at a3)); (first | have a4 := in_u ((inv_F hIc17 0 1000 rfl v17_46_2)) | (have a4 := (inv_F hIc17 0 1000 rfl v17_46_2); unfold In at a4)); (first | have a5 := in_u i21 | (have a5 := i21; unfold In at a5)); (first | have a6 := in_u i62 | (have a6 := i62; unfold In at a6)))); have a7 := t_add e62 i21 (in_c 1 rfl) rfl; (first | have a8 := oa3 ((in_c 1 rfl)) i42b i42a | ((first | have a8 := in_u ((in_c 1 rfl)) | (have a8 := (in_c 1 rfl); unfold In at a8)); (first | have a9 := in_u i42b | (have a9 := i42b; unfold In at a9)); (first | have a10 := in_u i42a | (have a10 := i42a; unfold In at a10)))); have oc := oc_135_1_46; omega), ((show z42a = s42.2.2.1 46 2 from e42))]; exact hn9
            have n17g : TQ s42 := by exact p42k c45
            have n17h : (s42.2.2.1 46 6).toInt = -1 ∧ (s42.2.2.1 46 7).toInt = -1 := by exact ⟨by rw [(p42l c45).1, hF28.2.2.1 46 6 rfl]; exact g17_6.1, by rw [(p42l c45).2, hF28.2.2.1 46 7 rfl]; exact g17_6.2⟩
            have n17i : LGS s s42 (z62).toInt.toNat := by exact lgs_s g17_7 (show z62.toInt.toNat = y17_2.toInt.toNat + 1 from (by (first | have a0 := oa7 ro_46_1 ((inv_F hIc17 448 28000 rfl v17_30_0)) ((inv_F hIc17 0 32 rfl v17_2_1)) ((inv_F hIc17 0 4000 rfl v17_2_0)) ((inv_F hIc17 0 1000 rfl v17_46_2)) i21 i62 | ((first | have a0 := in_u ro_46_1 | (have a0 := ro_46_1; unfold In at a0)); (first | have a1 := in_u ((inv_F hIc17 448 28000 rfl v17_30_0)) | (have a1 := (inv_F hIc17 448 28000 rfl v17_30_0); unfold In at a1)); (first | have a2 := in_u ((inv_F hIc17 0 32 rfl v17_2_1)) | (have a2 := (inv_F hIc17 0 32 rfl v17_2_1); unfold In at a2)); (first | have a3 := in_u ((inv_F hIc17 0 4000 rfl v17_2_0)) | (have a3 := (inv_F hIc17 0 4000 rfl v17_2_0); unfold In at a3)); (first | have a4 := in_u ((inv_F hIc17 0 1000 rfl v17_46_2)) | (have a4 := (inv_F hIc17 0 1000 rfl v17_46_2); unfold In at a4)); (first | have a5 := in_u i21 | (have a5 := i21; unfold In at a5)); (first | have a6 := in_u i62 | (have a6 := i62; unfold In at a6)))); have a7 := t_add e62 i21 (in_c 1 rfl) rfl; (first | have a8 := oa3 ((in_c 1 rfl)) i42b i42a | ((first | have a8 := in_u ((in_c 1 rfl)) | (have a8 := (in_c 1 rfl); unfold In at a8)); (first | have a9 := in_u i42b | (have a9 := i42b; unfold In at a9)); (first | have a10 := in_u i42a | (have a10 := i42a; unfold In at a10)))); have oc := oc_135_1_46; omega)) (lgc_fr (p42n c45) hF28 rfl) (inv_F hI (z := s.2.2.1 2 0) 0 4000 rfl rfl).1 (by rw [show z62.toInt.toNat = y17_2.toInt.toNat + 1 from (by (first | have a0 := oa7 ro_46_1 ((inv_F hIc17 448 28000 rfl v17_30_0)) ((inv_F hIc17 0 32 rfl v17_2_1)) ((inv_F hIc17 0 4000 rfl v17_2_0)) ((inv_F hIc17 0 1000 rfl v17_46_2)) i21 i62 | ((first | have a0 := in_u ro_46_1 | (have a0 := ro_46_1; unfold In at a0)); (first | have a1 := in_u ((inv_F hIc17 448 28000 rfl v17_30_0)) | (have a1 := (inv_F hIc17 448 28000 rfl v17_30_0); unfold In at a1)); (first | have a2 := in_u ((inv_F hIc17 0 32 rfl v17_2_1)) | (have a2 := (inv_F hIc17 0 32 rfl v17_2_1); unfold In at a2)); (first | have a3 := in_u ((inv_F hIc17 0 4000 rfl v17_2_0)) | (have a3 := (inv_F hIc17 0 4000 rfl v17_2_0); unfold In at a3)); (first | have a4 := in_u ((inv_F hIc17 0 1000 rfl v17_46_2)) | (have a4 := (inv_F hIc17 0 1000 rfl v17_46_2); unfold In at a4)); (first | have a5 := in_u i21 | (have a5 := i21; unfold In at a5)); (first | have a6 := in_u i62 | (have a6 := i62; unfold In at a6)))); have a7 := t_add e62 i21 (in_c 1 rfl) rfl; (first | have a8 := oa3 ((in_c 1 rfl)) i42b i42a | ((first | have a8 := in_u ((in_c 1 rfl)) | (have a8 := (in_c 1 rfl); unfold In at a8)); (first | have a9 := in_u i42b | (have a9 := i42b; unfold In at a9)); (first | have a10 := in_u i42a | (have a10 := i42a; unfold In at a10)))); have oc := oc_135_1_46; omega)]; exact ⟨_, hk28 _ (p42i c45)⟩)
            exact gg_w (by first | exact Nat.le_add_right _ _ | exact gw2 | exact gw3 | exact gwe rfl | exact gwf rfl | exact gwg rfl | exact gwh rfl | omega) (gg_f (gf_cons rfl (gf_cons rfl (gf_cons rfl gf_nil))) (ih17 s42 a42 (cc17 - lc s28) (cs17 - lsl s28) z62 z42a z42b _ _ hI42 (fr_tr rfl (fr_tr rfl hFc17 hF28) hF42) hr17 hr17a (in_w 0 2001 i62 rfl) e42 e42a rfl rfl n17 n17a n17b n17c n17d n17e n17f n17g n17h n17i (m_up mm17 (t_add e62 i21 (in_c 1 rfl) rfl) (in_w 1 1 (in_c 1 rfl) rfl))))
          · skip
            have i45 := z_eq 0 0 c45 i42 rfl
            refine g_aload_n 49 (gd rfl) rfl rfl ?_
            refine g_getA (A := (ax A 30 a42)) (q := 1) (q2 := 2) 52 (gd rfl) rfl rfl rfl rfl ?_
            refine g_aload_n 53 (gd rfl) rfl rfl ?_
            refine g_getA (A := (ax A 30 a42)) (q := 1) (q2 := 16) 56 (gd rfl) rfl rfl rfl rfl ?_
            refine g_callv (X := _) (As := [.ref (A 16)]) (r := []) (b := A 2) (q := 2) 59 (gd rfl) rfl rfl rfl rfl rfl (ww_o rfl) (Nat.le_of_ble_eq_true rfl) (Nat.zero_le _) (Nat.zero_le _) (f_93_2_16 (A := (ax A 30 a42)) (by omega) hI42 ) (fun e u h => h) (fun v u h => ?_)
            obtain ⟨s56, hI56, hF56, rfl, rfl, p56, p56a, p56b, p56c, p56d, p56e, p56f, p56g, p56h⟩ := h
            show GG _ _ _ _ _ _ _ _ [] _ _ _
            refine g_bipush (-4) 61 (gd rfl) rfl rfl ?_
            have n61 : KL s56 := by have hFF : Fr fm_135_1_46 s s56 := (fr_tr rfl (fr_tr rfl (fr_tr rfl hFc17 hF28) hF42) hF56); exact kl_bk q_0 (fun k hk => by rw [hF56.1 30 rfl, p42h k (by rw [hF28.2.2.1 2 0 rfl, ← v17_2_0]; rw [← e_2_0] at hk; (first | have a0 := oa7 ro_46_1 ((inv_F hIc17 448 28000 rfl v17_30_0)) ((inv_F hIc17 0 32 rfl v17_2_1)) ((inv_F hIc17 0 4000 rfl v17_2_0)) ((inv_F hIc17 0 1000 rfl v17_46_2)) i21 i42a | ((first | have a0 := in_u ro_46_1 | (have a0 := ro_46_1; unfold In at a0)); (first | have a1 := in_u ((inv_F hIc17 448 28000 rfl v17_30_0)) | (have a1 := (inv_F hIc17 448 28000 rfl v17_30_0); unfold In at a1)); (first | have a2 := in_u ((inv_F hIc17 0 32 rfl v17_2_1)) | (have a2 := (inv_F hIc17 0 32 rfl v17_2_1); unfold In at a2)); (first | have a3 := in_u ((inv_F hIc17 0 4000 rfl v17_2_0)) | (have a3 := (inv_F hIc17 0 4000 rfl v17_2_0); unfold In at a3)); (first | have a4 := in_u ((inv_F hIc17 0 1000 rfl v17_46_2)) | (have a4 := (inv_F hIc17 0 1000 rfl v17_46_2); unfold In at a4)); (first | have a5 := in_u i21 | (have a5 := i21; unfold In at a5)); (first | have a6 := in_u i42a | (have a6 := i42a; unfold In at a6)))); have oc := oc_135_1_46; omega), hF28.1 30 rfl]; exact g17_2 k hk) (by have h9 := p42e.2.1; rw [hF56.2.2.1 30 0 rfl]; rw [← hv42] at h9; rw [← e_2_0]; (first | have a0 := oa7 ro_46_1 ((inv_F hIc17 448 28000 rfl v17_30_0)) ((inv_F hIc17 0 32 rfl v17_2_1)) ((inv_F hIc17 0 4000 rfl v17_2_0)) ((inv_F hIc17 0 1000 rfl v17_46_2)) i21 i42a | ((first | have a0 := in_u ro_46_1 | (have a0 := ro_46_1; unfold In at a0)); (first | have a1 := in_u ((inv_F hIc17 448 28000 rfl v17_30_0)) | (have a1 := (inv_F hIc17 448 28000 rfl v17_30_0); unfold In at a1)); (first | have a2 := in_u ((inv_F hIc17 0 32 rfl v17_2_1)) | (have a2 := (inv_F hIc17 0 32 rfl v17_2_1); unfold In at a2)); (first | have a3 := in_u ((inv_F hIc17 0 4000 rfl v17_2_0)) | (have a3 := (inv_F hIc17 0 4000 rfl v17_2_0); unfold In at a3)); (first | have a4 := in_u ((inv_F hIc17 0 1000 rfl v17_46_2)) | (have a4 := (inv_F hIc17 0 1000 rfl v17_46_2); unfold In at a4)); (first | have a5 := in_u i21 | (have a5 := i21; unfold In at a5)); (first | have a6 := in_u i42a | (have a6 := i42a; unfold In at a6)))); have oc := oc_135_1_46; omega) (by rw [p56b, hF42.2.2.1 16 0 rfl, hF28.2.2.1 16 0 rfl]; exact g17_1.2.1) (by rw [p56c, hF42.2.2.1 16 1 rfl, hF28.2.2.1 16 1 rfl]; exact g17_1.2.2) (kn_cp q_0.2.2.2.1.2 (fun p hp => by rw [p56 p hp, hF42.1 18 rfl, hF28.1 18 rfl]; exact (g17_1.1 p hp).1) (fun p hp => by rw [p56a p hp, hF42.1 19 rfl, hF28.1 19 rfl]; exact (g17_1.1 p hp).2)) (hFF.2.2.1 32 0 rfl) (hFF.2.2.1 32 1 rfl) (hFF.1 34 rfl) (hFF.1 35 rfl)
            have n61a : ((Int32.ofInt (-4))).toInt ≠ -4 → LOT (s.1 47) (s.2.2.1 46 1).toInt.toNat (gvC s) ((Int32.ofInt (-4))).toInt 0 0 (gvC s56) ∧ (s56.2.2.1 46 6).toInt = -1 ∧ (s56.2.2.1 46 7).toInt = -1 := by intro h; exact absurd rfl h
            have n61b : ((Int32.ofInt (-4))).toInt = -4 → LOT (s.1 47) (s.2.2.1 46 1).toInt.toNat (gvC s) (-4) (s56.2.2.1 46 6).toInt (s56.2.2.1 46 7).toInt (gvC s56) := by intro _; have h9 := p42j (by (first | have a0 := oa7 ro_46_1 ((inv_F hIc17 448 28000 rfl v17_30_0)) ((inv_F hIc17 0 32 rfl v17_2_1)) ((inv_F hIc17 0 4000 rfl v17_2_0)) ((inv_F hIc17 0 1000 rfl v17_46_2)) i21 i42a | ((first | have a0 := in_u ro_46_1 | (have a0 := ro_46_1; unfold In at a0)); (first | have a1 := in_u ((inv_F hIc17 448 28000 rfl v17_30_0)) | (have a1 := (inv_F hIc17 448 28000 rfl v17_30_0); unfold In at a1)); (first | have a2 := in_u ((inv_F hIc17 0 32 rfl v17_2_1)) | (have a2 := (inv_F hIc17 0 32 rfl v17_2_1); unfold In at a2)); (first | have a3 := in_u ((inv_F hIc17 0 4000 rfl v17_2_0)) | (have a3 := (inv_F hIc17 0 4000 rfl v17_2_0); unfold In at a3)); (first | have a4 := in_u ((inv_F hIc17 0 1000 rfl v17_46_2)) | (have a4 := (inv_F hIc17 0 1000 rfl v17_46_2); unfold In at a4)); (first | have a5 := in_u i21 | (have a5 := i21; unfold In at a5)); (first | have a6 := in_u i42a | (have a6 := i42a; unfold In at a6)))); have oc := oc_135_1_46; omega) _ ht28; rw [hx28, hl28, hg28] at h9; refine Or.inr ⟨y17_2.toInt.toNat, w17_46_2.toInt.toNat, (s42.2.2.1 46 7).toInt.toNat, gvC sc17, g17_4, ?_, rfl, ?_, (show GEQ (gvC s56) (gvC s) from geq_t (show GEQ (gvC s56) (gvS s42) from ⟨p56d, p56, p56a, p56e, p56f, p56g, congrArg Int32.toInt p56c, congrArg Int32.toInt p56b⟩) (by rw [gvS_cg hF42 rfl, gvS_cg hF28 rfl]; exact g17_3.1))⟩; (rw [hF56.2.2.1 46 6 rfl]; exact h9); (rw [hF56.2.2.1 46 7 rfl]; have h8 := p42m (by (first | have a0 := oa7 ro_46_1 ((inv_F hIc17 448 28000 rfl v17_30_0)) ((inv_F hIc17 0 32 rfl v17_2_1)) ((inv_F hIc17 0 4000 rfl v17_2_0)) ((inv_F hIc17 0 1000 rfl v17_46_2)) i21 i42a | ((first | have a0 := in_u ro_46_1 | (have a0 := ro_46_1; unfold In at a0)); (first | have a1 := in_u ((inv_F hIc17 448 28000 rfl v17_30_0)) | (have a1 := (inv_F hIc17 448 28000 rfl v17_30_0); unfold In at a1)); (first | have a2 := in_u ((inv_F hIc17 0 32 rfl v17_2_1)) | (have a2 := (inv_F hIc17 0 32 rfl v17_2_1); unfold In at a2)); (first | have a3 := in_u ((inv_F hIc17 0 4000 rfl v17_2_0)) | (have a3 := (inv_F hIc17 0 4000 rfl v17_2_0); unfold In at a3)); (first | have a4 := in_u ((inv_F hIc17 0 1000 rfl v17_46_2)) | (have a4 := (inv_F hIc17 0 1000 rfl v17_46_2); unfold In at a4)); (first | have a5 := in_u i21 | (have a5 := i21; unfold In at a5)); (first | have a6 := in_u i42a | (have a6 := i42a; unfold In at a6)))); have oc := oc_135_1_46; omega); omega)
            have n61c : TQ s56 := by intro p hp hn; rw [p56h]; exact (tqs_fr (tqs_fr g17_3.2 hF28 rfl) hF42 rfl) p hp (by rw [← p56 p hp]; exact hn)
            have n61d : LCO s s56 (Int32.ofInt (-4)) := by exact ⟨fun h => absurd rfl h, fun _ => (by obtain ⟨G, -, -, hpf, hgv, -⟩ := g17_7; intro k hk; rw [hF56.1 30 rfl, (show s42.1 30 k = s28.1 30 k from (by have hw : (s28.2.2.1 2 0).toInt = (sc17.2.2.1 2 0).toInt := congrArg Int32.toInt (hF28.2.2.1 2 0 rfl); first | exact p42h k (by omega) | exact p42g k (by omega))), hF28.1 30 rfl]; exact hpf k hk)⟩
            exact g_ireturn (gd rfl) rfl rfl (hP _ _ ⟨a42, s56, hI56, (fr_tr rfl (fr_tr rfl (fr_tr rfl hFc17 hF28) hF42) hF56), (Int32.ofInt (-4)), rfl, rfl, in_w (-4) 1000 (in_c (-4) rfl) rfl, n61, n61a, n61b, n61c, n61d⟩)
        · skip
          have i35 := z_eq 0 0 c35 i32 rfl
          refine g_iload_n 39 (gd rfl) rfl rfl ?_
          have n39 : KL s28 := by exact kl_fr g17_0 hF28 rfl
          have n39a : (y17_2).toInt ≠ -4 → LOT (s.1 47) (s.2.2.1 46 1).toInt.toNat (gvC s) (y17_2).toInt 0 0 (gvC s28) ∧ (s28.2.2.1 46 6).toInt = -1 ∧ (s28.2.2.1 46 7).toInt = -1 := by intro _; have h9 := ht28; rw [hx28, hl28, show (s28.2.2.1 46 3).toInt = 0 from (by rw [← (show z32 = s28.2.2.1 46 3 from e32)]; (first | have a0 := oa9 ro_46_1 ((inv_F hIc17 448 28000 rfl v17_30_0)) ((inv_F hIc17 0 32 rfl v17_2_1)) ((inv_F hIc17 0 4000 rfl v17_2_0)) ((inv_F hIc17 0 1000 rfl v17_46_2)) i21 i35 i28b i28a | ((first | have a0 := in_u ro_46_1 | (have a0 := ro_46_1; unfold In at a0)); (first | have a1 := in_u ((inv_F hIc17 448 28000 rfl v17_30_0)) | (have a1 := (inv_F hIc17 448 28000 rfl v17_30_0); unfold In at a1)); (first | have a2 := in_u ((inv_F hIc17 0 32 rfl v17_2_1)) | (have a2 := (inv_F hIc17 0 32 rfl v17_2_1); unfold In at a2)); (first | have a3 := in_u ((inv_F hIc17 0 4000 rfl v17_2_0)) | (have a3 := (inv_F hIc17 0 4000 rfl v17_2_0); unfold In at a3)); (first | have a4 := in_u ((inv_F hIc17 0 1000 rfl v17_46_2)) | (have a4 := (inv_F hIc17 0 1000 rfl v17_46_2); unfold In at a4)); (first | have a5 := in_u i21 | (have a5 := i21; unfold In at a5)); (first | have a6 := in_u i35 | (have a6 := i35; unfold In at a6)); (first | have a7 := in_u i28b | (have a7 := i28b; unfold In at a7)); (first | have a8 := in_u i28a | (have a8 := i28a; unfold In at a8)))); have oc := oc_135_1_46; omega)] at h9; exact ⟨Or.inl ⟨y17_2.toInt.toNat, w17_46_2.toInt.toNat, gvC sc17, g17_4, ⟨_, _, _, h9⟩, (by (first | have a0 := oa9 ro_46_1 ((inv_F hIc17 448 28000 rfl v17_30_0)) ((inv_F hIc17 0 32 rfl v17_2_1)) ((inv_F hIc17 0 4000 rfl v17_2_0)) ((inv_F hIc17 0 1000 rfl v17_46_2)) i21 i35 i28b i28a | ((first | have a0 := in_u ro_46_1 | (have a0 := ro_46_1; unfold In at a0)); (first | have a1 := in_u ((inv_F hIc17 448 28000 rfl v17_30_0)) | (have a1 := (inv_F hIc17 448 28000 rfl v17_30_0); unfold In at a1)); (first | have a2 := in_u ((inv_F hIc17 0 32 rfl v17_2_1)) | (have a2 := (inv_F hIc17 0 32 rfl v17_2_1); unfold In at a2)); (first | have a3 := in_u ((inv_F hIc17 0 4000 rfl v17_2_0)) | (have a3 := (inv_F hIc17 0 4000 rfl v17_2_0); unfold In at a3)); (first | have a4 := in_u ((inv_F hIc17 0 1000 rfl v17_46_2)) | (have a4 := (inv_F hIc17 0 1000 rfl v17_46_2); unfold In at a4)); (first | have a5 := in_u i21 | (have a5 := i21; unfold In at a5)); (first | have a6 := in_u i35 | (have a6 := i35; unfold In at a6)); (first | have a7 := in_u i28b | (have a7 := i28b; unfold In at a7)); (first | have a8 := in_u i28a | (have a8 := i28a; unfold In at a8)))); have oc := oc_135_1_46; omega), rfl, by rw [hg28]; exact geq_r⟩, by rw [hF28.2.2.1 46 6 rfl]; exact g17_6.1, by rw [hF28.2.2.1 46 7 rfl]; exact g17_6.2⟩
          have n39b : (y17_2).toInt = -4 → LOT (s.1 47) (s.2.2.1 46 1).toInt.toNat (gvC s) (-4) (s28.2.2.1 46 6).toInt (s28.2.2.1 46 7).toInt (gvC s28) := by intro h; exfalso; (first | have a0 := oa9 ro_46_1 ((inv_F hIc17 448 28000 rfl v17_30_0)) ((inv_F hIc17 0 32 rfl v17_2_1)) ((inv_F hIc17 0 4000 rfl v17_2_0)) ((inv_F hIc17 0 1000 rfl v17_46_2)) i21 i35 i28b i28a | ((first | have a0 := in_u ro_46_1 | (have a0 := ro_46_1; unfold In at a0)); (first | have a1 := in_u ((inv_F hIc17 448 28000 rfl v17_30_0)) | (have a1 := (inv_F hIc17 448 28000 rfl v17_30_0); unfold In at a1)); (first | have a2 := in_u ((inv_F hIc17 0 32 rfl v17_2_1)) | (have a2 := (inv_F hIc17 0 32 rfl v17_2_1); unfold In at a2)); (first | have a3 := in_u ((inv_F hIc17 0 4000 rfl v17_2_0)) | (have a3 := (inv_F hIc17 0 4000 rfl v17_2_0); unfold In at a3)); (first | have a4 := in_u ((inv_F hIc17 0 1000 rfl v17_46_2)) | (have a4 := (inv_F hIc17 0 1000 rfl v17_46_2); unfold In at a4)); (first | have a5 := in_u i21 | (have a5 := i21; unfold In at a5)); (first | have a6 := in_u i35 | (have a6 := i35; unfold In at a6)); (first | have a7 := in_u i28b | (have a7 := i28b; unfold In at a7)); (first | have a8 := in_u i28a | (have a8 := i28a; unfold In at a8)))); have oc := oc_135_1_46; omega
          have n39c : TQ s28 := by exact tq_fr g17_5 hF28 rfl
          have n39d : LCO s s28 y17_2 := by exact ⟨fun _ => (by have q := g17_7; obtain ⟨G, b1, b2, b3, b4, b5⟩ := q; exact ⟨G, b1, by rw [b2]; exact hg28.symm, fun k hk => by rw [hF28.1 30 rfl]; exact b3 k hk, by rw [hF28.2.2.1 2 0 rfl]; exact b4, by rw [hF28.1 30 rfl]; exact b5⟩), fun h => (by exfalso; (first | have a0 := oa9 ro_46_1 ((inv_F hIc17 448 28000 rfl v17_30_0)) ((inv_F hIc17 0 32 rfl v17_2_1)) ((inv_F hIc17 0 4000 rfl v17_2_0)) ((inv_F hIc17 0 1000 rfl v17_46_2)) i21 i35 i28b i28a | ((first | have a0 := in_u ro_46_1 | (have a0 := ro_46_1; unfold In at a0)); (first | have a1 := in_u ((inv_F hIc17 448 28000 rfl v17_30_0)) | (have a1 := (inv_F hIc17 448 28000 rfl v17_30_0); unfold In at a1)); (first | have a2 := in_u ((inv_F hIc17 0 32 rfl v17_2_1)) | (have a2 := (inv_F hIc17 0 32 rfl v17_2_1); unfold In at a2)); (first | have a3 := in_u ((inv_F hIc17 0 4000 rfl v17_2_0)) | (have a3 := (inv_F hIc17 0 4000 rfl v17_2_0); unfold In at a3)); (first | have a4 := in_u ((inv_F hIc17 0 1000 rfl v17_46_2)) | (have a4 := (inv_F hIc17 0 1000 rfl v17_46_2); unfold In at a4)); (first | have a5 := in_u i21 | (have a5 := i21; unfold In at a5)); (first | have a6 := in_u i35 | (have a6 := i35; unfold In at a6)); (first | have a7 := in_u i28b | (have a7 := i28b; unfold In at a7)); (first | have a8 := in_u i28a | (have a8 := i28a; unfold In at a8)))); have oc := oc_135_1_46; omega)⟩
          exact g_ireturn (gd rfl) rfl rfl (hP _ _ ⟨ac17, s28, hI28, (fr_tr rfl hFc17 hF28), y17_2, rfl, rfl, in_w (-4) 1000 i21 rfl, n39, n39a, n39b, n39c, n39d⟩)
  refine g_enter2 (k := 135) (N := 1802701) (by first | exact dq1 hd rfl | exact dq0 hd rfl | exact dq2 hd rfl | exact dq3 hd rfl | omega) rfl (Nat.le_of_ble_eq_true rfl) ?_
  refine g_aload_n 1 (gd rfl) rfl rfl ?_
  refine g_getA (q2 := 16) 4 (gd rfl) rfl rfl rfl rfl ?_
  refine g_aload_n 5 (gd rfl) rfl rfl ?_
  refine g_getA (q2 := 2) 8 (gd rfl) rfl rfl rfl rfl ?_
  refine g_callv (X := _) (As := [.ref (A 2)]) (r := []) (b := A 16) (q := 16) 11 (gd rfl) rfl rfl rfl rfl rfl (ww_o rfl) (Nat.le_of_ble_eq_true rfl) (Nat.zero_le _) (Nat.zero_le _) (f_93_16_2 (by first | exact dq1 hd rfl | exact dq0 hd rfl | exact dq2 hd rfl | exact dq3 hd rfl | omega) hI ) (fun e u h => h) (fun v u h => ?_)
  obtain ⟨s8, hI8, hF8, rfl, rfl, p8, p8a, p8b, p8c, p8d, p8e, p8f, p8g, p8h⟩ := h
  show GG _ _ _ _ _ _ _ _ [] _ _ _
  refine g_aload_n 12 (gd rfl) rfl rfl ?_
  refine g_callv (X := _) (As := []) (r := []) (b := A 46) (q := 46) 15 (gd rfl) rfl rfl rfl rfl rfl (ww_o rfl) (Nat.le_of_ble_eq_true rfl) (mc := 0) (ms := 0) (Nat.zero_le _) (Nat.zero_le _) (P := fun v u => _) ?_ (fun e u h => h) (fun v u h => h)
  intro po12 xx12 hp12 hx12
  refine g_enter2 (k := 167) (N := 300) (by first | exact dq1 hd rfl | exact dq0 hd rfl | exact dq2 hd rfl | exact dq3 hd rfl | omega) rfl (Nat.le_of_ble_eq_true rfl) ?_
  refine g_aload_n 1 (gd rfl) rfl rfl ?_
  refine g_iconst 0 2 (gd rfl) rfl rfl ?_
  refine g_putI 5 (gd rfl) rfl rfl rfl rfl ?_
  have hI12x2 := inv_sF (q := 46) (j := 2) hI8 rfl (in_w 0 1000 (in_c 0 rfl) rfl)
  refine g_aload_n 6 (gd rfl) rfl rfl ?_
  refine g_iconst (-1) 7 (gd rfl) rfl rfl ?_
  refine g_putI 10 (gd rfl) rfl rfl rfl rfl ?_
  have hI12x7 := inv_sF (q := 46) (j := 6) hI12x2 rfl (in_w (-1) 5 (in_c (-1) rfl) rfl)
  refine g_aload_n 11 (gd rfl) rfl rfl ?_
  refine g_iconst (-1) 12 (gd rfl) rfl rfl ?_
  refine g_putI 15 (gd rfl) rfl rfl rfl rfl ?_
  have hI12x12 := inv_sF (q := 46) (j := 7) hI12x7 rfl (in_w (-1) 1000 (in_c (-1) rfl) rfl)
  refine g_return (gd rfl) rfl (hp12 _ _ ?_)
  show GG _ _ _ _ _ _ _ _ [] _ _ _
  refine g_iconst 0 16 (gd rfl) rfl rfl ?_
  refine g_istore_n 17 (gd rfl) rfl (Nat.le_of_ble_eq_true rfl) ?_
  have hr17 : lgC (sF (sF (sF s8 46 2 (Int32.ofInt 0)) 46 6 (Int32.ofInt (-1))) 46 7 (Int32.ofInt (-1))) ≤ (lgC s) := by exact Nat.le_of_eq (lg_cg ((show Fr ([17, 18, 19, 20, 21, 22], [], [(16, 0), (16, 1), (16, 2), (16, 3), (16, 4), (46, 2), (46, 6), (46, 7)], []) s (sF (sF (sF s8 46 2 (Int32.ofInt 0)) 46 6 (Int32.ofInt (-1))) 46 7 (Int32.ofInt (-1))) from (fr_sF rfl (fr_sF rfl (fr_sF rfl (fr_tr rfl fr_rf hF8))))).2.2.1 30 0 rfl)).1
  have hr17a : lgS (sF (sF (sF s8 46 2 (Int32.ofInt 0)) 46 6 (Int32.ofInt (-1))) 46 7 (Int32.ofInt (-1))) ≤ (lgS s) := by exact Nat.le_of_eq (lg_cg ((show Fr ([17, 18, 19, 20, 21, 22], [], [(16, 0), (16, 1), (16, 2), (16, 3), (16, 4), (46, 2), (46, 6), (46, 7)], []) s (sF (sF (sF s8 46 2 (Int32.ofInt 0)) 46 6 (Int32.ofInt (-1))) 46 7 (Int32.ofInt (-1))) from (fr_sF rfl (fr_sF rfl (fr_sF rfl (fr_tr rfl fr_rf hF8))))).2.2.1 30 0 rfl)).2
  rw [show WW Z A (sF (sF (sF s8 46 2 (Int32.ofInt 0)) 46 6 (Int32.ofInt (-1))) 46 7 (Int32.ofInt (-1))) ++ ex = WW Z (ax A 30 (A 30)) (sF (sF (sF s8 46 2 (Int32.ofInt 0)) 46 6 (Int32.ofInt (-1))) 46 7 (Int32.ofInt (-1))) ++ ex from by rw [ax_id]]
  have v17 : (Int32.ofInt 0) = (sF (sF (sF s8 46 2 (Int32.ofInt 0)) 46 6 (Int32.ofInt (-1))) 46 7 (Int32.ofInt (-1))).2.2.1 46 2 := sF_ne rfl (sF_ne rfl (sF_get))
  have v17a : u_2_0 = (sF (sF (sF s8 46 2 (Int32.ofInt 0)) 46 6 (Int32.ofInt (-1))) 46 7 (Int32.ofInt (-1))).2.2.1 2 0 := sF_ne rfl (sF_ne rfl (sF_ne rfl (fr_F (e_2_0) hF8 rfl)))
  have v17b : u_2_1 = (sF (sF (sF s8 46 2 (Int32.ofInt 0)) 46 6 (Int32.ofInt (-1))) 46 7 (Int32.ofInt (-1))).2.2.1 2 1 := sF_ne rfl (sF_ne rfl (sF_ne rfl (fr_F (e_2_1) hF8 rfl)))
  have v17c : u_30_0 = (sF (sF (sF s8 46 2 (Int32.ofInt 0)) 46 6 (Int32.ofInt (-1))) 46 7 (Int32.ofInt (-1))).2.2.1 30 0 := sF_ne rfl (sF_ne rfl (sF_ne rfl (fr_F (e_30_0) hF8 rfl)))
  have n17 : ((Int32.ofInt 0)).toInt ≤ (u_46_1).toInt := by (first | have a0 := oa6 ((inv_F hI 0 1000 rfl e_46_1)) ((inv_F hI 448 28000 rfl e_30_0)) ((inv_F hI 0 32 rfl e_2_1)) ((inv_F hI 0 4000 rfl e_2_0)) ((in_c 0 rfl)) ((in_c (-1) rfl)) | ((first | have a0 := in_u ((inv_F hI 0 1000 rfl e_46_1)) | (have a0 := (inv_F hI 0 1000 rfl e_46_1); unfold In at a0)); (first | have a1 := in_u ((inv_F hI 448 28000 rfl e_30_0)) | (have a1 := (inv_F hI 448 28000 rfl e_30_0); unfold In at a1)); (first | have a2 := in_u ((inv_F hI 0 32 rfl e_2_1)) | (have a2 := (inv_F hI 0 32 rfl e_2_1); unfold In at a2)); (first | have a3 := in_u ((inv_F hI 0 4000 rfl e_2_0)) | (have a3 := (inv_F hI 0 4000 rfl e_2_0); unfold In at a3)); (first | have a4 := in_u ((in_c 0 rfl)) | (have a4 := (in_c 0 rfl); unfold In at a4)); (first | have a5 := in_u ((in_c (-1) rfl)) | (have a5 := (in_c (-1) rfl); unfold In at a5)))); have oc := oc_135_1_46; omega
  have n17a : (u_2_0).toInt ≤ (u_2_0).toInt := by exact Int.le_refl _
  have n17b : KL (sF (sF (sF s8 46 2 (Int32.ofInt 0)) 46 6 (Int32.ofInt (-1))) 46 7 (Int32.ofInt (-1))) := by exact kl_fr q_0 (show Fr ([17, 18, 19, 20, 21, 22], [], [(16, 0), (16, 1), (16, 2), (16, 3), (16, 4), (46, 2), (46, 6), (46, 7)], []) s (sF (sF (sF s8 46 2 (Int32.ofInt 0)) 46 6 (Int32.ofInt (-1))) 46 7 (Int32.ofInt (-1))) from (fr_sF rfl (fr_sF rfl (fr_sF rfl (fr_tr rfl fr_rf hF8))))) rfl
  have n17c : (∀ p : Nat, p < 160 → (sF (sF (sF s8 46 2 (Int32.ofInt 0)) 46 6 (Int32.ofInt (-1))) 46 7 (Int32.ofInt (-1))).1 18 p = s.1 4 p ∧ (sF (sF (sF s8 46 2 (Int32.ofInt 0)) 46 6 (Int32.ofInt (-1))) 46 7 (Int32.ofInt (-1))).1 19 p = s.1 5 p) ∧ (sF (sF (sF s8 46 2 (Int32.ofInt 0)) 46 6 (Int32.ofInt (-1))) 46 7 (Int32.ofInt (-1))).2.2.1 16 0 = s.2.2.1 2 0 ∧ (sF (sF (sF s8 46 2 (Int32.ofInt 0)) 46 6 (Int32.ofInt (-1))) 46 7 (Int32.ofInt (-1))).2.2.1 16 1 = s.2.2.1 2 1 := by exact ⟨fun p hp => ⟨p8 p hp, p8a p hp⟩, p8b, p8c⟩
  have n17d : ∀ k : Nat, (k : Int) < 7 * (s.2.2.1 2 0).toInt → (sF (sF (sF s8 46 2 (Int32.ofInt 0)) 46 6 (Int32.ofInt (-1))) 46 7 (Int32.ofInt (-1))).1 30 k = s.1 30 k := by exact fun k _ => by rw [(show Fr ([17, 18, 19, 20, 21, 22], [], [(16, 0), (16, 1), (16, 2), (16, 3), (16, 4), (46, 2), (46, 6), (46, 7)], []) s (sF (sF (sF s8 46 2 (Int32.ofInt 0)) 46 6 (Int32.ofInt (-1))) 46 7 (Int32.ofInt (-1))) from (fr_sF rfl (fr_sF rfl (fr_sF rfl (fr_tr rfl fr_rf hF8))))).1 30 rfl]
  have n17e : GEQ (gvS (sF (sF (sF s8 46 2 (Int32.ofInt 0)) 46 6 (Int32.ofInt (-1))) 46 7 (Int32.ofInt (-1)))) (gvC s) ∧ TQS (sF (sF (sF s8 46 2 (Int32.ofInt 0)) 46 6 (Int32.ofInt (-1))) 46 7 (Int32.ofInt (-1))) := by exact ⟨⟨p8d, p8, p8a, p8e, p8f, p8g, congrArg Int32.toInt p8c, congrArg Int32.toInt p8b⟩, fun p hp hn => by have h9 := q_1 p hp (by rw [← p8 p hp]; exact hn); rw [← p8h] at h9; exact h9⟩
  have n17f : LRN (s.1 47) (s.2.2.1 46 1).toInt.toNat (gvC s) ((Int32.ofInt 0)).toInt.toNat ((Int32.ofInt 0)).toInt.toNat (gvC (sF (sF (sF s8 46 2 (Int32.ofInt 0)) 46 6 (Int32.ofInt (-1))) 46 7 (Int32.ofInt (-1)))) := by exact ⟨rfl, gvC_cg (show Fr ([17, 18, 19, 20, 21, 22], [], [(16, 0), (16, 1), (16, 2), (16, 3), (16, 4), (46, 2), (46, 6), (46, 7)], []) s (sF (sF (sF s8 46 2 (Int32.ofInt 0)) 46 6 (Int32.ofInt (-1))) 46 7 (Int32.ofInt (-1))) from (fr_sF rfl (fr_sF rfl (fr_sF rfl (fr_tr rfl fr_rf hF8))))) rfl⟩
  have n17g : TQ (sF (sF (sF s8 46 2 (Int32.ofInt 0)) 46 6 (Int32.ofInt (-1))) 46 7 (Int32.ofInt (-1))) := by exact tq_fr q_1 (show Fr ([17, 18, 19, 20, 21, 22], [], [(16, 0), (16, 1), (16, 2), (16, 3), (16, 4), (46, 2), (46, 6), (46, 7)], []) s (sF (sF (sF s8 46 2 (Int32.ofInt 0)) 46 6 (Int32.ofInt (-1))) 46 7 (Int32.ofInt (-1))) from (fr_sF rfl (fr_sF rfl (fr_sF rfl (fr_tr rfl fr_rf hF8))))) rfl
  have n17h : ((sF (sF (sF s8 46 2 (Int32.ofInt 0)) 46 6 (Int32.ofInt (-1))) 46 7 (Int32.ofInt (-1))).2.2.1 46 6).toInt = -1 ∧ ((sF (sF (sF s8 46 2 (Int32.ofInt 0)) 46 6 (Int32.ofInt (-1))) 46 7 (Int32.ofInt (-1))).2.2.1 46 7).toInt = -1 := by exact ⟨by rw [← (show (Int32.ofInt (-1)) = (sF (sF (sF s8 46 2 (Int32.ofInt 0)) 46 6 (Int32.ofInt (-1))) 46 7 (Int32.ofInt (-1))).2.2.1 46 6 from sF_ne rfl (sF_get))]; rfl, by rw [← (show (Int32.ofInt (-1)) = (sF (sF (sF s8 46 2 (Int32.ofInt 0)) 46 6 (Int32.ofInt (-1))) 46 7 (Int32.ofInt (-1))).2.2.1 46 7 from sF_get)]; rfl⟩
  have n17i : LGS s (sF (sF (sF s8 46 2 (Int32.ofInt 0)) 46 6 (Int32.ofInt (-1))) 46 7 (Int32.ofInt (-1))) ((Int32.ofInt 0)).toInt.toNat := by exact lgs_0 (gvC_cg (show Fr ([17, 18, 19, 20, 21, 22], [], [(16, 0), (16, 1), (16, 2), (16, 3), (16, 4), (46, 2), (46, 6), (46, 7)], []) s (sF (sF (sF s8 46 2 (Int32.ofInt 0)) 46 6 (Int32.ofInt (-1))) 46 7 (Int32.ofInt (-1))) from (fr_sF rfl (fr_sF rfl (fr_sF rfl (fr_tr rfl fr_rf hF8))))) rfl) ((show Fr ([17, 18, 19, 20, 21, 22], [], [(16, 0), (16, 1), (16, 2), (16, 3), (16, 4), (46, 2), (46, 6), (46, 7)], []) s (sF (sF (sF s8 46 2 (Int32.ofInt 0)) 46 6 (Int32.ofInt (-1))) 46 7 (Int32.ofInt (-1))) from (fr_sF rfl (fr_sF rfl (fr_sF rfl (fr_tr rfl fr_rf hF8))))).1 30 rfl)
  exact gg_w (by first | exact Nat.le_of_ble_eq_true rfl | omega) (gg_f (gf_cons rfl (gf_cons rfl (gf_cons rfl gf_nil))) (ct17 2002 (sF (sF (sF s8 46 2 (Int32.ofInt 0)) 46 6 (Int32.ofInt (-1))) 46 7 (Int32.ofInt (-1))) (A 30) (lgC s) (lgS s) (Int32.ofInt 0) (Int32.ofInt 0) u_2_0 u_2_1 u_30_0 hI12x12 (fr_sF rfl (fr_sF rfl (fr_sF rfl (fr_tr rfl fr_rf hF8)))) hr17 hr17a (in_w 0 2001 (in_c 0 rfl) rfl) v17 v17a v17b v17c n17 n17a n17b n17c n17d n17e n17f n17g n17h n17i (m_in 2002 (in_w 0 2001 (in_c 0 rfl) rfl) rfl)))

/-- GraphHouse.load -/
theorem f_225_0 {Z : AmZ} {A : Nat → Nat} {s : GS} {ex : va_W} {d : Nat} {X : AmX} {u_2_0 : Int32} {u_2_1 : Int32} {u_30_0 : Int32} (hd : 11 ≤ d) (hI : Inv s) (e_2_0 : u_2_0 = s.2.2.1 2 0) (e_2_1 : u_2_1 = s.2.2.1 2 1) (e_30_0 : u_30_0 = s.2.2.1 30 0) (q_0 : KL s) (q_1 : TQ s) : GC Z d 225 [.ref (A 0)] (WW Z A s ++ ex) 3943 83130 (fun v u => ∃ a : Nat, ∃ t : GS, Inv t ∧ Fr fm_225_0 s t ∧ ∃ z : Int32, v = some (.int z) ∧ u = WW Z (ax A 30 a) t ++ ex ∧ In z (-4) 1000 ∧ (KL t) ∧ (((z).toInt ≠ -4 → LOT (s.1 47) (s.2.2.1 46 1).toInt.toNat (gvC s) (z).toInt 0 0 (gvC t) ∧ (t.2.2.1 46 6).toInt = -1 ∧ (t.2.2.1 46 7).toInt = -1) ∧ ((z).toInt = -4 → LOT (s.1 47) (s.2.2.1 46 1).toInt.toNat (gvC s) (-4) (t.2.2.1 46 6).toInt (t.2.2.1 46 7).toInt (gvC t)) ∧ TQ t) ∧ (LCO s t z)) X := by
  intro post xp hP hX
  refine g_enter2 (k := 225) (N := 900) (by first | exact dq1 hd rfl | exact dq0 hd rfl | exact dq2 hd rfl | exact dq3 hd rfl | omega) rfl (Nat.le_of_ble_eq_true rfl) ?_
  refine g_aload_n 1 (gd rfl) rfl rfl ?_
  refine g_getA (q2 := 1) 4 (gd rfl) rfl rfl rfl rfl ?_
  refine g_aload_n 5 (gd rfl) rfl rfl ?_
  refine g_getA (q2 := 46) 8 (gd rfl) rfl rfl rfl rfl ?_
  have p8 : KL s := by exact q_0
  have p8a : TQ s := by exact q_1
  refine g_callv (X := _) (As := [.ref (A 46)]) (r := []) (b := A 1) (q := 1) 11 (gd rfl) rfl rfl rfl rfl rfl (ww_o rfl) (Nat.le_of_ble_eq_true rfl) (Nat.le_trans (lgC_le (inv_F hI 448 28000 (q := 30) (j := 0) rfl rfl)) (Nat.le_of_ble_eq_true rfl)) (Nat.le_trans (lgS_le (inv_F hI 448 28000 (q := 30) (j := 0) rfl rfl)) (Nat.le_of_ble_eq_true rfl)) (f_135_1_46 (by first | exact dq1 hd rfl | exact dq0 hd rfl | exact dq2 hd rfl | exact dq3 hd rfl | omega) hI e_2_0 e_2_1 e_30_0 rfl p8 p8a) (fun e u h => h) (fun v u h => ?_)
  obtain ⟨a8, s8, hI8, hF8, z8, rfl, rfl, i8, p8b, p8c, p8d, p8e, p8f⟩ := h
  show GG _ _ _ _ _ _ _ _ [.int z8] _ _ _
  have n11 : KL s8 := by exact p8b
  have n11a : ((z8).toInt ≠ -4 → LOT (s.1 47) (s.2.2.1 46 1).toInt.toNat (gvC s) (z8).toInt 0 0 (gvC s8) ∧ (s8.2.2.1 46 6).toInt = -1 ∧ (s8.2.2.1 46 7).toInt = -1) ∧ ((z8).toInt = -4 → LOT (s.1 47) (s.2.2.1 46 1).toInt.toNat (gvC s) (-4) (s8.2.2.1 46 6).toInt (s8.2.2.1 46 7).toInt (gvC s8)) ∧ TQ s8 := by exact ⟨p8c, p8d, p8e⟩
  have n11b : LCO s s8 z8 := by exact p8f
  exact g_ireturn (gd rfl) rfl rfl (hP _ _ ⟨a8, s8, hI8, (fr_tr rfl fr_rf hF8), z8, rfl, rfl, in_w (-4) 1000 i8 rfl, n11, n11a, n11b⟩)

theorem oc_209_49_2 : (Int32.ofInt (-1)).toInt = (-1) ∧ (Int32.ofInt 0).toInt = 0 ∧ (Int32.ofInt 1).toInt = 1 ∧ (Int32.ofInt 2).toInt = 2 ∧ (Int32.ofInt 3).toInt = 3 := ⟨rfl, rfl, rfl, rfl, rfl⟩
/-- GraphHouse$Ways.leads -/
theorem f_209_49_2 {Z : AmZ} {A : Nat → Nat} {s : GS} {ex : va_W} {d : Nat} {X : AmX} {x2 : Int32} {x3 : Int32} {x4 : Int32} (hd : 4 ≤ d) (hI : Inv s) (h2 : In x2 0 31) (h4 : In x4 0 3) (q_0 : TQ s) (q_1 : (((s).2.2.1 2 4).toInt = ((s).2.2.1 2 0).toInt)) (q_2 : NDQ (gvC s)) : GC Z d 209 [.ref (A 49), .ref (A 2), .int x2, .int x3, .int x4] (WW Z A s ++ ex) 0 0 (fun v u => ∃ z : Int32, v = some (.int z) ∧ u = WW Z A s ++ ex ∧ In z 0 1 ∧ (LDZ (ARE (gvC s) 0) (ARE (gvC s) 1) (s.2.2.1 49 10).toInt (x4).toInt.toNat ((x2).toNatClampNeg : Int) (bt x3) (z).toInt)) X := by
  intro post xp hP hX
  obtain ⟨u_49_10, e_49_10⟩ : ∃ w, w = s.2.2.1 49 10 := ⟨_, rfl⟩
  have ro_49_10 := inv_F hI 0 31 rfl e_49_10
  have ct60 : ∀ (k60 : Nat) (y60_5 : Int32) (y60_6 : Int32) (y60_7 : Int32), (LDW (gvC s) (x2).toNatClampNeg (s.2.2.1 49 10).toInt.toNat (bt x3) (x4).toInt (y60_5) (y60_6) (y60_7)) → ((y60_7.toBitVec.toNat : Nat) : Int) < (k60 : Int) → GG Z (d - 1) 209 post (gx xp) (1 + k60 * 900) 60 (fun j => xlook j [(0, .ref (A 49)), (1, .ref (A 2)), (2, .int x2), (3, .int x3), (4, .int x4), (5, .int y60_5), (6, .int y60_6), (7, .int y60_7)]) [] (WW Z A s ++ ex) 0 0 := by
    intro k60
    induction k60 with
    | zero => intro y60_5 y60_6 y60_7 g60_0 mm60; exact absurd mm60 (Int.not_lt.mpr (Int.natCast_nonneg _))
    | succ k60 ih60 =>
      intro y60_5 y60_6 y60_7 g60_0 mm60
      refine gg_w (M := 1 + k60 * 900 + 900) gws ?_
      refine g_iload 62 (gd rfl) rfl rfl ?_
      refine g_iconst 3 63 (gd rfl) rfl rfl ?_
      refine g_cmp_lt 66 105 (gd rfl) rfl rfl (fun c63 => ?_) (fun c63 => ?_)
      · skip
        have i63 := r_lt1 0 2 c63 h4 (in_c 3 rfl) rfl
        refine g_iconst 0 106 (gd rfl) rfl rfl ?_
        have n106 : LDZ (ARE (gvC s) 0) (ARE (gvC s) 1) (s.2.2.1 49 10).toInt (x4).toInt.toNat ((x2).toNatClampNeg : Int) (bt x3) ((Int32.ofInt 0)).toInt := by exact fun _ => (by have h9 := ldw_e q_2 g60_0 ⟨by (first | have a0 := oa3 i63 h2 ro_49_10 | ((first | have a0 := in_u i63 | (have a0 := i63; unfold In at a0)); (first | have a1 := in_u h2 | (have a1 := h2; unfold In at a1)); (first | have a2 := in_u ro_49_10 | (have a2 := ro_49_10; unfold In at a2)))); have oc := oc_209_49_2; omega, by (first | have a0 := oa3 i63 h2 ro_49_10 | ((first | have a0 := in_u i63 | (have a0 := i63; unfold In at a0)); (first | have a1 := in_u h2 | (have a1 := h2; unfold In at a1)); (first | have a2 := in_u ro_49_10 | (have a2 := ro_49_10; unfold In at a2)))); have oc := oc_209_49_2; omega⟩ (Or.inl (by (first | have a0 := oa3 i63 h2 ro_49_10 | ((first | have a0 := in_u i63 | (have a0 := i63; unfold In at a0)); (first | have a1 := in_u h2 | (have a1 := h2; unfold In at a1)); (first | have a2 := in_u ro_49_10 | (have a2 := ro_49_10; unfold In at a2)))); have oc := oc_209_49_2; omega)); rw [show (((s.2.2.1 49 10).toInt.toNat : Nat) : Int) = (s.2.2.1 49 10).toInt from (by rw [← e_49_10]; (first | have a0 := oa3 i63 h2 ro_49_10 | ((first | have a0 := in_u i63 | (have a0 := i63; unfold In at a0)); (first | have a1 := in_u h2 | (have a1 := h2; unfold In at a1)); (first | have a2 := in_u ro_49_10 | (have a2 := ro_49_10; unfold In at a2)))); have oc := oc_209_49_2; omega)] at h9; exact h9)
        exact g_ireturn (gd rfl) rfl (nb01 (in_w 0 1 (in_c 0 rfl) rfl)) (hP _ _ ⟨(Int32.ofInt 0), rfl, rfl, in_w 0 1 (in_c 0 rfl) rfl, n106⟩)
      · skip
        have i63 := r_le2 3 3 c63 (in_c 3 rfl) h4 rfl
        refine g_iload 68 (gd rfl) rfl rfl ?_
        refine g_if_eq 71 105 (gd rfl) rfl rfl (fun c68 => ?_) (fun c68 => ?_)
        · skip
          have i68 := z_eq 0 0 c68 (i_rng y60_7) rfl
          refine g_iconst 0 106 (gd rfl) rfl rfl ?_
          have n106 : LDZ (ARE (gvC s) 0) (ARE (gvC s) 1) (s.2.2.1 49 10).toInt (x4).toInt.toNat ((x2).toNatClampNeg : Int) (bt x3) ((Int32.ofInt 0)).toInt := by exact fun _ => (by have h9 := ldw_e q_2 g60_0 ⟨by (first | have a0 := oa4 i68 i63 h2 ro_49_10 | ((first | have a0 := in_u i68 | (have a0 := i68; unfold In at a0)); (first | have a1 := in_u i63 | (have a1 := i63; unfold In at a1)); (first | have a2 := in_u h2 | (have a2 := h2; unfold In at a2)); (first | have a3 := in_u ro_49_10 | (have a3 := ro_49_10; unfold In at a3)))); have oc := oc_209_49_2; omega, by (first | have a0 := oa4 i68 i63 h2 ro_49_10 | ((first | have a0 := in_u i68 | (have a0 := i68; unfold In at a0)); (first | have a1 := in_u i63 | (have a1 := i63; unfold In at a1)); (first | have a2 := in_u h2 | (have a2 := h2; unfold In at a2)); (first | have a3 := in_u ro_49_10 | (have a3 := ro_49_10; unfold In at a3)))); have oc := oc_209_49_2; omega⟩ (Or.inr c68); rw [show (((s.2.2.1 49 10).toInt.toNat : Nat) : Int) = (s.2.2.1 49 10).toInt from (by rw [← e_49_10]; (first | have a0 := oa4 i68 i63 h2 ro_49_10 | ((first | have a0 := in_u i68 | (have a0 := i68; unfold In at a0)); (first | have a1 := in_u i63 | (have a1 := i63; unfold In at a1)); (first | have a2 := in_u h2 | (have a2 := h2; unfold In at a2)); (first | have a3 := in_u ro_49_10 | (have a3 := ro_49_10; unfold In at a3)))); have oc := oc_209_49_2; omega)] at h9; exact h9)
          exact g_ireturn (gd rfl) rfl (nb01 (in_w 0 1 (in_c 0 rfl) rfl)) (hP _ _ ⟨(Int32.ofInt 0), rfl, rfl, in_w 0 1 (in_c 0 rfl) rfl, n106⟩)
        · skip
          refine g_aload_n 72 (gd rfl) rfl rfl ?_
          refine g_getA (q2 := 10) 75 (gd rfl) rfl rfl rfl rfl ?_
          refine g_iload 77 (gd rfl) rfl rfl ?_
          refine g_calls (As := [.int y60_7]) (r := [.ref (A 10)]) 80 (gd rfl) rfl rfl rfl rfl rfl (Nat.le_of_ble_eq_true rfl) (Nat.zero_le _) (Nat.zero_le _) (k_264n (by first | exact dq1 hd rfl | exact dq0 hd rfl | exact dq2 hd rfl | exact dq3 hd rfl | omega) c68) (fun v u h => ?_)
          obtain ⟨z77, rfl, rfl, i77, hb77, hl77⟩ := h
          show GG _ _ _ _ _ _ _ _ [.int z77, .ref (A 10)] _ _ _
          refine g_iaload 81 (gd rfl) rfl (n := 32) rfl (in_ix i77 rfl) (fun z80 e80 => ?_)
          refine g_iload_n 82 (gd rfl) rfl rfl ?_
          refine g_iconst (-1) 83 (gd rfl) rfl rfl ?_
          refine g_ixor 84 (gd rfl) rfl (fun z83 e83 => ?_)
          refine g_iand 85 (gd rfl) rfl (fun z84 e84 => ?_)
          refine g_iload 87 (gd rfl) rfl rfl ?_
          refine g_iand 88 (gd rfl) rfl (fun z87 e87 => ?_)
          refine g_if_eq 91 93 (gd rfl) rfl rfl (fun c88 => ?_) (fun c88 => ?_)
          · skip
            have i88 := z_eq 0 0 c88 (i_rng z87) rfl
            refine g_iload 95 (gd rfl) rfl rfl ?_
            refine g_iload 97 (gd rfl) rfl rfl ?_
            refine g_iconst 1 98 (gd rfl) rfl rfl ?_
            refine g_isub 99 (gd rfl) rfl (fun z98 e98 => ?_)
            refine g_iand 100 (gd rfl) rfl (fun z99 e99 => ?_)
            refine g_istore 102 (gd rfl) rfl (Nat.le_of_ble_eq_true rfl) ?_
            refine g_goto 60 (gd rfl) rfl ?_
            have n60 : LDW (gvC s) (x2).toNatClampNeg (s.2.2.1 49 10).toInt.toNat (bt x3) (x4).toInt (y60_5) (y60_6) (z99) := by exact ldw_s g60_0 (fe_2 hI (show Fr ([], [], [], []) s s from fr_rf) rfl rfl rfl q_1 q_0).1 i77 hl77 e80 e83 e84 e87 c88 e98 e99
            exact gg_w (by first | exact Nat.le_add_right _ _ | exact gw2 | exact gw3 | exact gwe rfl | exact gwf rfl | exact gwg rfl | exact gwh rfl | omega) (gg_f (gf_cons rfl (gf_cons rfl (gf_cons rfl (gf_cons rfl (gf_cons rfl (gf_cons rfl (gf_cons rfl (gf_cons rfl gf_nil)))))))) (ih60  y60_5 y60_6 z99  n60 (mb e99 e98 c68 mm60)))
          · skip
            refine g_iconst 1 92 (gd rfl) rfl rfl ?_
            have n92 : LDZ (ARE (gvC s) 0) (ARE (gvC s) 1) (s.2.2.1 49 10).toInt (x4).toInt.toNat ((x2).toNatClampNeg : Int) (bt x3) ((Int32.ofInt 1)).toInt := by exact fun h => absurd h (by decide)
            exact g_ireturn (gd rfl) rfl (nb01 (in_w 0 1 (in_c 1 rfl) rfl)) (hP _ _ ⟨(Int32.ofInt 1), rfl, rfl, in_w 0 1 (in_c 1 rfl) rfl, n92⟩)
  refine g_enter2 (k := 209) (N := 3865470567301) (by first | exact dq1 hd rfl | exact dq0 hd rfl | exact dq2 hd rfl | exact dq3 hd rfl | omega) rfl (Nat.le_of_ble_eq_true rfl) ?_
  refine g_aload_n 1 (gd rfl) rfl rfl ?_
  refine g_getA (q2 := 11) 4 (gd rfl) rfl rfl rfl rfl ?_
  refine g_aload_n 5 (gd rfl) rfl rfl ?_
  refine g_getI 8 (gd rfl) rfl rfl rfl (fun z5 e5 => ?_)
  have q5 : u_49_10 = z5 := (e_49_10).trans e5.symm
  subst q5
  refine g_iaload 9 (gd rfl) rfl (n := 32) rfl (in_ix ro_49_10 rfl) (fun z8 e8 => ?_)
  refine g_istore 11 (gd rfl) rfl (Nat.le_of_ble_eq_true rfl) ?_
  refine g_iload 13 (gd rfl) rfl rfl ?_
  refine g_iconst 1 14 (gd rfl) rfl rfl ?_
  refine g_cmp_lt 17 28 (gd rfl) rfl rfl (fun c14 => ?_) (fun c14 => ?_)
  · skip
    have i14 := r_lt1 0 0 c14 h4 (in_c 1 rfl) rfl
    refine g_aload_n 29 (gd rfl) rfl rfl ?_
    refine g_getA (q2 := 10) 32 (gd rfl) rfl rfl rfl rfl ?_
    refine g_iload_n 33 (gd rfl) rfl rfl ?_
    refine g_iaload 34 (gd rfl) rfl (n := 32) rfl (in_ix h2 rfl) (fun z33 e33 => ?_)
    refine g_iload_n 35 (gd rfl) rfl rfl ?_
    refine g_iconst (-1) 36 (gd rfl) rfl rfl ?_
    refine g_ixor 37 (gd rfl) rfl (fun z36 e36 => ?_)
    refine g_iand 38 (gd rfl) rfl (fun z37 e37 => ?_)
    refine g_istore 40 (gd rfl) rfl (Nat.le_of_ble_eq_true rfl) ?_
    refine g_iload 42 (gd rfl) rfl rfl ?_
    refine g_iconst 2 43 (gd rfl) rfl rfl ?_
    refine g_cmp_lt 46 56 (gd rfl) rfl rfl (fun c43 => ?_) (fun c43 => ?_)
    · skip
      refine g_iload 58 (gd rfl) rfl rfl ?_
      refine g_istore 60 (gd rfl) rfl (Nat.le_of_ble_eq_true rfl) ?_
      have n60 : LDW (gvC s) (x2).toNatClampNeg (s.2.2.1 49 10).toInt.toNat (bt x3) (x4).toInt (z8) (z37) (z37) := by exact ldw_0 (adj_i (fe_2 hI (show Fr ([], [], [], []) s s from fr_rf) rfl rfl rfl q_1 q_0).2.1 (show (s.2.2.1 49 10).toInt.toNat < 32 from (by rw [← e_49_10]; (first | have a0 := oa3 ro_49_10 i14 h2 | ((first | have a0 := in_u ro_49_10 | (have a0 := ro_49_10; unfold In at a0)); (first | have a1 := in_u i14 | (have a1 := i14; unfold In at a1)); (first | have a2 := in_u h2 | (have a2 := h2; unfold In at a2)))); have oc := oc_209_49_2; omega)) (by rw [e8]; rw [e_49_10]; rfl)) (fun w => (bt_mi e36 e37 w).trans (and_congr (adj_o (fe_2 hI (show Fr ([], [], [], []) s s from fr_rf) rfl rfl rfl q_1 q_0).1 (show (x2).toNatClampNeg < 32 from (by show (x2).toInt.toNat < 32; (first | have a0 := oa3 ro_49_10 i14 h2 | ((first | have a0 := in_u ro_49_10 | (have a0 := ro_49_10; unfold In at a0)); (first | have a1 := in_u i14 | (have a1 := i14; unfold In at a1)); (first | have a2 := in_u h2 | (have a2 := h2; unfold In at a2)))); have oc := oc_209_49_2; (first | exact zt_l (by decide) (by omega) | omega))) e33 w) Iff.rfl)) (fun h => by exfalso; (first | have a0 := oa3 ro_49_10 i14 h2 | ((first | have a0 := in_u ro_49_10 | (have a0 := ro_49_10; unfold In at a0)); (first | have a1 := in_u i14 | (have a1 := i14; unfold In at a1)); (first | have a2 := in_u h2 | (have a2 := h2; unfold In at a2)))); have oc := oc_209_49_2; omega) (fun h => by exfalso; (first | have a0 := oa3 ro_49_10 i14 h2 | ((first | have a0 := in_u ro_49_10 | (have a0 := ro_49_10; unfold In at a0)); (first | have a1 := in_u i14 | (have a1 := i14; unfold In at a1)); (first | have a2 := in_u h2 | (have a2 := h2; unfold In at a2)))); have oc := oc_209_49_2; omega)
      exact gg_w (by first | exact Nat.le_of_ble_eq_true rfl | omega) (gg_f (gf_cons rfl (gf_cons rfl (gf_cons rfl (gf_cons rfl (gf_cons rfl (gf_cons rfl (gf_cons rfl (gf_cons rfl gf_nil)))))))) (ct60 4294967296  z8 z37 z37  n60 (mb_in _)))
    · skip
      exact n_le c43 (in_c 2 rfl) i14 rfl
  · skip
    have i14 := r_le2 1 3 c14 (in_c 1 rfl) h4 rfl
    refine g_iload 19 (gd rfl) rfl rfl ?_
    refine g_iload_n 20 (gd rfl) rfl rfl ?_
    refine g_ishr 21 (gd rfl) rfl (fun z20 e20 => ?_)
    refine g_iconst 1 22 (gd rfl) rfl rfl ?_
    refine g_iand 23 (gd rfl) rfl (fun z22 e22 => ?_)
    have i22 := in_and2 e22 (in_c 1 rfl) rfl
    refine g_if_eq 26 28 (gd rfl) rfl rfl (fun c23 => ?_) (fun c23 => ?_)
    · skip
      have i23 := z_eq 0 0 c23 i22 rfl
      refine g_aload_n 29 (gd rfl) rfl rfl ?_
      refine g_getA (q2 := 10) 32 (gd rfl) rfl rfl rfl rfl ?_
      refine g_iload_n 33 (gd rfl) rfl rfl ?_
      refine g_iaload 34 (gd rfl) rfl (n := 32) rfl (in_ix h2 rfl) (fun z33 e33 => ?_)
      refine g_iload_n 35 (gd rfl) rfl rfl ?_
      refine g_iconst (-1) 36 (gd rfl) rfl rfl ?_
      refine g_ixor 37 (gd rfl) rfl (fun z36 e36 => ?_)
      refine g_iand 38 (gd rfl) rfl (fun z37 e37 => ?_)
      refine g_istore 40 (gd rfl) rfl (Nat.le_of_ble_eq_true rfl) ?_
      refine g_iload 42 (gd rfl) rfl rfl ?_
      refine g_iconst 2 43 (gd rfl) rfl rfl ?_
      refine g_cmp_lt 46 56 (gd rfl) rfl rfl (fun c43 => ?_) (fun c43 => ?_)
      · skip
        have i43 := r_lt1 1 1 c43 i14 (in_c 2 rfl) rfl
        refine g_iload 58 (gd rfl) rfl rfl ?_
        refine g_istore 60 (gd rfl) rfl (Nat.le_of_ble_eq_true rfl) ?_
        have n60 : LDW (gvC s) (x2).toNatClampNeg (s.2.2.1 49 10).toInt.toNat (bt x3) (x4).toInt (z8) (z37) (z37) := by exact ldw_0 (adj_i (fe_2 hI (show Fr ([], [], [], []) s s from fr_rf) rfl rfl rfl q_1 q_0).2.1 (show (s.2.2.1 49 10).toInt.toNat < 32 from (by rw [← e_49_10]; (first | have a0 := oa3 ro_49_10 i43 h2 | ((first | have a0 := in_u ro_49_10 | (have a0 := ro_49_10; unfold In at a0)); (first | have a1 := in_u i43 | (have a1 := i43; unfold In at a1)); (first | have a2 := in_u h2 | (have a2 := h2; unfold In at a2)))); have oc := oc_209_49_2; omega)) (by rw [e8]; rw [e_49_10]; rfl)) (fun w => (bt_mi e36 e37 w).trans (and_congr (adj_o (fe_2 hI (show Fr ([], [], [], []) s s from fr_rf) rfl rfl rfl q_1 q_0).1 (show (x2).toNatClampNeg < 32 from (by show (x2).toInt.toNat < 32; (first | have a0 := oa3 ro_49_10 i43 h2 | ((first | have a0 := in_u ro_49_10 | (have a0 := ro_49_10; unfold In at a0)); (first | have a1 := in_u i43 | (have a1 := i43; unfold In at a1)); (first | have a2 := in_u h2 | (have a2 := h2; unfold In at a2)))); have oc := oc_209_49_2; (first | exact zt_l (by decide) (by omega) | omega))) e33 w) Iff.rfl)) (fun _ => bt_f0 (bt_ask e20 e22 h2) c23) (fun h => by exfalso; (first | have a0 := oa3 ro_49_10 i43 h2 | ((first | have a0 := in_u ro_49_10 | (have a0 := ro_49_10; unfold In at a0)); (first | have a1 := in_u i43 | (have a1 := i43; unfold In at a1)); (first | have a2 := in_u h2 | (have a2 := h2; unfold In at a2)))); have oc := oc_209_49_2; omega)
        exact gg_w (by first | exact Nat.le_of_ble_eq_true rfl | omega) (gg_f (gf_cons rfl (gf_cons rfl (gf_cons rfl (gf_cons rfl (gf_cons rfl (gf_cons rfl (gf_cons rfl (gf_cons rfl gf_nil)))))))) (ct60 4294967296  z8 z37 z37  n60 (mb_in _)))
      · skip
        have i43 := r_le2 2 3 c43 (in_c 2 rfl) i14 rfl
        refine g_iload 48 (gd rfl) rfl rfl ?_
        refine g_iload 50 (gd rfl) rfl rfl ?_
        refine g_iand 51 (gd rfl) rfl (fun z50 e50 => ?_)
        refine g_if_eq 54 56 (gd rfl) rfl rfl (fun c51 => ?_) (fun c51 => ?_)
        · skip
          have i51 := z_eq 0 0 c51 (i_rng z50) rfl
          refine g_iload 58 (gd rfl) rfl rfl ?_
          refine g_istore 60 (gd rfl) rfl (Nat.le_of_ble_eq_true rfl) ?_
          have n60 : LDW (gvC s) (x2).toNatClampNeg (s.2.2.1 49 10).toInt.toNat (bt x3) (x4).toInt (z8) (z37) (z37) := by exact ldw_0 (adj_i (fe_2 hI (show Fr ([], [], [], []) s s from fr_rf) rfl rfl rfl q_1 q_0).2.1 (show (s.2.2.1 49 10).toInt.toNat < 32 from (by rw [← e_49_10]; (first | have a0 := oa3 ro_49_10 i43 h2 | ((first | have a0 := in_u ro_49_10 | (have a0 := ro_49_10; unfold In at a0)); (first | have a1 := in_u i43 | (have a1 := i43; unfold In at a1)); (first | have a2 := in_u h2 | (have a2 := h2; unfold In at a2)))); have oc := oc_209_49_2; omega)) (by rw [e8]; rw [e_49_10]; rfl)) (fun w => (bt_mi e36 e37 w).trans (and_congr (adj_o (fe_2 hI (show Fr ([], [], [], []) s s from fr_rf) rfl rfl rfl q_1 q_0).1 (show (x2).toNatClampNeg < 32 from (by show (x2).toInt.toNat < 32; (first | have a0 := oa3 ro_49_10 i43 h2 | ((first | have a0 := in_u ro_49_10 | (have a0 := ro_49_10; unfold In at a0)); (first | have a1 := in_u i43 | (have a1 := i43; unfold In at a1)); (first | have a2 := in_u h2 | (have a2 := h2; unfold In at a2)))); have oc := oc_209_49_2; (first | exact zt_l (by decide) (by omega) | omega))) e33 w) Iff.rfl)) (fun _ => bt_f0 (bt_ask e20 e22 h2) c23) (fun _ w a b => z_no c51 w (by rw [bt_and e50, a, b]; rfl))
          exact gg_w (by first | exact Nat.le_of_ble_eq_true rfl | omega) (gg_f (gf_cons rfl (gf_cons rfl (gf_cons rfl (gf_cons rfl (gf_cons rfl (gf_cons rfl (gf_cons rfl (gf_cons rfl gf_nil)))))))) (ct60 4294967296  z8 z37 z37  n60 (mb_in _)))
        · skip
          refine g_iconst 1 55 (gd rfl) rfl rfl ?_
          have n55 : LDZ (ARE (gvC s) 0) (ARE (gvC s) 1) (s.2.2.1 49 10).toInt (x4).toInt.toNat ((x2).toNatClampNeg : Int) (bt x3) ((Int32.ofInt 1)).toInt := by exact fun h => absurd h (by decide)
          exact g_ireturn (gd rfl) rfl (nb01 (in_w 0 1 (in_c 1 rfl) rfl)) (hP _ _ ⟨(Int32.ofInt 1), rfl, rfl, in_w 0 1 (in_c 1 rfl) rfl, n55⟩)
    · skip
      have i23 := z_ne 1 1 c23 i22 rfl
      refine g_iconst 1 27 (gd rfl) rfl rfl ?_
      have n27 : LDZ (ARE (gvC s) 0) (ARE (gvC s) 1) (s.2.2.1 49 10).toInt (x4).toInt.toNat ((x2).toNatClampNeg : Int) (bt x3) ((Int32.ofInt 1)).toInt := by exact fun h => absurd h (by decide)
      exact g_ireturn (gd rfl) rfl (nb01 (in_w 0 1 (in_c 1 rfl) rfl)) (hP _ _ ⟨(Int32.ofInt 1), rfl, rfl, in_w 0 1 (in_c 1 rfl) rfl, n27⟩)

theorem oc_209_49_32 : (Int32.ofInt (-1)).toInt = (-1) ∧ (Int32.ofInt 0).toInt = 0 ∧ (Int32.ofInt 1).toInt = 1 ∧ (Int32.ofInt 2).toInt = 2 ∧ (Int32.ofInt 3).toInt = 3 := ⟨rfl, rfl, rfl, rfl, rfl⟩
/-- GraphHouse$Ways.leads -/
theorem f_209_49_32 {Z : AmZ} {A : Nat → Nat} {s : GS} {ex : va_W} {d : Nat} {X : AmX} {x2 : Int32} {x3 : Int32} {x4 : Int32} (hd : 4 ≤ d) (hI : Inv s) (h2 : In x2 0 31) (h4 : In x4 0 3) (q_0 : TQD s) (q_1 : (((s).2.2.1 32 4).toInt = ((s).2.2.1 32 0).toInt)) (q_2 : NDQ (gvD s)) : GC Z d 209 [.ref (A 49), .ref (A 32), .int x2, .int x3, .int x4] (WW Z A s ++ ex) 0 0 (fun v u => ∃ z : Int32, v = some (.int z) ∧ u = WW Z A s ++ ex ∧ In z 0 1 ∧ (LDZ (ARE (gvD s) 0) (ARE (gvD s) 1) (s.2.2.1 49 10).toInt (x4).toInt.toNat ((x2).toNatClampNeg : Int) (bt x3) (z).toInt)) X := by
  intro post xp hP hX
  obtain ⟨u_49_10, e_49_10⟩ : ∃ w, w = s.2.2.1 49 10 := ⟨_, rfl⟩
  have ro_49_10 := inv_F hI 0 31 rfl e_49_10
  have ct60 : ∀ (k60 : Nat) (y60_5 : Int32) (y60_6 : Int32) (y60_7 : Int32), (LDW (gvD s) (x2).toNatClampNeg (s.2.2.1 49 10).toInt.toNat (bt x3) (x4).toInt (y60_5) (y60_6) (y60_7)) → ((y60_7.toBitVec.toNat : Nat) : Int) < (k60 : Int) → GG Z (d - 1) 209 post (gx xp) (1 + k60 * 900) 60 (fun j => xlook j [(0, .ref (A 49)), (1, .ref (A 32)), (2, .int x2), (3, .int x3), (4, .int x4), (5, .int y60_5), (6, .int y60_6), (7, .int y60_7)]) [] (WW Z A s ++ ex) 0 0 := by
    intro k60
    induction k60 with
    | zero => intro y60_5 y60_6 y60_7 g60_0 mm60; exact absurd mm60 (Int.not_lt.mpr (Int.natCast_nonneg _))
    | succ k60 ih60 =>
      intro y60_5 y60_6 y60_7 g60_0 mm60
      refine gg_w (M := 1 + k60 * 900 + 900) gws ?_
      refine g_iload 62 (gd rfl) rfl rfl ?_
      refine g_iconst 3 63 (gd rfl) rfl rfl ?_
      refine g_cmp_lt 66 105 (gd rfl) rfl rfl (fun c63 => ?_) (fun c63 => ?_)
      · skip
        have i63 := r_lt1 0 2 c63 h4 (in_c 3 rfl) rfl
        refine g_iconst 0 106 (gd rfl) rfl rfl ?_
        have n106 : LDZ (ARE (gvD s) 0) (ARE (gvD s) 1) (s.2.2.1 49 10).toInt (x4).toInt.toNat ((x2).toNatClampNeg : Int) (bt x3) ((Int32.ofInt 0)).toInt := by exact fun _ => (by have h9 := ldw_e q_2 g60_0 ⟨by (first | have a0 := oa3 i63 h2 ro_49_10 | ((first | have a0 := in_u i63 | (have a0 := i63; unfold In at a0)); (first | have a1 := in_u h2 | (have a1 := h2; unfold In at a1)); (first | have a2 := in_u ro_49_10 | (have a2 := ro_49_10; unfold In at a2)))); have oc := oc_209_49_32; omega, by (first | have a0 := oa3 i63 h2 ro_49_10 | ((first | have a0 := in_u i63 | (have a0 := i63; unfold In at a0)); (first | have a1 := in_u h2 | (have a1 := h2; unfold In at a1)); (first | have a2 := in_u ro_49_10 | (have a2 := ro_49_10; unfold In at a2)))); have oc := oc_209_49_32; omega⟩ (Or.inl (by (first | have a0 := oa3 i63 h2 ro_49_10 | ((first | have a0 := in_u i63 | (have a0 := i63; unfold In at a0)); (first | have a1 := in_u h2 | (have a1 := h2; unfold In at a1)); (first | have a2 := in_u ro_49_10 | (have a2 := ro_49_10; unfold In at a2)))); have oc := oc_209_49_32; omega)); rw [show (((s.2.2.1 49 10).toInt.toNat : Nat) : Int) = (s.2.2.1 49 10).toInt from (by rw [← e_49_10]; (first | have a0 := oa3 i63 h2 ro_49_10 | ((first | have a0 := in_u i63 | (have a0 := i63; unfold In at a0)); (first | have a1 := in_u h2 | (have a1 := h2; unfold In at a1)); (first | have a2 := in_u ro_49_10 | (have a2 := ro_49_10; unfold In at a2)))); have oc := oc_209_49_32; omega)] at h9; exact h9)
        exact g_ireturn (gd rfl) rfl (nb01 (in_w 0 1 (in_c 0 rfl) rfl)) (hP _ _ ⟨(Int32.ofInt 0), rfl, rfl, in_w 0 1 (in_c 0 rfl) rfl, n106⟩)
      · skip
        have i63 := r_le2 3 3 c63 (in_c 3 rfl) h4 rfl
        refine g_iload 68 (gd rfl) rfl rfl ?_
        refine g_if_eq 71 105 (gd rfl) rfl rfl (fun c68 => ?_) (fun c68 => ?_)
        · skip
          have i68 := z_eq 0 0 c68 (i_rng y60_7) rfl
          refine g_iconst 0 106 (gd rfl) rfl rfl ?_
          have n106 : LDZ (ARE (gvD s) 0) (ARE (gvD s) 1) (s.2.2.1 49 10).toInt (x4).toInt.toNat ((x2).toNatClampNeg : Int) (bt x3) ((Int32.ofInt 0)).toInt := by exact fun _ => (by have h9 := ldw_e q_2 g60_0 ⟨by (first | have a0 := oa4 i68 i63 h2 ro_49_10 | ((first | have a0 := in_u i68 | (have a0 := i68; unfold In at a0)); (first | have a1 := in_u i63 | (have a1 := i63; unfold In at a1)); (first | have a2 := in_u h2 | (have a2 := h2; unfold In at a2)); (first | have a3 := in_u ro_49_10 | (have a3 := ro_49_10; unfold In at a3)))); have oc := oc_209_49_32; omega, by (first | have a0 := oa4 i68 i63 h2 ro_49_10 | ((first | have a0 := in_u i68 | (have a0 := i68; unfold In at a0)); (first | have a1 := in_u i63 | (have a1 := i63; unfold In at a1)); (first | have a2 := in_u h2 | (have a2 := h2; unfold In at a2)); (first | have a3 := in_u ro_49_10 | (have a3 := ro_49_10; unfold In at a3)))); have oc := oc_209_49_32; omega⟩ (Or.inr c68); rw [show (((s.2.2.1 49 10).toInt.toNat : Nat) : Int) = (s.2.2.1 49 10).toInt from (by rw [← e_49_10]; (first | have a0 := oa4 i68 i63 h2 ro_49_10 | ((first | have a0 := in_u i68 | (have a0 := i68; unfold In at a0)); (first | have a1 := in_u i63 | (have a1 := i63; unfold In at a1)); (first | have a2 := in_u h2 | (have a2 := h2; unfold In at a2)); (first | have a3 := in_u ro_49_10 | (have a3 := ro_49_10; unfold In at a3)))); have oc := oc_209_49_32; omega)] at h9; exact h9)
          exact g_ireturn (gd rfl) rfl (nb01 (in_w 0 1 (in_c 0 rfl) rfl)) (hP _ _ ⟨(Int32.ofInt 0), rfl, rfl, in_w 0 1 (in_c 0 rfl) rfl, n106⟩)
        · skip
          refine g_aload_n 72 (gd rfl) rfl rfl ?_
          refine g_getA (q2 := 40) 75 (gd rfl) rfl rfl rfl rfl ?_
          refine g_iload 77 (gd rfl) rfl rfl ?_
          refine g_calls (As := [.int y60_7]) (r := [.ref (A 40)]) 80 (gd rfl) rfl rfl rfl rfl rfl (Nat.le_of_ble_eq_true rfl) (Nat.zero_le _) (Nat.zero_le _) (k_264n (by first | exact dq1 hd rfl | exact dq0 hd rfl | exact dq2 hd rfl | exact dq3 hd rfl | omega) c68) (fun v u h => ?_)
          obtain ⟨z77, rfl, rfl, i77, hb77, hl77⟩ := h
          show GG _ _ _ _ _ _ _ _ [.int z77, .ref (A 40)] _ _ _
          refine g_iaload 81 (gd rfl) rfl (n := 32) rfl (in_ix i77 rfl) (fun z80 e80 => ?_)
          refine g_iload_n 82 (gd rfl) rfl rfl ?_
          refine g_iconst (-1) 83 (gd rfl) rfl rfl ?_
          refine g_ixor 84 (gd rfl) rfl (fun z83 e83 => ?_)
          refine g_iand 85 (gd rfl) rfl (fun z84 e84 => ?_)
          refine g_iload 87 (gd rfl) rfl rfl ?_
          refine g_iand 88 (gd rfl) rfl (fun z87 e87 => ?_)
          refine g_if_eq 91 93 (gd rfl) rfl rfl (fun c88 => ?_) (fun c88 => ?_)
          · skip
            have i88 := z_eq 0 0 c88 (i_rng z87) rfl
            refine g_iload 95 (gd rfl) rfl rfl ?_
            refine g_iload 97 (gd rfl) rfl rfl ?_
            refine g_iconst 1 98 (gd rfl) rfl rfl ?_
            refine g_isub 99 (gd rfl) rfl (fun z98 e98 => ?_)
            refine g_iand 100 (gd rfl) rfl (fun z99 e99 => ?_)
            refine g_istore 102 (gd rfl) rfl (Nat.le_of_ble_eq_true rfl) ?_
            refine g_goto 60 (gd rfl) rfl ?_
            have n60 : LDW (gvD s) (x2).toNatClampNeg (s.2.2.1 49 10).toInt.toNat (bt x3) (x4).toInt (y60_5) (y60_6) (z99) := by exact ldw_s g60_0 (fe_32 hI (show Fr ([], [], [], []) s s from fr_rf) rfl rfl rfl q_1 q_0).1 i77 hl77 e80 e83 e84 e87 c88 e98 e99
            exact gg_w (by first | exact Nat.le_add_right _ _ | exact gw2 | exact gw3 | exact gwe rfl | exact gwf rfl | exact gwg rfl | exact gwh rfl | omega) (gg_f (gf_cons rfl (gf_cons rfl (gf_cons rfl (gf_cons rfl (gf_cons rfl (gf_cons rfl (gf_cons rfl (gf_cons rfl gf_nil)))))))) (ih60  y60_5 y60_6 z99  n60 (mb e99 e98 c68 mm60)))
          · skip
            refine g_iconst 1 92 (gd rfl) rfl rfl ?_
            have n92 : LDZ (ARE (gvD s) 0) (ARE (gvD s) 1) (s.2.2.1 49 10).toInt (x4).toInt.toNat ((x2).toNatClampNeg : Int) (bt x3) ((Int32.ofInt 1)).toInt := by exact fun h => absurd h (by decide)
            exact g_ireturn (gd rfl) rfl (nb01 (in_w 0 1 (in_c 1 rfl) rfl)) (hP _ _ ⟨(Int32.ofInt 1), rfl, rfl, in_w 0 1 (in_c 1 rfl) rfl, n92⟩)
  refine g_enter2 (k := 209) (N := 3865470567301) (by first | exact dq1 hd rfl | exact dq0 hd rfl | exact dq2 hd rfl | exact dq3 hd rfl | omega) rfl (Nat.le_of_ble_eq_true rfl) ?_
  refine g_aload_n 1 (gd rfl) rfl rfl ?_
  refine g_getA (q2 := 41) 4 (gd rfl) rfl rfl rfl rfl ?_
  refine g_aload_n 5 (gd rfl) rfl rfl ?_
  refine g_getI 8 (gd rfl) rfl rfl rfl (fun z5 e5 => ?_)
  have q5 : u_49_10 = z5 := (e_49_10).trans e5.symm
  subst q5
  refine g_iaload 9 (gd rfl) rfl (n := 32) rfl (in_ix ro_49_10 rfl) (fun z8 e8 => ?_)
  refine g_istore 11 (gd rfl) rfl (Nat.le_of_ble_eq_true rfl) ?_
  refine g_iload 13 (gd rfl) rfl rfl ?_
  refine g_iconst 1 14 (gd rfl) rfl rfl ?_
  refine g_cmp_lt 17 28 (gd rfl) rfl rfl (fun c14 => ?_) (fun c14 => ?_)
  · skip
    have i14 := r_lt1 0 0 c14 h4 (in_c 1 rfl) rfl
    refine g_aload_n 29 (gd rfl) rfl rfl ?_
    refine g_getA (q2 := 40) 32 (gd rfl) rfl rfl rfl rfl ?_
    refine g_iload_n 33 (gd rfl) rfl rfl ?_
    refine g_iaload 34 (gd rfl) rfl (n := 32) rfl (in_ix h2 rfl) (fun z33 e33 => ?_)
    refine g_iload_n 35 (gd rfl) rfl rfl ?_
    refine g_iconst (-1) 36 (gd rfl) rfl rfl ?_
    refine g_ixor 37 (gd rfl) rfl (fun z36 e36 => ?_)
    refine g_iand 38 (gd rfl) rfl (fun z37 e37 => ?_)
    refine g_istore 40 (gd rfl) rfl (Nat.le_of_ble_eq_true rfl) ?_
    refine g_iload 42 (gd rfl) rfl rfl ?_
    refine g_iconst 2 43 (gd rfl) rfl rfl ?_
    refine g_cmp_lt 46 56 (gd rfl) rfl rfl (fun c43 => ?_) (fun c43 => ?_)
    · skip
      refine g_iload 58 (gd rfl) rfl rfl ?_
      refine g_istore 60 (gd rfl) rfl (Nat.le_of_ble_eq_true rfl) ?_
      have n60 : LDW (gvD s) (x2).toNatClampNeg (s.2.2.1 49 10).toInt.toNat (bt x3) (x4).toInt (z8) (z37) (z37) := by exact ldw_0 (adj_i (fe_32 hI (show Fr ([], [], [], []) s s from fr_rf) rfl rfl rfl q_1 q_0).2.1 (show (s.2.2.1 49 10).toInt.toNat < 32 from (by rw [← e_49_10]; (first | have a0 := oa3 ro_49_10 i14 h2 | ((first | have a0 := in_u ro_49_10 | (have a0 := ro_49_10; unfold In at a0)); (first | have a1 := in_u i14 | (have a1 := i14; unfold In at a1)); (first | have a2 := in_u h2 | (have a2 := h2; unfold In at a2)))); have oc := oc_209_49_32; omega)) (by rw [e8]; rw [e_49_10]; rfl)) (fun w => (bt_mi e36 e37 w).trans (and_congr (adj_o (fe_32 hI (show Fr ([], [], [], []) s s from fr_rf) rfl rfl rfl q_1 q_0).1 (show (x2).toNatClampNeg < 32 from (by show (x2).toInt.toNat < 32; (first | have a0 := oa3 ro_49_10 i14 h2 | ((first | have a0 := in_u ro_49_10 | (have a0 := ro_49_10; unfold In at a0)); (first | have a1 := in_u i14 | (have a1 := i14; unfold In at a1)); (first | have a2 := in_u h2 | (have a2 := h2; unfold In at a2)))); have oc := oc_209_49_32; (first | exact zt_l (by decide) (by omega) | omega))) e33 w) Iff.rfl)) (fun h => by exfalso; (first | have a0 := oa3 ro_49_10 i14 h2 | ((first | have a0 := in_u ro_49_10 | (have a0 := ro_49_10; unfold In at a0)); (first | have a1 := in_u i14 | (have a1 := i14; unfold In at a1)); (first | have a2 := in_u h2 | (have a2 := h2; unfold In at a2)))); have oc := oc_209_49_32; omega) (fun h => by exfalso; (first | have a0 := oa3 ro_49_10 i14 h2 | ((first | have a0 := in_u ro_49_10 | (have a0 := ro_49_10; unfold In at a0)); (first | have a1 := in_u i14 | (have a1 := i14; unfold In at a1)); (first | have a2 := in_u h2 | (have a2 := h2; unfold In at a2)))); have oc := oc_209_49_32; omega)
      exact gg_w (by first | exact Nat.le_of_ble_eq_true rfl | omega) (gg_f (gf_cons rfl (gf_cons rfl (gf_cons rfl (gf_cons rfl (gf_cons rfl (gf_cons rfl (gf_cons rfl (gf_cons rfl gf_nil)))))))) (ct60 4294967296  z8 z37 z37  n60 (mb_in _)))
    · skip
      exact n_le c43 (in_c 2 rfl) i14 rfl
  · skip
    have i14 := r_le2 1 3 c14 (in_c 1 rfl) h4 rfl
    refine g_iload 19 (gd rfl) rfl rfl ?_
    refine g_iload_n 20 (gd rfl) rfl rfl ?_
    refine g_ishr 21 (gd rfl) rfl (fun z20 e20 => ?_)
    refine g_iconst 1 22 (gd rfl) rfl rfl ?_
    refine g_iand 23 (gd rfl) rfl (fun z22 e22 => ?_)
    have i22 := in_and2 e22 (in_c 1 rfl) rfl
    refine g_if_eq 26 28 (gd rfl) rfl rfl (fun c23 => ?_) (fun c23 => ?_)
    · skip
      have i23 := z_eq 0 0 c23 i22 rfl
      refine g_aload_n 29 (gd rfl) rfl rfl ?_
      refine g_getA (q2 := 40) 32 (gd rfl) rfl rfl rfl rfl ?_
      refine g_iload_n 33 (gd rfl) rfl rfl ?_
      refine g_iaload 34 (gd rfl) rfl (n := 32) rfl (in_ix h2 rfl) (fun z33 e33 => ?_)
      refine g_iload_n 35 (gd rfl) rfl rfl ?_
      refine g_iconst (-1) 36 (gd rfl) rfl rfl ?_
      refine g_ixor 37 (gd rfl) rfl (fun z36 e36 => ?_)
      refine g_iand 38 (gd rfl) rfl (fun z37 e37 => ?_)
      refine g_istore 40 (gd rfl) rfl (Nat.le_of_ble_eq_true rfl) ?_
      refine g_iload 42 (gd rfl) rfl rfl ?_
      refine g_iconst 2 43 (gd rfl) rfl rfl ?_
      refine g_cmp_lt 46 56 (gd rfl) rfl rfl (fun c43 => ?_) (fun c43 => ?_)
      · skip
        have i43 := r_lt1 1 1 c43 i14 (in_c 2 rfl) rfl
        refine g_iload 58 (gd rfl) rfl rfl ?_
        refine g_istore 60 (gd rfl) rfl (Nat.le_of_ble_eq_true rfl) ?_
        have n60 : LDW (gvD s) (x2).toNatClampNeg (s.2.2.1 49 10).toInt.toNat (bt x3) (x4).toInt (z8) (z37) (z37) := by exact ldw_0 (adj_i (fe_32 hI (show Fr ([], [], [], []) s s from fr_rf) rfl rfl rfl q_1 q_0).2.1 (show (s.2.2.1 49 10).toInt.toNat < 32 from (by rw [← e_49_10]; (first | have a0 := oa3 ro_49_10 i43 h2 | ((first | have a0 := in_u ro_49_10 | (have a0 := ro_49_10; unfold In at a0)); (first | have a1 := in_u i43 | (have a1 := i43; unfold In at a1)); (first | have a2 := in_u h2 | (have a2 := h2; unfold In at a2)))); have oc := oc_209_49_32; omega)) (by rw [e8]; rw [e_49_10]; rfl)) (fun w => (bt_mi e36 e37 w).trans (and_congr (adj_o (fe_32 hI (show Fr ([], [], [], []) s s from fr_rf) rfl rfl rfl q_1 q_0).1 (show (x2).toNatClampNeg < 32 from (by show (x2).toInt.toNat < 32; (first | have a0 := oa3 ro_49_10 i43 h2 | ((first | have a0 := in_u ro_49_10 | (have a0 := ro_49_10; unfold In at a0)); (first | have a1 := in_u i43 | (have a1 := i43; unfold In at a1)); (first | have a2 := in_u h2 | (have a2 := h2; unfold In at a2)))); have oc := oc_209_49_32; (first | exact zt_l (by decide) (by omega) | omega))) e33 w) Iff.rfl)) (fun _ => bt_f0 (bt_ask e20 e22 h2) c23) (fun h => by exfalso; (first | have a0 := oa3 ro_49_10 i43 h2 | ((first | have a0 := in_u ro_49_10 | (have a0 := ro_49_10; unfold In at a0)); (first | have a1 := in_u i43 | (have a1 := i43; unfold In at a1)); (first | have a2 := in_u h2 | (have a2 := h2; unfold In at a2)))); have oc := oc_209_49_32; omega)
        exact gg_w (by first | exact Nat.le_of_ble_eq_true rfl | omega) (gg_f (gf_cons rfl (gf_cons rfl (gf_cons rfl (gf_cons rfl (gf_cons rfl (gf_cons rfl (gf_cons rfl (gf_cons rfl gf_nil)))))))) (ct60 4294967296  z8 z37 z37  n60 (mb_in _)))
      · skip
        have i43 := r_le2 2 3 c43 (in_c 2 rfl) i14 rfl
        refine g_iload 48 (gd rfl) rfl rfl ?_
        refine g_iload 50 (gd rfl) rfl rfl ?_
        refine g_iand 51 (gd rfl) rfl (fun z50 e50 => ?_)
        refine g_if_eq 54 56 (gd rfl) rfl rfl (fun c51 => ?_) (fun c51 => ?_)
        · skip
          have i51 := z_eq 0 0 c51 (i_rng z50) rfl
          refine g_iload 58 (gd rfl) rfl rfl ?_
          refine g_istore 60 (gd rfl) rfl (Nat.le_of_ble_eq_true rfl) ?_
          have n60 : LDW (gvD s) (x2).toNatClampNeg (s.2.2.1 49 10).toInt.toNat (bt x3) (x4).toInt (z8) (z37) (z37) := by exact ldw_0 (adj_i (fe_32 hI (show Fr ([], [], [], []) s s from fr_rf) rfl rfl rfl q_1 q_0).2.1 (show (s.2.2.1 49 10).toInt.toNat < 32 from (by rw [← e_49_10]; (first | have a0 := oa3 ro_49_10 i43 h2 | ((first | have a0 := in_u ro_49_10 | (have a0 := ro_49_10; unfold In at a0)); (first | have a1 := in_u i43 | (have a1 := i43; unfold In at a1)); (first | have a2 := in_u h2 | (have a2 := h2; unfold In at a2)))); have oc := oc_209_49_32; omega)) (by rw [e8]; rw [e_49_10]; rfl)) (fun w => (bt_mi e36 e37 w).trans (and_congr (adj_o (fe_32 hI (show Fr ([], [], [], []) s s from fr_rf) rfl rfl rfl q_1 q_0).1 (show (x2).toNatClampNeg < 32 from (by show (x2).toInt.toNat < 32; (first | have a0 := oa3 ro_49_10 i43 h2 | ((first | have a0 := in_u ro_49_10 | (have a0 := ro_49_10; unfold In at a0)); (first | have a1 := in_u i43 | (have a1 := i43; unfold In at a1)); (first | have a2 := in_u h2 | (have a2 := h2; unfold In at a2)))); have oc := oc_209_49_32; (first | exact zt_l (by decide) (by omega) | omega))) e33 w) Iff.rfl)) (fun _ => bt_f0 (bt_ask e20 e22 h2) c23) (fun _ w a b => z_no c51 w (by rw [bt_and e50, a, b]; rfl))
          exact gg_w (by first | exact Nat.le_of_ble_eq_true rfl | omega) (gg_f (gf_cons rfl (gf_cons rfl (gf_cons rfl (gf_cons rfl (gf_cons rfl (gf_cons rfl (gf_cons rfl (gf_cons rfl gf_nil)))))))) (ct60 4294967296  z8 z37 z37  n60 (mb_in _)))
        · skip
          refine g_iconst 1 55 (gd rfl) rfl rfl ?_
          have n55 : LDZ (ARE (gvD s) 0) (ARE (gvD s) 1) (s.2.2.1 49 10).toInt (x4).toInt.toNat ((x2).toNatClampNeg : Int) (bt x3) ((Int32.ofInt 1)).toInt := by exact fun h => absurd h (by decide)
          exact g_ireturn (gd rfl) rfl (nb01 (in_w 0 1 (in_c 1 rfl) rfl)) (hP _ _ ⟨(Int32.ofInt 1), rfl, rfl, in_w 0 1 (in_c 1 rfl) rfl, n55⟩)
    · skip
      have i23 := z_ne 1 1 c23 i22 rfl
      refine g_iconst 1 27 (gd rfl) rfl rfl ?_
      have n27 : LDZ (ARE (gvD s) 0) (ARE (gvD s) 1) (s.2.2.1 49 10).toInt (x4).toInt.toNat ((x2).toNatClampNeg : Int) (bt x3) ((Int32.ofInt 1)).toInt := by exact fun h => absurd h (by decide)
      exact g_ireturn (gd rfl) rfl (nb01 (in_w 0 1 (in_c 1 rfl) rfl)) (hP _ _ ⟨(Int32.ofInt 1), rfl, rfl, in_w 0 1 (in_c 1 rfl) rfl, n27⟩)
