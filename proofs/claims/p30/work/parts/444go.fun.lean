/-! FUNCTIONAL CONTRACTS, by fgen.py -/
theorem oc_135_1_46 : (Int32.ofInt (-4)).toInt = (-4) ∧ (Int32.ofInt (-1)).toInt = (-1) ∧ (Int32.ofInt 0).toInt = 0 ∧ (Int32.ofInt 1).toInt = 1 ∧ (Int32.ofInt 7).toInt = 7 ∧ (Int32.ofInt 1000).toInt = 1000 := ⟨rfl, rfl, rfl, rfl, rfl, rfl⟩
/-- GraphHouse$Ledger.carryOut -/
theorem f_135_1_46 {Z : AmZ} {A : Nat → Nat} {s : GS} {ex : va_W} {d : Nat} {X : AmX} {u_2_0 : Int32} {u_2_1 : Int32} {u_30_0 : Int32} {u_46_1 : Int32} (hd : 10 ≤ d) (hI : Inv s) (e_2_0 : u_2_0 = s.2.2.1 2 0) (e_2_1 : u_2_1 = s.2.2.1 2 1) (e_30_0 : u_30_0 = s.2.2.1 30 0) (e_46_1 : u_46_1 = s.2.2.1 46 1) (q_0 : KL s) (q_1 : TQ s) : GC Z d 135 [.ref (A 1), .ref (A 46)] (WW Z A s ++ ex) (lgC s) (lgS s) (fun v u => ∃ a : Nat, ∃ t : GS, Inv t ∧ Fr fm_135_1_46 s t ∧ ∃ z : Int32, v = some (.int z) ∧ u = WW Z (ax A 30 a) t ++ ex ∧ In z (-4) 1000 ∧ (KL t) ∧ ((z).toInt ≠ -4 → LOT (s.1 47) (s.2.2.1 46 1).toInt.toNat (gvC s) (z).toInt 0 0 (gvC t) ∧ (t.2.2.1 46 6).toInt = -1 ∧ (t.2.2.1 46 7).toInt = -1) ∧ ((z).toInt = -4 → LOT (s.1 47) (s.2.2.1 46 1).toInt.toNat (gvC s) (-4) (t.2.2.1 46 6).toInt (t.2.2.1 46 7).toInt (gvC t)) ∧ (TQ t) ∧ (LCO s t z)) X := by
  intro post xp hP hX
  have ro_46_1 := inv_F hI 0 1000 rfl e_46_1
  have ct17 : ∀ (k17 : Nat) (sc17 : GS) (ac17 : Nat) (cc17 : Nat) (cs17 : Nat) (y17_2 : Int32) (w17_46_2 : Int32) (w17_2_0 : Int32) (w17_2_1 : Int32) (w17_30_0 : Int32), Inv sc17 → Fr fm_135_1_46 s sc17 → (lgC sc17 ≤ cc17) → (lgS sc17 ≤ cs17) → (In y17_2 0 2001) → (w17_46_2 = sc17.2.2.1 46 2) → (w17_2_0 = sc17.2.2.1 2 0) → (w17_2_1 = sc17.2.2.1 2 1) → (w17_30_0 = sc17.2.2.1 30 0) → ((w17_46_2).toInt ≤ (u_46_1).toInt) → ((u_2_0).toInt ≤ (w17_2_0).toInt) → (KL sc17) → ((∀ p : Nat, p < 160 → sc17.1 18 p = s.1 4 p ∧ sc17.1 19 p = s.1 5 p) ∧ sc17.2.2.1 16 0 = s.2.2.1 2 0 ∧ sc17.2.2.1 16 1 = s.2.2.1 2 1) → (∀ k : Nat, (k : Int) < 7 * (s.2.2.1 2 0).toInt → sc17.1 30 k = s.1 30 k) → (GEQ (gvS sc17) (gvC s) ∧ TQS sc17) → (LRN (s.1 47) (s.2.2.1 46 1).toInt.toNat (gvC s) (y17_2).toInt.toNat (w17_46_2).toInt.toNat (gvC sc17)) → (TQ sc17) → ((sc17.2.2.1 46 6).toInt = -1 ∧ (sc17.2.2.1 46 7).toInt = -1) → (LGS s sc17 (y17_2).toInt.toNat) → 2001 - (y17_2).toInt < (k17 : Int) → GG Z (d - 1) 135 post (gx xp) (1 + k17 * 900) 17 (fun j => xlook j [(0, .ref (A 1)), (1, .ref (A 46)), (2, .int y17_2)]) [] (WW Z (ax A 30 ac17) sc17 ++ ex) cc17 cs17 := by
    intro k17
    induction k17 with
    | zero => intro sc17 ac17 cc17 cs17 y17_2 w17_46_2 w17_2_0 w17_2_1 w17_30_0 hIc17 hFc17 hcc17 hcs17 j17_2 v17_46_2 v17_2_0 v17_2_1 v17_30_0 n17_0 n17_1 g17_0 g17_1 g17_2 g17_3 g17_4 g17_5 g17_6 g17_7 mm17; exact m_no mm17 j17_2 rfl
    | succ k17 ih17 =>
      intro sc17 ac17 cc17 cs17 y17_2 w17_46_2 w17_2_0 w17_2_1 w17_30_0 hIc17 hFc17 hcc17 hcs17 j17_2 v17_46_2 v17_2_0 v17_2_1 v17_30_0 n17_0 n17_1 g17_0 g17_1 g17_2 g17_3 g17_4 g17_5 g17_6 g17_7 mm17
      refine gg_w (M := 1 + k17 * 900 + 900) gws ?_
      refine g_iload_n 18 (gd rfl) rfl rfl ?_
      refine g_sipush 1000 21 (gd rfl) rfl rfl ?_
      refine g_cmp_gt 24 68 (gd rfl) rfl rfl (fun c21 => ?_) (fun c21 => ?_)
      · skip
        have i21 := r_lt2 1001 2001 c21 (in_c 1000 rfl) j17_2 rfl
        refine g_bipush (-4) 70 (gd rfl) rfl rfl ?_
        have n70 : KL sc17 := by exact g17_0
        have n70a : ((Int32.ofInt (-4))).toInt ≠ -4 → LOT (s.1 47) (s.2.2.1 46 1).toInt.toNat (gvC s) ((Int32.ofInt (-4))).toInt 0 0 (gvC sc17) ∧ (sc17.2.2.1 46 6).toInt = -1 ∧ (sc17.2.2.1 46 7).toInt = -1 := by intro h; exact absurd rfl h
        have n70b : ((Int32.ofInt (-4))).toInt = -4 → LOT (s.1 47) (s.2.2.1 46 1).toInt.toNat (gvC s) (-4) (sc17.2.2.1 46 6).toInt (sc17.2.2.1 46 7).toInt (gvC sc17) := by intro _; exfalso; have h9 := lrn_l _ g17_4; (first | have a0 := oa6 ro_46_1 ((inv_F hIc17 448 28000 rfl v17_30_0)) ((inv_F hIc17 0 32 rfl v17_2_1)) ((inv_F hIc17 0 4000 rfl v17_2_0)) ((inv_F hIc17 0 1000 rfl v17_46_2)) i21 | ((first | have a0 := in_u ro_46_1 | (have a0 := ro_46_1; unfold In at a0)); (first | have a1 := in_u ((inv_F hIc17 448 28000 rfl v17_30_0)) | (have a1 := (inv_F hIc17 448 28000 rfl v17_30_0); unfold In at a1)); (first | have a2 := in_u ((inv_F hIc17 0 32 rfl v17_2_1)) | (have a2 := (inv_F hIc17 0 32 rfl v17_2_1); unfold In at a2)); (first | have a3 := in_u ((inv_F hIc17 0 4000 rfl v17_2_0)) | (have a3 := (inv_F hIc17 0 4000 rfl v17_2_0); unfold In at a3)); (first | have a4 := in_u ((inv_F hIc17 0 1000 rfl v17_46_2)) | (have a4 := (inv_F hIc17 0 1000 rfl v17_46_2); unfold In at a4)); (first | have a5 := in_u i21 | (have a5 := i21; unfold In at a5)))); have oc := oc_135_1_46; omega
        have n70c : TQ sc17 := by exact g17_5
        have n70d : LCO s sc17 (Int32.ofInt (-4)) := by exact ⟨fun h => absurd rfl h, fun _ => (by exfalso; have h9 := lrn_l _ g17_4; (first | have a0 := oa6 ro_46_1 ((inv_F hIc17 448 28000 rfl v17_30_0)) ((inv_F hIc17 0 32 rfl v17_2_1)) ((inv_F hIc17 0 4000 rfl v17_2_0)) ((inv_F hIc17 0 1000 rfl v17_46_2)) i21 | ((first | have a0 := in_u ro_46_1 | (have a0 := ro_46_1; unfold In at a0)); (first | have a1 := in_u ((inv_F hIc17 448 28000 rfl v17_30_0)) | (have a1 := (inv_F hIc17 448 28000 rfl v17_30_0); unfold In at a1)); (first | have a2 := in_u ((inv_F hIc17 0 32 rfl v17_2_1)) | (have a2 := (inv_F hIc17 0 32 rfl v17_2_1); unfold In at a2)); (first | have a3 := in_u ((inv_F hIc17 0 4000 rfl v17_2_0)) | (have a3 := (inv_F hIc17 0 4000 rfl v17_2_0); unfold In at a3)); (first | have a4 := in_u ((inv_F hIc17 0 1000 rfl v17_46_2)) | (have a4 := (inv_F hIc17 0 1000 rfl v17_46_2); unfold In at a4)); (first | have a5 := in_u i21 | (have a5 := i21; unfold In at a5)))); have oc := oc_135_1_46; omega)⟩
        exact g_ireturn (gd rfl) rfl rfl (hP _ _ ⟨ac17, sc17, hIc17, hFc17, (Int32.ofInt (-4)), rfl, rfl, in_w (-4) 1000 (in_c (-4) rfl) rfl, n70, n70a, n70b, n70c, n70d⟩)
      · skip
        have i21 := r_le1 0 1000 c21 j17_2 (in_c 1000 rfl) rfl
        refine g_aload_n 25 (gd rfl) rfl rfl ?_
        refine g_bipush 7 27 (gd rfl) rfl rfl ?_
        refine g_iconst 1 28 (gd rfl) rfl rfl ?_
        have v28 : u_46_1 = sc17.2.2.1 46 1 := fr_F e_46_1 hFc17 rfl
        have n28 : (w17_46_2).toInt ≤ (u_46_1).toInt := by first | exact n17_0 | ((first | have a0 := oa6 ro_46_1 ((inv_F hIc17 448 28000 rfl v17_30_0)) ((inv_F hIc17 0 32 rfl v17_2_1)) ((inv_F hIc17 0 4000 rfl v17_2_0)) ((inv_F hIc17 0 1000 rfl v17_46_2)) i21 | ((first | have a0 := in_u ro_46_1 | (have a0 := ro_46_1; unfold In at a0)); (first | have a1 := in_u ((inv_F hIc17 448 28000 rfl v17_30_0)) | (have a1 := (inv_F hIc17 448 28000 rfl v17_30_0); unfold In at a1)); (first | have a2 := in_u ((inv_F hIc17 0 32 rfl v17_2_1)) | (have a2 := (inv_F hIc17 0 32 rfl v17_2_1); unfold In at a2)); (first | have a3 := in_u ((inv_F hIc17 0 4000 rfl v17_2_0)) | (have a3 := (inv_F hIc17 0 4000 rfl v17_2_0); unfold In at a3)); (first | have a4 := in_u ((inv_F hIc17 0 1000 rfl v17_46_2)) | (have a4 := (inv_F hIc17 0 1000 rfl v17_46_2); unfold In at a4)); (first | have a5 := in_u i21 | (have a5 := i21; unfold In at a5)))); have oc := oc_135_1_46; omega)
        refine g_callv (X := _) (As := [.int (Int32.ofInt 7), .int (Int32.ofInt 1)]) (r := []) (b := A 46) (q := 46) 31 (gd rfl) rfl rfl rfl rfl rfl (ww_o rfl) (Nat.le_of_ble_eq_true rfl) (Nat.zero_le _) (Nat.zero_le _) (f_171_46 (A := (ax A 30 ac17)) (by omega) hIc17 (in_w 7 7 (in_c 7 rfl) rfl) (in_w 1 1 (in_c 1 rfl) rfl) v17_46_2 v28 n28) (fun e u h => h) (fun v u h => ?_)
        obtain ⟨s28, hI28, hF28, n28a, n28b, n28c, rfl, rfl, p28, p28a, p28b⟩ := h
        obtain ⟨z28a, e28⟩ : ∃ w, w = s28.2.2.1 46 2 := ⟨_, rfl⟩
        have i28a := inv_F hI28 0 1000 rfl e28
        obtain ⟨z28b, e28a⟩ : ∃ w, w = s28.2.2.1 46 4 := ⟨_, rfl⟩
        have i28b := inv_F hI28 0 1000 rfl e28a
        rw [← (show z28a = s28.2.2.1 46 2 from e28)] at n28a
        rw [← (show u_46_1 = s28.2.2.1 46 1 from fr_F (fr_F e_46_1 hFc17 rfl) hF28 rfl)] at n28a
        rw [← (show z28a = s28.2.2.1 46 2 from e28)] at n28b
        rw [← (show z28b = s28.2.2.1 46 4 from e28a)] at n28b
        rw [← (show w17_46_2 = sc17.2.2.1 46 2 from v17_46_2)] at n28c
        rw [← (show z28b = s28.2.2.1 46 4 from e28a)] at n28c
        show GG _ _ _ _ _ _ _ _ [] _ _ _
        have ht28 : TKN (s28.1 47) (s28.2.2.1 46 1).toInt.toNat (w17_46_2).toInt.toNat (s28.2.2.1 46 4).toInt.toNat (s28.2.2.1 46 2).toInt.toNat (s28.2.2.1 46 3).toInt (s28.2.2.1 46 5).toInt := (by rw [hF28.1 47 rfl, hF28.2.2.1 46 1 rfl, v17_46_2]; exact p28b)
        have hx28 : s28.1 47 = s.1 47 := (hF28.1 47 rfl).trans (hFc17.1 47 rfl)
        have hl28 : s28.2.2.1 46 1 = s.2.2.1 46 1 := (hF28.2.2.1 46 1 rfl).trans (hFc17.2.2.1 46 1 rfl)
        have hg28 : gvC s28 = gvC sc17 := gvC_cg hF28 rfl
        have hk28 : ∀ t : GS, (∀ a : Nat, TKN (s28.1 47) (s28.2.2.1 46 1).toInt.toNat a (s28.2.2.1 46 4).toInt.toNat (s28.2.2.1 46 2).toInt.toNat (s28.2.2.1 46 3).toInt (s28.2.2.1 46 5).toInt → ∃ c V, CMP (s28.1 47) (s28.2.2.1 46 1).toInt.toNat a (s28.2.2.1 46 4).toInt.toNat c V (t.2.2.1 46 2).toInt.toNat ∧ dkC (gvC s28) c V ∧ gvC t = opC (gvC s28) c V) → LRN (s.1 47) (s.2.2.1 46 1).toInt.toNat (gvC s) (y17_2.toInt.toNat + 1) (t.2.2.1 46 2).toInt.toNat (gvC t) := (fun t h => by obtain ⟨c, V, h1, h2, h3⟩ := h _ ht28; rw [hx28, hl28] at h1; rw [hg28] at h2 h3; exact ⟨_, _, _, c, V, g17_4, h1, h2, h3⟩)
        refine g_aload_n 32 (gd rfl) rfl rfl ?_
        refine g_getI (A := (ax A 30 ac17)) (q := 46) 35 (gd rfl) rfl rfl rfl (fun z32 e32 => ?_)
        have i32 := inv_F hI28 0 5 rfl e32
        refine g_if_ne 38 40 (gd rfl) rfl rfl (fun c35 => ?_) (fun c35 => ?_)
        · skip
          have i35 := z_ne 1 5 c35 i32 rfl
          refine g_aload_n 41 (gd rfl) rfl rfl ?_
          refine g_aload_n 42 (gd rfl) rfl rfl ?_
          have v42 : w17_2_0 = s28.2.2.1 2 0 := fr_F (v17_2_0) hF28 rfl
          have v42a : w17_2_1 = s28.2.2.1 2 1 := fr_F (v17_2_1) hF28 rfl
          have v42b : w17_30_0 = s28.2.2.1 30 0 := fr_F (v17_30_0) hF28 rfl
          have v42c : u_46_1 = s28.2.2.1 46 1 := fr_F (fr_F e_46_1 hFc17 rfl) hF28 rfl
          have n42 : (z28a).toInt ≤ (u_46_1).toInt := by (first | have a0 := oa9 ro_46_1 ((inv_F hIc17 448 28000 rfl v17_30_0)) ((inv_F hIc17 0 32 rfl v17_2_1)) ((inv_F hIc17 0 4000 rfl v17_2_0)) ((inv_F hIc17 0 1000 rfl v17_46_2)) i21 i35 i28b i28a | ((first | have a0 := in_u ro_46_1 | (have a0 := ro_46_1; unfold In at a0)); (first | have a1 := in_u ((inv_F hIc17 448 28000 rfl v17_30_0)) | (have a1 := (inv_F hIc17 448 28000 rfl v17_30_0); unfold In at a1)); (first | have a2 := in_u ((inv_F hIc17 0 32 rfl v17_2_1)) | (have a2 := (inv_F hIc17 0 32 rfl v17_2_1); unfold In at a2)); (first | have a3 := in_u ((inv_F hIc17 0 4000 rfl v17_2_0)) | (have a3 := (inv_F hIc17 0 4000 rfl v17_2_0); unfold In at a3)); (first | have a4 := in_u ((inv_F hIc17 0 1000 rfl v17_46_2)) | (have a4 := (inv_F hIc17 0 1000 rfl v17_46_2); unfold In at a4)); (first | have a5 := in_u i21 | (have a5 := i21; unfold In at a5)); (first | have a6 := in_u i35 | (have a6 := i35; unfold In at a6)); (first | have a7 := in_u i28b | (have a7 := i28b; unfold In at a7)); (first | have a8 := in_u i28a | (have a8 := i28a; unfold In at a8)))); have oc := oc_135_1_46; omega
          have p42 : KL s28 := by exact kl_fr g17_0 hF28 rfl
          have p42a : (s28.2.2.1 46 3).toInt = 1 → In (s28.2.2.1 46 5) 0 25 := by exact p28a
          have p42b : ∃ a : Nat, TKN (s28.1 47) (s28.2.2.1 46 1).toInt.toNat a (s28.2.2.1 46 4).toInt.toNat (s28.2.2.1 46 2).toInt.toNat (s28.2.2.1 46 3).toInt (s28.2.2.1 46 5).toInt := by exact ⟨_, ht28⟩
          have p42c : TQ s28 := by exact tq_fr g17_5 hF28 rfl
          have p42d : (s28.2.2.1 46 3).toInt ≠ 0 := by rw [← (show z32 = s28.2.2.1 46 3 from e32)]; (first | have a0 := oa9 ro_46_1 ((inv_F hIc17 448 28000 rfl v17_30_0)) ((inv_F hIc17 0 32 rfl v17_2_1)) ((inv_F hIc17 0 4000 rfl v17_2_0)) ((inv_F hIc17 0 1000 rfl v17_46_2)) i21 i35 i28b i28a | ((first | have a0 := in_u ro_46_1 | (have a0 := ro_46_1; unfold In at a0)); (first | have a1 := in_u ((inv_F hIc17 448 28000 rfl v17_30_0)) | (have a1 := (inv_F hIc17 448 28000 rfl v17_30_0); unfold In at a1)); (first | have a2 := in_u ((inv_F hIc17 0 32 rfl v17_2_1)) | (have a2 := (inv_F hIc17 0 32 rfl v17_2_1); unfold In at a2)); (first | have a3 := in_u ((inv_F hIc17 0 4000 rfl v17_2_0)) | (have a3 := (inv_F hIc17 0 4000 rfl v17_2_0); unfold In at a3)); (first | have a4 := in_u ((inv_F hIc17 0 1000 rfl v17_46_2)) | (have a4 := (inv_F hIc17 0 1000 rfl v17_46_2); unfold In at a4)); (first | have a5 := in_u i21 | (have a5 := i21; unfold In at a5)); (first | have a6 := in_u i35 | (have a6 := i35; unfold In at a6)); (first | have a7 := in_u i28b | (have a7 := i28b; unfold In at a7)); (first | have a8 := in_u i28a | (have a8 := i28a; unfold In at a8)))); have oc := oc_135_1_46; omega
          refine g_callv (X := _) (As := [.ref (A 46)]) (r := []) (b := A 1) (q := 1) 45 (gd rfl) rfl rfl rfl rfl rfl (ww_o rfl) (Nat.le_of_ble_eq_true rfl) (Nat.le_trans (lg_lc (inv_F hI28 448 28000 (q := 30) (j := 0) rfl rfl)).1 (by have h2 := (lg_cg (hF28.2.2.1 30 0 rfl)).1; omega)) (Nat.le_trans (lg_lc (inv_F hI28 448 28000 (q := 30) (j := 0) rfl rfl)).2 (by have h2 := (lg_cg (hF28.2.2.1 30 0 rfl)).2; omega)) (f_136_1_46 (A := (ax A 30 ac17)) (by omega) hI28 v42 v42a v42b e28 v42c e32 e28a rfl n42 p42 p42a p42b p42c p42d) (fun e u h => h) (fun v u h => ?_)
          obtain ⟨a42, s42, hI42, hF42, n42a, n42b, z42, rfl, rfl, i42, p42e, p42f, p42g, p42h, p42i, p42j, p42k, p42l, p42m, p42n⟩ := h
          rw [ax_ax]
          obtain ⟨z42a, e42⟩ : ∃ w, w = s42.2.2.1 46 2 := ⟨_, rfl⟩
          have i42a := inv_F hI42 0 1000 rfl e42
          obtain ⟨z42b, e42a⟩ : ∃ w, w = s42.2.2.1 2 0 := ⟨_, rfl⟩
          have i42b := inv_F hI42 0 4000 rfl e42a
          rw [← (show z42a = s42.2.2.1 46 2 from e42)] at n42a
          rw [← (show u_46_1 = s42.2.2.1 46 1 from fr_F (fr_F (fr_F e_46_1 hFc17 rfl) hF28 rfl) hF42 rfl)] at n42a
          rw [← (show w17_2_0 = s28.2.2.1 2 0 from fr_F (v17_2_0) hF28 rfl)] at n42b
          rw [← (show z42b = s42.2.2.1 2 0 from e42a)] at n42b
          show GG _ _ _ _ _ _ _ _ [.int z42] _ _ _
          have hv42 : _ = s42.2.2.1 2 0 := (show z42b = s42.2.2.1 2 0 from e42a)
          refine g_if_ne 48 62 (gd rfl) rfl rfl (fun c45 => ?_) (fun c45 => ?_)
          · skip
            have i45 := z_ne 1 1 c45 i42 rfl
            refine g_iinc 65 (gd rfl) rfl rfl (Nat.le_of_ble_eq_true rfl) (fun z62 e62 => ?_)
            have i62 := in_add 1 1001 e62 i21 (in_c 1 rfl) rfl rfl
            refine g_goto 17 (gd rfl) rfl ?_
            have hr17 : lgC s42 ≤ (cc17 - lc s28) := by have h := (lgt_st (s := s28) (t := s42) (inv_F hI28 448 28000 (q := 30) (j := 0) rfl rfl) (p42g c45) (kl_fr g17_0 hF28 rfl).2.1 (p42f c45)).1; have h2 := (lg_cg (hF28.2.2.1 30 0 rfl)).1; omega
            have hr17a : lgS s42 ≤ (cs17 - lsl s28) := by have h := (lgt_st (s := s28) (t := s42) (inv_F hI28 448 28000 (q := 30) (j := 0) rfl rfl) (p42g c45) (kl_fr g17_0 hF28 rfl).2.1 (p42f c45)).2; have h2 := (lg_cg (hF28.2.2.1 30 0 rfl)).2; omega
            have n17 : (z42a).toInt ≤ (u_46_1).toInt := by (first | have a0 := oa7 ro_46_1 ((inv_F hIc17 448 28000 rfl v17_30_0)) ((inv_F hIc17 0 32 rfl v17_2_1)) ((inv_F hIc17 0 4000 rfl v17_2_0)) ((inv_F hIc17 0 1000 rfl v17_46_2)) i21 i62 | ((first | have a0 := in_u ro_46_1 | (have a0 := ro_46_1; unfold In at a0)); (first | have a1 := in_u ((inv_F hIc17 448 28000 rfl v17_30_0)) | (have a1 := (inv_F hIc17 448 28000 rfl v17_30_0); unfold In at a1)); (first | have a2 := in_u ((inv_F hIc17 0 32 rfl v17_2_1)) | (have a2 := (inv_F hIc17 0 32 rfl v17_2_1); unfold In at a2)); (first | have a3 := in_u ((inv_F hIc17 0 4000 rfl v17_2_0)) | (have a3 := (inv_F hIc17 0 4000 rfl v17_2_0); unfold In at a3)); (first | have a4 := in_u ((inv_F hIc17 0 1000 rfl v17_46_2)) | (have a4 := (inv_F hIc17 0 1000 rfl v17_46_2); unfold In at a4)); (first | have a5 := in_u i21 | (have a5 := i21; unfold In at a5)); (first | have a6 := in_u i62 | (have a6 := i62; unfold In at a6)))); have a7 := t_add e62 i21 (in_c 1 rfl) rfl; (first | have a8 := oa3 ((in_c 1 rfl)) i42b i42a | ((first | have a8 := in_u ((in_c 1 rfl)) | (have a8 := (in_c 1 rfl); unfold In at a8)); (first | have a9 := in_u i42b | (have a9 := i42b; unfold In at a9)); (first | have a10 := in_u i42a | (have a10 := i42a; unfold In at a10)))); have oc := oc_135_1_46; omega
            have n17a : (u_2_0).toInt ≤ (z42b).toInt := by (first | have a0 := oa7 ro_46_1 ((inv_F hIc17 448 28000 rfl v17_30_0)) ((inv_F hIc17 0 32 rfl v17_2_1)) ((inv_F hIc17 0 4000 rfl v17_2_0)) ((inv_F hIc17 0 1000 rfl v17_46_2)) i21 i62 | ((first | have a0 := in_u ro_46_1 | (have a0 := ro_46_1; unfold In at a0)); (first | have a1 := in_u ((inv_F hIc17 448 28000 rfl v17_30_0)) | (have a1 := (inv_F hIc17 448 28000 rfl v17_30_0); unfold In at a1)); (first | have a2 := in_u ((inv_F hIc17 0 32 rfl v17_2_1)) | (have a2 := (inv_F hIc17 0 32 rfl v17_2_1); unfold In at a2)); (first | have a3 := in_u ((inv_F hIc17 0 4000 rfl v17_2_0)) | (have a3 := (inv_F hIc17 0 4000 rfl v17_2_0); unfold In at a3)); (first | have a4 := in_u ((inv_F hIc17 0 1000 rfl v17_46_2)) | (have a4 := (inv_F hIc17 0 1000 rfl v17_46_2); unfold In at a4)); (first | have a5 := in_u i21 | (have a5 := i21; unfold In at a5)); (first | have a6 := in_u i62 | (have a6 := i62; unfold In at a6)))); have a7 := t_add e62 i21 (in_c 1 rfl) rfl; (first | have a8 := oa3 ((in_c 1 rfl)) i42b i42a | ((first | have a8 := in_u ((in_c 1 rfl)) | (have a8 := (in_c 1 rfl); unfold In at a8)); (first | have a9 := in_u i42b | (have a9 := i42b; unfold In at a9)); (first | have a10 := in_u i42a | (have a10 := i42a; unfold In at a10)))); have oc := oc_135_1_46; omega
            have n17b : KL s42 := by exact p42e
            have n17c : (∀ p : Nat, p < 160 → s42.1 18 p = s.1 4 p ∧ s42.1 19 p = s.1 5 p) ∧ s42.2.2.1 16 0 = s.2.2.1 2 0 ∧ s42.2.2.1 16 1 = s.2.2.1 2 1 := by exact ⟨fun p hp => by rw [hF42.1 18 rfl, hF42.1 19 rfl, hF28.1 18 rfl, hF28.1 19 rfl]; exact g17_1.1 p hp, by rw [hF42.2.2.1 16 0 rfl, hF28.2.2.1 16 0 rfl]; exact g17_1.2.1, by rw [hF42.2.2.1 16 1 rfl, hF28.2.2.1 16 1 rfl]; exact g17_1.2.2⟩
            have n17d : ∀ k : Nat, (k : Int) < 7 * (s.2.2.1 2 0).toInt → s42.1 30 k = s.1 30 k := by exact fun k hk => by rw [p42h k (by rw [hF28.2.2.1 2 0 rfl, ← v17_2_0]; rw [← e_2_0] at hk; (first | have a0 := oa7 ro_46_1 ((inv_F hIc17 448 28000 rfl v17_30_0)) ((inv_F hIc17 0 32 rfl v17_2_1)) ((inv_F hIc17 0 4000 rfl v17_2_0)) ((inv_F hIc17 0 1000 rfl v17_46_2)) i21 i62 | ((first | have a0 := in_u ro_46_1 | (have a0 := ro_46_1; unfold In at a0)); (first | have a1 := in_u ((inv_F hIc17 448 28000 rfl v17_30_0)) | (have a1 := (inv_F hIc17 448 28000 rfl v17_30_0); unfold In at a1)); (first | have a2 := in_u ((inv_F hIc17 0 32 rfl v17_2_1)) | (have a2 := (inv_F hIc17 0 32 rfl v17_2_1); unfold In at a2)); (first | have a3 := in_u ((inv_F hIc17 0 4000 rfl v17_2_0)) | (have a3 := (inv_F hIc17 0 4000 rfl v17_2_0); unfold In at a3)); (first | have a4 := in_u ((inv_F hIc17 0 1000 rfl v17_46_2)) | (have a4 := (inv_F hIc17 0 1000 rfl v17_46_2); unfold In at a4)); (first | have a5 := in_u i21 | (have a5 := i21; unfold In at a5)); (first | have a6 := in_u i62 | (have a6 := i62; unfold In at a6)))); have a7 := t_add e62 i21 (in_c 1 rfl) rfl; (first | have a8 := oa3 ((in_c 1 rfl)) i42b i42a | ((first | have a8 := in_u ((in_c 1 rfl)) | (have a8 := (in_c 1 rfl); unfold In at a8)); (first | have a9 := in_u i42b | (have a9 := i42b; unfold In at a9)); (first | have a10 := in_u i42a | (have a10 := i42a; unfold In at a10)))); have oc := oc_135_1_46; omega), hF28.1 30 rfl]; exact g17_2 k hk
            have n17e : GEQ (gvS s42) (gvC s) ∧ TQS s42 := by exact ⟨by rw [gvS_cg hF42 rfl, gvS_cg hF28 rfl]; exact g17_3.1, tqs_fr (tqs_fr g17_3.2 hF28 rfl) hF42 rfl⟩
            have n17f : LRN (s.1 47) (s.2.2.1 46 1).toInt.toNat (gvC s) (z62).toInt.toNat (z42a).toInt.toNat (gvC s42) := by have hn9 := hk28 _ (p42i c45); rw [show z62.toInt.toNat = y17_2.toInt.toNat + 1 from (by (first | have a0 := oa7 ro_46_1 ((inv_F hIc17 448 28000 rfl v17_30_0)) ((inv_F hIc17 0 32 rfl v17_2_1)) ((inv_F hIc17 0 4000 rfl v17_2_0)) ((inv_F hIc17 0 1000 rfl v17_46_2)) i21 i62 | ((first | have a0 := in_u ro_46_1 | (have a0 := ro_46_1; unfold In at a0)); (first | have a1 := in_u ((inv_F hIc17 448 28000 rfl v17_30_0)) | (have a1 := (inv_F hIc17 448 28000 rfl v17_30_0); unfold In at a1)); (first | have a2 := in_u ((inv_F hIc17 0 32 rfl v17_2_1)) | (have a2 := (inv_F hIc17 0 32 rfl v17_2_1); unfold In at a2)); (first | have a3 := in_u ((inv_F hIc17 0 4000 rfl v17_2_0)) | (have a3 := (inv_F hIc17 0 4000 rfl v17_2_0); unfold In at a3)); (first | have a4 := in_u ((inv_F hIc17 0 1000 rfl v17_46_2)) | (have a4 := (inv_F hIc17 0 1000 rfl v17_46_2); unfold In at a4)); (first | have a5 := in_u i21 | (have a5 := i21; unfold In at a5)); (first | have a6 := in_u i62 | (have a6 := i62; unfold In at a6)))); have a7 := t_add e62 i21 (in_c 1 rfl) rfl; (first | have a8 := oa3 ((in_c 1 rfl)) i42b i42a | ((first | have a8 := in_u ((in_c 1 rfl)) | (have a8 := (in_c 1 rfl); unfold In at a8)); (first | have a9 := in_u i42b | (have a9 := i42b; unfold In at a9)); (first | have a10 := in_u i42a | (have a10 := i42a; unfold In at a10)))); have oc := oc_135_1_46; omega), ((show z42a = s42.2.2.1 46 2 from e42))]; exact hn9
            have n17g : TQ s42 := by exact p42k c45
            have n17h : (s42.2.2.1 46 6).toInt = -1 ∧ (s42.2.2.1 46 7).toInt = -1 := by exact ⟨by rw [(p42l c45).1, hF28.2.2.1 46 6 rfl]; exact g17_6.1, by rw [(p42l c45).2, hF28.2.2.1 46 7 rfl]; exact g17_6.2⟩
            have n17i : LGS s s42 (z62).toInt.toNat := by exact lgs_s g17_7 (show z62.toInt.toNat = y17_2.toInt.toNat + 1 from (by (first | have a0 := oa7 ro_46_1 ((inv_F hIc17 448 28000 rfl v17_30_0)) ((inv_F hIc17 0 32 rfl v17_2_1)) ((inv_F hIc17 0 4000 rfl v17_2_0)) ((inv_F hIc17 0 1000 rfl v17_46_2)) i21 i62 | ((first | have a0 := in_u ro_46_1 | (have a0 := ro_46_1; unfold In at a0)); (first | have a1 := in_u ((inv_F hIc17 448 28000 rfl v17_30_0)) | (have a1 := (inv_F hIc17 448 28000 rfl v17_30_0); unfold In at a1)); (first | have a2 := in_u ((inv_F hIc17 0 32 rfl v17_2_1)) | (have a2 := (inv_F hIc17 0 32 rfl v17_2_1); unfold In at a2)); (first | have a3 := in_u ((inv_F hIc17 0 4000 rfl v17_2_0)) | (have a3 := (inv_F hIc17 0 4000 rfl v17_2_0); unfold In at a3)); (first | have a4 := in_u ((inv_F hIc17 0 1000 rfl v17_46_2)) | (have a4 := (inv_F hIc17 0 1000 rfl v17_46_2); unfold In at a4)); (first | have a5 := in_u i21 | (have a5 := i21; unfold In at a5)); (first | have a6 := in_u i62 | (have a6 := i62; unfold In at a6)))); have a7 := t_add e62 i21 (in_c 1 rfl) rfl; (first | have a8 := oa3 ((in_c 1 rfl)) i42b i42a | ((first | have a8 := in_u ((in_c 1 rfl)) | (have a8 := (in_c 1 rfl); unfold In at a8)); (first | have a9 := in_u i42b | (have a9 := i42b; unfold In at a9)); (first | have a10 := in_u i42a | (have a10 := i42a; unfold In at a10)))); have oc := oc_135_1_46; omega)) (lgc_fr (p42n c45) hF28 rfl) (inv_F hI (z := s.2.2.1 2 0) 0 4000 rfl rfl).1 (by rw [show z62.toInt.toNat = y17_2.toInt.toNat + 1 from (by (first | have a0 := oa7 ro_46_1 ((inv_F hIc17 448 28000 rfl v17_30_0)) ((inv_F hIc17 0 32 rfl v17_2_1)) ((inv_F hIc17 0 4000 rfl v17_2_0)) ((inv_F hIc17 0 1000 rfl v17_46_2)) i21 i62 | ((first | have a0 := in_u ro_46_1 | (have a0 := ro_46_1; unfold In at a0)); (first | have a1 := in_u ((inv_F hIc17 448 28000 rfl v17_30_0)) | (have a1 := (inv_F hIc17 448 28000 rfl v17_30_0); unfold In at a1)); (first | have a2 := in_u ((inv_F hIc17 0 32 rfl v17_2_1)) | (have a2 := (inv_F hIc17 0 32 rfl v17_2_1); unfold In at a2)); (first | have a3 := in_u ((inv_F hIc17 0 4000 rfl v17_2_0)) | (have a3 := (inv_F hIc17 0 4000 rfl v17_2_0); unfold In at a3)); (first | have a4 := in_u ((inv_F hIc17 0 1000 rfl v17_46_2)) | (have a4 := (inv_F hIc17 0 1000 rfl v17_46_2); unfold In at a4)); (first | have a5 := in_u i21 | (have a5 := i21; unfold In at a5)); (first | have a6 := in_u i62 | (have a6 := i62; unfold In at a6)))); have a7 := t_add e62 i21 (in_c 1 rfl) rfl; (first | have a8 := oa3 ((in_c 1 rfl)) i42b i42a | ((first | have a8 := in_u ((in_c 1 rfl)) | (have a8 := (in_c 1 rfl); unfold In at a8)); (first | have a9 := in_u i42b | (have a9 := i42b; unfold In at a9)); (first | have a10 := in_u i42a | (have a10 := i42a; unfold In at a10)))); have oc := oc_135_1_46; omega)]; exact ⟨_, hk28 _ (p42i c45)⟩)
            exact gg_w (by first | exact Nat.le_add_right _ _ | exact gw2 | exact gw3 | exact gwe rfl | exact gwf rfl | exact gwg rfl | exact gwh rfl | omega) (gg_f (gf_cons rfl (gf_cons rfl (gf_cons rfl gf_nil))) (ih17 s42 a42 (cc17 - lc s28) (cs17 - lsl s28) z62 z42a z42b _ _ hI42 (fr_tr rfl (fr_tr rfl hFc17 hF28) hF42) hr17 hr17a (in_w 0 2001 i62 rfl) e42 e42a rfl rfl n17 n17a n17b n17c n17d n17e n17f n17g n17h n17i (m_up mm17 (t_add e62 i21 (in_c 1 rfl) rfl) (in_w 1 1 (in_c 1 rfl) rfl))))
          · skip
            have i45 := z_eq 0 0 c45 i42 rfl
            refine g_aload_n 49 (gd rfl) rfl rfl ?_
            refine g_getA (A := (ax A 30 a42)) (q := 1) (q2 := 2) 52 (gd rfl) rfl rfl rfl rfl ?_
            refine g_aload_n 53 (gd rfl) rfl rfl ?_
            refine g_getA (A := (ax A 30 a42)) (q := 1) (q2 := 16) 56 (gd rfl) rfl rfl rfl rfl ?_
            refine g_callv (X := _) (As := [.ref (A 16)]) (r := []) (b := A 2) (q := 2) 59 (gd rfl) rfl rfl rfl rfl rfl (ww_o rfl) (Nat.le_of_ble_eq_true rfl) (Nat.zero_le _) (Nat.zero_le _) (f_93_2_16 (A := (ax A 30 a42)) (by omega) hI42 ) (fun e u h => h) (fun v u h => ?_)
            obtain ⟨s56, hI56, hF56, rfl, rfl, p56, p56a, p56b, p56c, p56d, p56e, p56f, p56g, p56h⟩ := h
            show GG _ _ _ _ _ _ _ _ [] _ _ _
            refine g_bipush (-4) 61 (gd rfl) rfl rfl ?_
            have n61 : KL s56 := by have hFF : Fr fm_135_1_46 s s56 := (fr_tr rfl (fr_tr rfl (fr_tr rfl hFc17 hF28) hF42) hF56); exact kl_bk q_0 (fun k hk => by rw [hF56.1 30 rfl, p42h k (by rw [hF28.2.2.1 2 0 rfl, ← v17_2_0]; rw [← e_2_0] at hk; (first | have a0 := oa7 ro_46_1 ((inv_F hIc17 448 28000 rfl v17_30_0)) ((inv_F hIc17 0 32 rfl v17_2_1)) ((inv_F hIc17 0 4000 rfl v17_2_0)) ((inv_F hIc17 0 1000 rfl v17_46_2)) i21 i42a | ((first | have a0 := in_u ro_46_1 | (have a0 := ro_46_1; unfold In at a0)); (first | have a1 := in_u ((inv_F hIc17 448 28000 rfl v17_30_0)) | (have a1 := (inv_F hIc17 448 28000 rfl v17_30_0); unfold In at a1)); (first | have a2 := in_u ((inv_F hIc17 0 32 rfl v17_2_1)) | (have a2 := (inv_F hIc17 0 32 rfl v17_2_1); unfold In at a2)); (first | have a3 := in_u ((inv_F hIc17 0 4000 rfl v17_2_0)) | (have a3 := (inv_F hIc17 0 4000 rfl v17_2_0); unfold In at a3)); (first | have a4 := in_u ((inv_F hIc17 0 1000 rfl v17_46_2)) | (have a4 := (inv_F hIc17 0 1000 rfl v17_46_2); unfold In at a4)); (first | have a5 := in_u i21 | (have a5 := i21; unfold In at a5)); (first | have a6 := in_u i42a | (have a6 := i42a; unfold In at a6)))); have oc := oc_135_1_46; omega), hF28.1 30 rfl]; exact g17_2 k hk) (by have h9 := p42e.2.1; rw [hF56.2.2.1 30 0 rfl]; rw [← hv42] at h9; rw [← e_2_0]; (first | have a0 := oa7 ro_46_1 ((inv_F hIc17 448 28000 rfl v17_30_0)) ((inv_F hIc17 0 32 rfl v17_2_1)) ((inv_F hIc17 0 4000 rfl v17_2_0)) ((inv_F hIc17 0 1000 rfl v17_46_2)) i21 i42a | ((first | have a0 := in_u ro_46_1 | (have a0 := ro_46_1; unfold In at a0)); (first | have a1 := in_u ((inv_F hIc17 448 28000 rfl v17_30_0)) | (have a1 := (inv_F hIc17 448 28000 rfl v17_30_0); unfold In at a1)); (first | have a2 := in_u ((inv_F hIc17 0 32 rfl v17_2_1)) | (have a2 := (inv_F hIc17 0 32 rfl v17_2_1); unfold In at a2)); (first | have a3 := in_u ((inv_F hIc17 0 4000 rfl v17_2_0)) | (have a3 := (inv_F hIc17 0 4000 rfl v17_2_0); unfold In at a3)); (first | have a4 := in_u ((inv_F hIc17 0 1000 rfl v17_46_2)) | (have a4 := (inv_F hIc17 0 1000 rfl v17_46_2); unfold In at a4)); (first | have a5 := in_u i21 | (have a5 := i21; unfold In at a5)); (first | have a6 := in_u i42a | (have a6 := i42a; unfold In at a6)))); have oc := oc_135_1_46; omega) (by rw [p56b, hF42.2.2.1 16 0 rfl, hF28.2.2.1 16 0 rfl]; exact g17_1.2.1) (by rw [p56c, hF42.2.2.1 16 1 rfl, hF28.2.2.1 16 1 rfl]; exact g17_1.2.2) (kn_cp q_0.2.2.2.1.2 (fun p hp => by rw [p56 p hp, hF42.1 18 rfl, hF28.1 18 rfl]; exact (g17_1.1 p hp).1) (fun p hp => by rw [p56a p hp, hF42.1 19 rfl, hF28.1 19 rfl]; exact (g17_1.1 p hp).2)) (hFF.2.2.1 32 0 rfl) (hFF.2.2.1 32 1 rfl) (hFF.1 34 rfl) (hFF.1 35 rfl)
            have n61a : ((Int32.ofInt (-4))).toInt ≠ -4 → LOT (s.1 47) (s.2.2.1 46 1).toInt.toNat (gvC s) ((Int32.ofInt (-4))).toInt 0 0 (gvC s56) ∧ (s56.2.2.1 46 6).toInt = -1 ∧ (s56.2.2.1 46 7).toInt = -1 := by intro h; exact absurd rfl h
            have n61b : ((Int32.ofInt (-4))).toInt = -4 → LOT (s.1 47) (s.2.2.1 46 1).toInt.toNat (gvC s) (-4) (s56.2.2.1 46 6).toInt (s56.2.2.1 46 7).toInt (gvC s56) := by intro _; have h9 := p42j (by (first | have a0 := oa7 ro_46_1 ((inv_F hIc17 448 28000 rfl v17_30_0)) ((inv_F hIc17 0 32 rfl v17_2_1)) ((inv_F hIc17 0 4000 rfl v17_2_0)) ((inv_F hIc17 0 1000 rfl v17_46_2)) i21 i42a | ((first | have a0 := in_u ro_46_1 | (have a0 := ro_46_1; unfold In at a0)); (first | have a1 := in_u ((inv_F hIc17 448 28000 rfl v17_30_0)) | (have a1 := (inv_F hIc17 448 28000 rfl v17_30_0); unfold In at a1)); (first | have a2 := in_u ((inv_F hIc17 0 32 rfl v17_2_1)) | (have a2 := (inv_F hIc17 0 32 rfl v17_2_1); unfold In at a2)); (first | have a3 := in_u ((inv_F hIc17 0 4000 rfl v17_2_0)) | (have a3 := (inv_F hIc17 0 4000 rfl v17_2_0); unfold In at a3)); (first | have a4 := in_u ((inv_F hIc17 0 1000 rfl v17_46_2)) | (have a4 := (inv_F hIc17 0 1000 rfl v17_46_2); unfold In at a4)); (first | have a5 := in_u i21 | (have a5 := i21; unfold In at a5)); (first | have a6 := in_u i42a | (have a6 := i42a; unfold In at a6)))); have oc := oc_135_1_46; omega) _ ht28; rw [hx28, hl28, hg28] at h9; refine Or.inr ⟨y17_2.toInt.toNat, w17_46_2.toInt.toNat, (s42.2.2.1 46 7).toInt.toNat, gvC sc17, g17_4, ?_, rfl, ?_, (show GEQ (gvC s56) (gvC s) from geq_t (show GEQ (gvC s56) (gvS s42) from ⟨p56d, p56, p56a, p56e, p56f, p56g, congrArg Int32.toInt p56c, congrArg Int32.toInt p56b⟩) (by rw [gvS_cg hF42 rfl, gvS_cg hF28 rfl]; exact g17_3.1))⟩; (rw [hF56.2.2.1 46 6 rfl]; exact h9); (rw [hF56.2.2.1 46 7 rfl]; have h8 := p42m (by (first | have a0 := oa7 ro_46_1 ((inv_F hIc17 448 28000 rfl v17_30_0)) ((inv_F hIc17 0 32 rfl v17_2_1)) ((inv_F hIc17 0 4000 rfl v17_2_0)) ((inv_F hIc17 0 1000 rfl v17_46_2)) i21 i42a | ((first | have a0 := in_u ro_46_1 | (have a0 := ro_46_1; unfold In at a0)); (first | have a1 := in_u ((inv_F hIc17 448 28000 rfl v17_30_0)) | (have a1 := (inv_F hIc17 448 28000 rfl v17_30_0); unfold In at a1)); (first | have a2 := in_u ((inv_F hIc17 0 32 rfl v17_2_1)) | (have a2 := (inv_F hIc17 0 32 rfl v17_2_1); unfold In at a2)); (first | have a3 := in_u ((inv_F hIc17 0 4000 rfl v17_2_0)) | (have a3 := (inv_F hIc17 0 4000 rfl v17_2_0); unfold In at a3)); (first | have a4 := in_u ((inv_F hIc17 0 1000 rfl v17_46_2)) | (have a4 := (inv_F hIc17 0 1000 rfl v17_46_2); unfold In at a4)); (first | have a5 := in_u i21 | (have a5 := i21; unfold In at a5)); (first | have a6 := in_u i42a | (have a6 := i42a; unfold In at a6)))); have oc := oc_135_1_46; omega); omega)
            have n61c : TQ s56 := by intro p hp hn; rw [p56h]; exact (tqs_fr (tqs_fr g17_3.2 hF28 rfl) hF42 rfl) p hp (by rw [← p56 p hp]; exact hn)
            have n61d : LCO s s56 (Int32.ofInt (-4)) := by exact ⟨fun h => absurd rfl h, fun _ => (by obtain ⟨G, -, -, hpf, hgv, -⟩ := g17_7; intro k hk; rw [hF56.1 30 rfl, (show s42.1 30 k = s28.1 30 k from (by have hw : (s28.2.2.1 2 0).toInt = (sc17.2.2.1 2 0).toInt := congrArg Int32.toInt (hF28.2.2.1 2 0 rfl); first | exact p42h k (by omega) | exact p42g k (by omega))), hF28.1 30 rfl]; exact hpf k hk)⟩
            exact g_ireturn (gd rfl) rfl rfl (hP _ _ ⟨a42, s56, hI56, (fr_tr rfl (fr_tr rfl (fr_tr rfl hFc17 hF28) hF42) hF56), (Int32.ofInt (-4)), rfl, rfl, in_w (-4) 1000 (in_c (-4) rfl) rfl, n61, n61a, n61b, n61c, n61d⟩)
        · skip
          have i35 := z_eq 0 0 c35 i32 rfl
          refine g_iload_n 39 (gd rfl) rfl rfl ?_
          have n39 : KL s28 := by exact kl_fr g17_0 hF28 rfl
          have n39a : (y17_2).toInt ≠ -4 → LOT (s.1 47) (s.2.2.1 46 1).toInt.toNat (gvC s) (y17_2).toInt 0 0 (gvC s28) ∧ (s28.2.2.1 46 6).toInt = -1 ∧ (s28.2.2.1 46 7).toInt = -1 := by intro _; have h9 := ht28; rw [hx28, hl28, show (s28.2.2.1 46 3).toInt = 0 from (by rw [← (show z32 = s28.2.2.1 46 3 from e32)]; (first | have a0 := oa9 ro_46_1 ((inv_F hIc17 448 28000 rfl v17_30_0)) ((inv_F hIc17 0 32 rfl v17_2_1)) ((inv_F hIc17 0 4000 rfl v17_2_0)) ((inv_F hIc17 0 1000 rfl v17_46_2)) i21 i35 i28b i28a | ((first | have a0 := in_u ro_46_1 | (have a0 := ro_46_1; unfold In at a0)); (first | have a1 := in_u ((inv_F hIc17 448 28000 rfl v17_30_0)) | (have a1 := (inv_F hIc17 448 28000 rfl v17_30_0); unfold In at a1)); (first | have a2 := in_u ((inv_F hIc17 0 32 rfl v17_2_1)) | (have a2 := (inv_F hIc17 0 32 rfl v17_2_1); unfold In at a2)); (first | have a3 := in_u ((inv_F hIc17 0 4000 rfl v17_2_0)) | (have a3 := (inv_F hIc17 0 4000 rfl v17_2_0); unfold In at a3)); (first | have a4 := in_u ((inv_F hIc17 0 1000 rfl v17_46_2)) | (have a4 := (inv_F hIc17 0 1000 rfl v17_46_2); unfold In at a4)); (first | have a5 := in_u i21 | (have a5 := i21; unfold In at a5)); (first | have a6 := in_u i35 | (have a6 := i35; unfold In at a6)); (first | have a7 := in_u i28b | (have a7 := i28b; unfold In at a7)); (first | have a8 := in_u i28a | (have a8 := i28a; unfold In at a8)))); have oc := oc_135_1_46; omega)] at h9; exact ⟨Or.inl ⟨y17_2.toInt.toNat, w17_46_2.toInt.toNat, gvC sc17, g17_4, ⟨_, _, _, h9⟩, (by (first | have a0 := oa9 ro_46_1 ((inv_F hIc17 448 28000 rfl v17_30_0)) ((inv_F hIc17 0 32 rfl v17_2_1)) ((inv_F hIc17 0 4000 rfl v17_2_0)) ((inv_F hIc17 0 1000 rfl v17_46_2)) i21 i35 i28b i28a | ((first | have a0 := in_u ro_46_1 | (have a0 := ro_46_1; unfold In at a0)); (first | have a1 := in_u ((inv_F hIc17 448 28000 rfl v17_30_0)) | (have a1 := (inv_F hIc17 448 28000 rfl v17_30_0); unfold In at a1)); (first | have a2 := in_u ((inv_F hIc17 0 32 rfl v17_2_1)) | (have a2 := (inv_F hIc17 0 32 rfl v17_2_1); unfold In at a2)); (first | have a3 := in_u ((inv_F hIc17 0 4000 rfl v17_2_0)) | (have a3 := (inv_F hIc17 0 4000 rfl v17_2_0); unfold In at a3)); (first | have a4 := in_u ((inv_F hIc17 0 1000 rfl v17_46_2)) | (have a4 := (inv_F hIc17 0 1000 rfl v17_46_2); unfold In at a4)); (first | have a5 := in_u i21 | (have a5 := i21; unfold In at a5)); (first | have a6 := in_u i35 | (have a6 := i35; unfold In at a6)); (first | have a7 := in_u i28b | (have a7 := i28b; unfold In at a7)); (first | have a8 := in_u i28a | (have a8 := i28a; unfold In at a8)))); have oc := oc_135_1_46; omega), rfl, by rw [hg28]; exact geq_r⟩, by rw [hF28.2.2.1 46 6 rfl]; exact g17_6.1, by rw [hF28.2.2.1 46 7 rfl]; exact g17_6.2⟩
          have n39b : (y17_2).toInt = -4 → LOT (s.1 47) (s.2.2.1 46 1).toInt.toNat (gvC s) (-4) (s28.2.2.1 46 6).toInt (s28.2.2.1 46 7).toInt (gvC s28) := by intro h; exfalso; (first | have a0 := oa9 ro_46_1 ((inv_F hIc17 448 28000 rfl v17_30_0)) ((inv_F hIc17 0 32 rfl v17_2_1)) ((inv_F hIc17 0 4000 rfl v17_2_0)) ((inv_F hIc17 0 1000 rfl v17_46_2)) i21 i35 i28b i28a | ((first | have a0 := in_u ro_46_1 | (have a0 := ro_46_1; unfold In at a0)); (first | have a1 := in_u ((inv_F hIc17 448 28000 rfl v17_30_0)) | (have a1 := (inv_F hIc17 448 28000 rfl v17_30_0); unfold In at a1)); (first | have a2 := in_u ((inv_F hIc17 0 32 rfl v17_2_1)) | (have a2 := (inv_F hIc17 0 32 rfl v17_2_1); unfold In at a2)); (first | have a3 := in_u ((inv_F hIc17 0 4000 rfl v17_2_0)) | (have a3 := (inv_F hIc17 0 4000 rfl v17_2_0); unfold In at a3)); (first | have a4 := in_u ((inv_F hIc17 0 1000 rfl v17_46_2)) | (have a4 := (inv_F hIc17 0 1000 rfl v17_46_2); unfold In at a4)); (first | have a5 := in_u i21 | (have a5 := i21; unfold In at a5)); (first | have a6 := in_u i35 | (have a6 := i35; unfold In at a6)); (first | have a7 := in_u i28b | (have a7 := i28b; unfold In at a7)); (first | have a8 := in_u i28a | (have a8 := i28a; unfold In at a8)))); have oc := oc_135_1_46; omega
          have n39c : TQ s28 := by exact tq_fr g17_5 hF28 rfl
          have n39d : LCO s s28 y17_2 := by exact ⟨fun _ => (by have q := g17_7; obtain ⟨G, b1, b2, b3, b4, b5⟩ := q; exact ⟨G, b1, by rw [b2]; exact hg28.symm, fun k hk => by rw [hF28.1 30 rfl]; exact b3 k hk, by rw [hF28.2.2.1 2 0 rfl]; exact b4, by rw [hF28.1 30 rfl]; exact b5⟩), fun h => (by exfalso; (first | have a0 := oa9 ro_46_1 ((inv_F hIc17 448 28000 rfl v17_30_0)) ((inv_F hIc17 0 32 rfl v17_2_1)) ((inv_F hIc17 0 4000 rfl v17_2_0)) ((inv_F hIc17 0 1000 rfl v17_46_2)) i21 i35 i28b i28a | ((first | have a0 := in_u ro_46_1 | (have a0 := ro_46_1; unfold In at a0)); (first | have a1 := in_u ((inv_F hIc17 448 28000 rfl v17_30_0)) | (have a1 := (inv_F hIc17 448 28000 rfl v17_30_0); unfold In at a1)); (first | have a2 := in_u ((inv_F hIc17 0 32 rfl v17_2_1)) | (have a2 := (inv_F hIc17 0 32 rfl v17_2_1); unfold In at a2)); (first | have a3 := in_u ((inv_F hIc17 0 4000 rfl v17_2_0)) | (have a3 := (inv_F hIc17 0 4000 rfl v17_2_0); unfold In at a3)); (first | have a4 := in_u ((inv_F hIc17 0 1000 rfl v17_46_2)) | (have a4 := (inv_F hIc17 0 1000 rfl v17_46_2); unfold In at a4)); (first | have a5 := in_u i21 | (have a5 := i21; unfold In at a5)); (first | have a6 := in_u i35 | (have a6 := i35; unfold In at a6)); (first | have a7 := in_u i28b | (have a7 := i28b; unfold In at a7)); (first | have a8 := in_u i28a | (have a8 := i28a; unfold In at a8)))); have oc := oc_135_1_46; omega)⟩
          exact g_ireturn (gd rfl) rfl rfl (hP _ _ ⟨ac17, s28, hI28, (fr_tr rfl hFc17 hF28), y17_2, rfl, rfl, in_w (-4) 1000 i21 rfl, n39, n39a, n39b, n39c, n39d⟩)
  refine g_enter2 (k := 135) (N := 1802701) (by first | exact dq1 hd rfl | exact dq0 hd rfl | exact dq2 hd rfl | exact dq3 hd rfl | omega) rfl (Nat.le_of_ble_eq_true rfl) ?_
  refine g_aload_n 1 (gd rfl) rfl rfl ?_
  refine g_getA (q2 := 16) 4 (gd rfl) rfl rfl rfl rfl ?_
  refine g_aload_n 5 (gd rfl) rfl rfl ?_
  refine g_getA (q2 := 2) 8 (gd rfl) rfl rfl rfl rfl ?_
  refine g_callv (X := _) (As := [.ref (A 2)]) (r := []) (b := A 16) (q := 16) 11 (gd rfl) rfl rfl rfl rfl rfl (ww_o rfl) (Nat.le_of_ble_eq_true rfl) (Nat.zero_le _) (Nat.zero_le _) (f_93_16_2 (by first | exact dq1 hd rfl | exact dq0 hd rfl | exact dq2 hd rfl | exact dq3 hd rfl | omega) hI ) (fun e u h => h) (fun v u h => ?_)
  obtain ⟨s8, hI8, hF8, rfl, rfl, p8, p8a, p8b, p8c, p8d, p8e, p8f, p8g, p8h⟩ := h
  show GG _ _ _ _ _ _ _ _ [] _ _ _
  refine g_aload_n 12 (gd rfl) rfl rfl ?_
  refine g_callv (X := _) (As := []) (r := []) (b := A 46) (q := 46) 15 (gd rfl) rfl rfl rfl rfl rfl (ww_o rfl) (Nat.le_of_ble_eq_true rfl) (mc := 0) (ms := 0) (Nat.zero_le _) (Nat.zero_le _) (P := fun v u => _) ?_ (fun e u h => h) (fun v u h => h)
  intro po12 xx12 hp12 hx12
  refine g_enter2 (k := 167) (N := 300) (by first | exact dq1 hd rfl | exact dq0 hd rfl | exact dq2 hd rfl | exact dq3 hd rfl | omega) rfl (Nat.le_of_ble_eq_true rfl) ?_
  refine g_aload_n 1 (gd rfl) rfl rfl ?_
  refine g_iconst 0 2 (gd rfl) rfl rfl ?_
  refine g_putI 5 (gd rfl) rfl rfl rfl rfl ?_
  have hI12x2 := inv_sF (q := 46) (j := 2) hI8 rfl (in_w 0 1000 (in_c 0 rfl) rfl)
  refine g_aload_n 6 (gd rfl) rfl rfl ?_
  refine g_iconst (-1) 7 (gd rfl) rfl rfl ?_
  refine g_putI 10 (gd rfl) rfl rfl rfl rfl ?_
  have hI12x7 := inv_sF (q := 46) (j := 6) hI12x2 rfl (in_w (-1) 5 (in_c (-1) rfl) rfl)
  refine g_aload_n 11 (gd rfl) rfl rfl ?_
  refine g_iconst (-1) 12 (gd rfl) rfl rfl ?_
  refine g_putI 15 (gd rfl) rfl rfl rfl rfl ?_
  have hI12x12 := inv_sF (q := 46) (j := 7) hI12x7 rfl (in_w (-1) 1000 (in_c (-1) rfl) rfl)
  refine g_return (gd rfl) rfl (hp12 _ _ ?_)
  show GG _ _ _ _ _ _ _ _ [] _ _ _
  refine g_iconst 0 16 (gd rfl) rfl rfl ?_
  refine g_istore_n 17 (gd rfl) rfl (Nat.le_of_ble_eq_true rfl) ?_
  have hr17 : lgC (sF (sF (sF s8 46 2 (Int32.ofInt 0)) 46 6 (Int32.ofInt (-1))) 46 7 (Int32.ofInt (-1))) ≤ (lgC s) := by exact Nat.le_of_eq (lg_cg ((show Fr ([17, 18, 19, 20, 21, 22], [], [(16, 0), (16, 1), (16, 2), (16, 3), (16, 4), (46, 2), (46, 6), (46, 7)], []) s (sF (sF (sF s8 46 2 (Int32.ofInt 0)) 46 6 (Int32.ofInt (-1))) 46 7 (Int32.ofInt (-1))) from (fr_sF rfl (fr_sF rfl (fr_sF rfl (fr_tr rfl fr_rf hF8))))).2.2.1 30 0 rfl)).1
  have hr17a : lgS (sF (sF (sF s8 46 2 (Int32.ofInt 0)) 46 6 (Int32.ofInt (-1))) 46 7 (Int32.ofInt (-1))) ≤ (lgS s) := by exact Nat.le_of_eq (lg_cg ((show Fr ([17, 18, 19, 20, 21, 22], [], [(16, 0), (16, 1), (16, 2), (16, 3), (16, 4), (46, 2), (46, 6), (46, 7)], []) s (sF (sF (sF s8 46 2 (Int32.ofInt 0)) 46 6 (Int32.ofInt (-1))) 46 7 (Int32.ofInt (-1))) from (fr_sF rfl (fr_sF rfl (fr_sF rfl (fr_tr rfl fr_rf hF8))))).2.2.1 30 0 rfl)).2
  rw [show WW Z A (sF (sF (sF s8 46 2 (Int32.ofInt 0)) 46 6 (Int32.ofInt (-1))) 46 7 (Int32.ofInt (-1))) ++ ex = WW Z (ax A 30 (A 30)) (sF (sF (sF s8 46 2 (Int32.ofInt 0)) 46 6 (Int32.ofInt (-1))) 46 7 (Int32.ofInt (-1))) ++ ex from by rw [ax_id]]
  have v17 : (Int32.ofInt 0) = (sF (sF (sF s8 46 2 (Int32.ofInt 0)) 46 6 (Int32.ofInt (-1))) 46 7 (Int32.ofInt (-1))).2.2.1 46 2 := sF_ne rfl (sF_ne rfl (sF_get))
  have v17a : u_2_0 = (sF (sF (sF s8 46 2 (Int32.ofInt 0)) 46 6 (Int32.ofInt (-1))) 46 7 (Int32.ofInt (-1))).2.2.1 2 0 := sF_ne rfl (sF_ne rfl (sF_ne rfl (fr_F (e_2_0) hF8 rfl)))
  have v17b : u_2_1 = (sF (sF (sF s8 46 2 (Int32.ofInt 0)) 46 6 (Int32.ofInt (-1))) 46 7 (Int32.ofInt (-1))).2.2.1 2 1 := sF_ne rfl (sF_ne rfl (sF_ne rfl (fr_F (e_2_1) hF8 rfl)))
  have v17c : u_30_0 = (sF (sF (sF s8 46 2 (Int32.ofInt 0)) 46 6 (Int32.ofInt (-1))) 46 7 (Int32.ofInt (-1))).2.2.1 30 0 := sF_ne rfl (sF_ne rfl (sF_ne rfl (fr_F (e_30_0) hF8 rfl)))
  have n17 : ((Int32.ofInt 0)).toInt ≤ (u_46_1).toInt := by (first | have a0 := oa6 ((inv_F hI 0 1000 rfl e_46_1)) ((inv_F hI 448 28000 rfl e_30_0)) ((inv_F hI 0 32 rfl e_2_1)) ((inv_F hI 0 4000 rfl e_2_0)) ((in_c 0 rfl)) ((in_c (-1) rfl)) | ((first | have a0 := in_u ((inv_F hI 0 1000 rfl e_46_1)) | (have a0 := (inv_F hI 0 1000 rfl e_46_1); unfold In at a0)); (first | have a1 := in_u ((inv_F hI 448 28000 rfl e_30_0)) | (have a1 := (inv_F hI 448 28000 rfl e_30_0); unfold In at a1)); (first | have a2 := in_u ((inv_F hI 0 32 rfl e_2_1)) | (have a2 := (inv_F hI 0 32 rfl e_2_1); unfold In at a2)); (first | have a3 := in_u ((inv_F hI 0 4000 rfl e_2_0)) | (have a3 := (inv_F hI 0 4000 rfl e_2_0); unfold In at a3)); (first | have a4 := in_u ((in_c 0 rfl)) | (have a4 := (in_c 0 rfl); unfold In at a4)); (first | have a5 := in_u ((in_c (-1) rfl)) | (have a5 := (in_c (-1) rfl); unfold In at a5)))); have oc := oc_135_1_46; omega
  have n17a : (u_2_0).toInt ≤ (u_2_0).toInt := by exact Int.le_refl _
  have n17b : KL (sF (sF (sF s8 46 2 (Int32.ofInt 0)) 46 6 (Int32.ofInt (-1))) 46 7 (Int32.ofInt (-1))) := by exact kl_fr q_0 (show Fr ([17, 18, 19, 20, 21, 22], [], [(16, 0), (16, 1), (16, 2), (16, 3), (16, 4), (46, 2), (46, 6), (46, 7)], []) s (sF (sF (sF s8 46 2 (Int32.ofInt 0)) 46 6 (Int32.ofInt (-1))) 46 7 (Int32.ofInt (-1))) from (fr_sF rfl (fr_sF rfl (fr_sF rfl (fr_tr rfl fr_rf hF8))))) rfl
  have n17c : (∀ p : Nat, p < 160 → (sF (sF (sF s8 46 2 (Int32.ofInt 0)) 46 6 (Int32.ofInt (-1))) 46 7 (Int32.ofInt (-1))).1 18 p = s.1 4 p ∧ (sF (sF (sF s8 46 2 (Int32.ofInt 0)) 46 6 (Int32.ofInt (-1))) 46 7 (Int32.ofInt (-1))).1 19 p = s.1 5 p) ∧ (sF (sF (sF s8 46 2 (Int32.ofInt 0)) 46 6 (Int32.ofInt (-1))) 46 7 (Int32.ofInt (-1))).2.2.1 16 0 = s.2.2.1 2 0 ∧ (sF (sF (sF s8 46 2 (Int32.ofInt 0)) 46 6 (Int32.ofInt (-1))) 46 7 (Int32.ofInt (-1))).2.2.1 16 1 = s.2.2.1 2 1 := by exact ⟨fun p hp => ⟨p8 p hp, p8a p hp⟩, p8b, p8c⟩
  have n17d : ∀ k : Nat, (k : Int) < 7 * (s.2.2.1 2 0).toInt → (sF (sF (sF s8 46 2 (Int32.ofInt 0)) 46 6 (Int32.ofInt (-1))) 46 7 (Int32.ofInt (-1))).1 30 k = s.1 30 k := by exact fun k _ => by rw [(show Fr ([17, 18, 19, 20, 21, 22], [], [(16, 0), (16, 1), (16, 2), (16, 3), (16, 4), (46, 2), (46, 6), (46, 7)], []) s (sF (sF (sF s8 46 2 (Int32.ofInt 0)) 46 6 (Int32.ofInt (-1))) 46 7 (Int32.ofInt (-1))) from (fr_sF rfl (fr_sF rfl (fr_sF rfl (fr_tr rfl fr_rf hF8))))).1 30 rfl]
  have n17e : GEQ (gvS (sF (sF (sF s8 46 2 (Int32.ofInt 0)) 46 6 (Int32.ofInt (-1))) 46 7 (Int32.ofInt (-1)))) (gvC s) ∧ TQS (sF (sF (sF s8 46 2 (Int32.ofInt 0)) 46 6 (Int32.ofInt (-1))) 46 7 (Int32.ofInt (-1))) := by exact ⟨⟨p8d, p8, p8a, p8e, p8f, p8g, congrArg Int32.toInt p8c, congrArg Int32.toInt p8b⟩, fun p hp hn => by have h9 := q_1 p hp (by rw [← p8 p hp]; exact hn); rw [← p8h] at h9; exact h9⟩
  have n17f : LRN (s.1 47) (s.2.2.1 46 1).toInt.toNat (gvC s) ((Int32.ofInt 0)).toInt.toNat ((Int32.ofInt 0)).toInt.toNat (gvC (sF (sF (sF s8 46 2 (Int32.ofInt 0)) 46 6 (Int32.ofInt (-1))) 46 7 (Int32.ofInt (-1)))) := by exact ⟨rfl, gvC_cg (show Fr ([17, 18, 19, 20, 21, 22], [], [(16, 0), (16, 1), (16, 2), (16, 3), (16, 4), (46, 2), (46, 6), (46, 7)], []) s (sF (sF (sF s8 46 2 (Int32.ofInt 0)) 46 6 (Int32.ofInt (-1))) 46 7 (Int32.ofInt (-1))) from (fr_sF rfl (fr_sF rfl (fr_sF rfl (fr_tr rfl fr_rf hF8))))) rfl⟩
  have n17g : TQ (sF (sF (sF s8 46 2 (Int32.ofInt 0)) 46 6 (Int32.ofInt (-1))) 46 7 (Int32.ofInt (-1))) := by exact tq_fr q_1 (show Fr ([17, 18, 19, 20, 21, 22], [], [(16, 0), (16, 1), (16, 2), (16, 3), (16, 4), (46, 2), (46, 6), (46, 7)], []) s (sF (sF (sF s8 46 2 (Int32.ofInt 0)) 46 6 (Int32.ofInt (-1))) 46 7 (Int32.ofInt (-1))) from (fr_sF rfl (fr_sF rfl (fr_sF rfl (fr_tr rfl fr_rf hF8))))) rfl
  have n17h : ((sF (sF (sF s8 46 2 (Int32.ofInt 0)) 46 6 (Int32.ofInt (-1))) 46 7 (Int32.ofInt (-1))).2.2.1 46 6).toInt = -1 ∧ ((sF (sF (sF s8 46 2 (Int32.ofInt 0)) 46 6 (Int32.ofInt (-1))) 46 7 (Int32.ofInt (-1))).2.2.1 46 7).toInt = -1 := by exact ⟨by rw [← (show (Int32.ofInt (-1)) = (sF (sF (sF s8 46 2 (Int32.ofInt 0)) 46 6 (Int32.ofInt (-1))) 46 7 (Int32.ofInt (-1))).2.2.1 46 6 from sF_ne rfl (sF_get))]; rfl, by rw [← (show (Int32.ofInt (-1)) = (sF (sF (sF s8 46 2 (Int32.ofInt 0)) 46 6 (Int32.ofInt (-1))) 46 7 (Int32.ofInt (-1))).2.2.1 46 7 from sF_get)]; rfl⟩
  have n17i : LGS s (sF (sF (sF s8 46 2 (Int32.ofInt 0)) 46 6 (Int32.ofInt (-1))) 46 7 (Int32.ofInt (-1))) ((Int32.ofInt 0)).toInt.toNat := by exact lgs_0 (gvC_cg (show Fr ([17, 18, 19, 20, 21, 22], [], [(16, 0), (16, 1), (16, 2), (16, 3), (16, 4), (46, 2), (46, 6), (46, 7)], []) s (sF (sF (sF s8 46 2 (Int32.ofInt 0)) 46 6 (Int32.ofInt (-1))) 46 7 (Int32.ofInt (-1))) from (fr_sF rfl (fr_sF rfl (fr_sF rfl (fr_tr rfl fr_rf hF8))))) rfl) ((show Fr ([17, 18, 19, 20, 21, 22], [], [(16, 0), (16, 1), (16, 2), (16, 3), (16, 4), (46, 2), (46, 6), (46, 7)], []) s (sF (sF (sF s8 46 2 (Int32.ofInt 0)) 46 6 (Int32.ofInt (-1))) 46 7 (Int32.ofInt (-1))) from (fr_sF rfl (fr_sF rfl (fr_sF rfl (fr_tr rfl fr_rf hF8))))).1 30 rfl)
  exact gg_w (by first | exact Nat.le_of_ble_eq_true rfl | omega) (gg_f (gf_cons rfl (gf_cons rfl (gf_cons rfl gf_nil))) (ct17 2002 (sF (sF (sF s8 46 2 (Int32.ofInt 0)) 46 6 (Int32.ofInt (-1))) 46 7 (Int32.ofInt (-1))) (A 30) (lgC s) (lgS s) (Int32.ofInt 0) (Int32.ofInt 0) u_2_0 u_2_1 u_30_0 hI12x12 (fr_sF rfl (fr_sF rfl (fr_sF rfl (fr_tr rfl fr_rf hF8)))) hr17 hr17a (in_w 0 2001 (in_c 0 rfl) rfl) v17 v17a v17b v17c n17 n17a n17b n17c n17d n17e n17f n17g n17h n17i (m_in 2002 (in_w 0 2001 (in_c 0 rfl) rfl) rfl)))

/-- GraphHouse.load -/
theorem f_225_0 {Z : AmZ} {A : Nat → Nat} {s : GS} {ex : va_W} {d : Nat} {X : AmX} {u_2_0 : Int32} {u_2_1 : Int32} {u_30_0 : Int32} (hd : 11 ≤ d) (hI : Inv s) (e_2_0 : u_2_0 = s.2.2.1 2 0) (e_2_1 : u_2_1 = s.2.2.1 2 1) (e_30_0 : u_30_0 = s.2.2.1 30 0) (q_0 : KL s) (q_1 : TQ s) : GC Z d 225 [.ref (A 0)] (WW Z A s ++ ex) 3943 83130 (fun v u => ∃ a : Nat, ∃ t : GS, Inv t ∧ Fr fm_225_0 s t ∧ ∃ z : Int32, v = some (.int z) ∧ u = WW Z (ax A 30 a) t ++ ex ∧ In z (-4) 1000 ∧ (KL t) ∧ (((z).toInt ≠ -4 → LOT (s.1 47) (s.2.2.1 46 1).toInt.toNat (gvC s) (z).toInt 0 0 (gvC t) ∧ (t.2.2.1 46 6).toInt = -1 ∧ (t.2.2.1 46 7).toInt = -1) ∧ ((z).toInt = -4 → LOT (s.1 47) (s.2.2.1 46 1).toInt.toNat (gvC s) (-4) (t.2.2.1 46 6).toInt (t.2.2.1 46 7).toInt (gvC t)) ∧ TQ t) ∧ (LCO s t z)) X := by
  intro post xp hP hX
  refine g_enter2 (k := 225) (N := 900) (by first | exact dq1 hd rfl | exact dq0 hd rfl | exact dq2 hd rfl | exact dq3 hd rfl | omega) rfl (Nat.le_of_ble_eq_true rfl) ?_
  refine g_aload_n 1 (gd rfl) rfl rfl ?_
  refine g_getA (q2 := 1) 4 (gd rfl) rfl rfl rfl rfl ?_
  refine g_aload_n 5 (gd rfl) rfl rfl ?_
  refine g_getA (q2 := 46) 8 (gd rfl) rfl rfl rfl rfl ?_
  have p8 : KL s := by exact q_0
  have p8a : TQ s := by exact q_1
  refine g_callv (X := _) (As := [.ref (A 46)]) (r := []) (b := A 1) (q := 1) 11 (gd rfl) rfl rfl rfl rfl rfl (ww_o rfl) (Nat.le_of_ble_eq_true rfl) (Nat.le_trans (lgC_le (inv_F hI 448 28000 (q := 30) (j := 0) rfl rfl)) (Nat.le_of_ble_eq_true rfl)) (Nat.le_trans (lgS_le (inv_F hI 448 28000 (q := 30) (j := 0) rfl rfl)) (Nat.le_of_ble_eq_true rfl)) (f_135_1_46 (by first | exact dq1 hd rfl | exact dq0 hd rfl | exact dq2 hd rfl | exact dq3 hd rfl | omega) hI e_2_0 e_2_1 e_30_0 rfl p8 p8a) (fun e u h => h) (fun v u h => ?_)
  obtain ⟨a8, s8, hI8, hF8, z8, rfl, rfl, i8, p8b, p8c, p8d, p8e, p8f⟩ := h
  show GG _ _ _ _ _ _ _ _ [.int z8] _ _ _
  have n11 : KL s8 := by exact p8b
  have n11a : ((z8).toInt ≠ -4 → LOT (s.1 47) (s.2.2.1 46 1).toInt.toNat (gvC s) (z8).toInt 0 0 (gvC s8) ∧ (s8.2.2.1 46 6).toInt = -1 ∧ (s8.2.2.1 46 7).toInt = -1) ∧ ((z8).toInt = -4 → LOT (s.1 47) (s.2.2.1 46 1).toInt.toNat (gvC s) (-4) (s8.2.2.1 46 6).toInt (s8.2.2.1 46 7).toInt (gvC s8)) ∧ TQ s8 := by exact ⟨p8c, p8d, p8e⟩
  have n11b : LCO s s8 z8 := by exact p8f
  exact g_ireturn (gd rfl) rfl rfl (hP _ _ ⟨a8, s8, hI8, (fr_tr rfl fr_rf hF8), z8, rfl, rfl, in_w (-4) 1000 i8 rfl, n11, n11a, n11b⟩)

theorem oc_335_109 : (Int32.ofInt (-1)).toInt = (-1) ∧ (Int32.ofInt 0).toInt = 0 ∧ (Int32.ofInt 1).toInt = 1 ∧ (Int32.ofInt 160).toInt = 160 := ⟨rfl, rfl, rfl, rfl⟩
set_option maxHeartbeats 4000000 in
/-- GraphHouseModel.findBeside -/
theorem f_335 {Z : AmZ} {A : Nat → Nat} {s : GS} {ex : va_W} {d : Nat} {X : AmX}  (hd : 3 ≤ d) (hI : Inv s)  : GC Z d 335 [.ref (A 109)] (WW Z A s ++ ex) 0 0 (fun v u => ∃ t : GS, Inv t ∧ Fr fm_335 s t ∧ v = none ∧ u = WW Z A t ++ ex ∧ (BSD t) ∧ (BFR (gvZ s) (s.2.2.1 109 20).toInt ((t).1 138))) X := by
  intro post xp hP hX
  obtain ⟨u_109_19, e_109_19⟩ : ∃ w, w = s.2.2.1 109 19 := ⟨_, rfl⟩
  have ro_109_19 := inv_F hI 0 160 rfl e_109_19
  obtain ⟨u_109_20, e_109_20⟩ : ∃ w, w = s.2.2.1 109 20 := ⟨_, rfl⟩
  have ro_109_20 := inv_F hI 0 32 rfl e_109_20
  have ct25 : ∀ (k25 : Nat) (sc25 : GS) (y25_1 : Int32), Inv sc25 → Fr fm_335 s sc25 → (In y25_1 0 160) → (BSF (sc25.1 138) u_109_20.toInt) → (BSK (gvZ s) (s.2.2.1 109 20).toInt (y25_1).toNatClampNeg ((sc25).1 138)) → 160 - (y25_1).toInt < (k25 : Int) → GG Z (d - 1) 335 post (gx xp) (1 + k25 * 900) 25 (fun j => xlook j [(0, .ref (A 109)), (1, .int y25_1)]) [] (WW Z A sc25 ++ ex) 0 0 := by
    intro k25
    induction k25 with
    | zero => intro sc25 y25_1 hIc25 hFc25 j25_1 g25_0 g25_1 mm25; exact m_no mm25 j25_1 rfl
    | succ k25 ih25 =>
      intro sc25 y25_1 hIc25 hFc25 j25_1 g25_0 g25_1 mm25
      refine gg_w (M := 1 + k25 * 900 + 900) gws ?_
      refine g_iload_n 26 (gd rfl) rfl rfl ?_
      refine g_sipush 160 29 (gd rfl) rfl rfl ?_
      refine g_cmp_ge 32 110 (gd rfl) rfl rfl (fun c29 => ?_) (fun c29 => ?_)
      · skip
        have i29 := r_le2 160 160 c29 (in_c 160 rfl) j25_1 rfl
        have n110 : BSD sc25 := by have h := g25_0; unfold BSD; rw [hFc25.2.2.1 109 20 rfl, ← e_109_20]; exact h
        have n110a : BFR (gvZ s) (s.2.2.1 109 20).toInt ((sc25).1 138) := by have h9 := g25_1; rw [show (y25_1).toNatClampNeg = 160 from (by show (y25_1).toInt.toNat = 160; (first | have a0 := oa3 ro_109_20 ro_109_19 i29 | ((first | have a0 := in_u ro_109_20 | (have a0 := ro_109_20; unfold In at a0)); (first | have a1 := in_u ro_109_19 | (have a1 := ro_109_19; unfold In at a1)); (first | have a2 := in_u i29 | (have a2 := i29; unfold In at a2)))); have oc := oc_335_109; (first | exact zt_e (by omega) | omega))] at h9; exact bfr_e h9
        exact g_return (gd rfl) rfl (hP _ _ ⟨sc25, hIc25, hFc25, rfl, rfl, n110, n110a⟩)
      · skip
        have i29 := r_lt1 0 159 c29 j25_1 (in_c 160 rfl) rfl
        refine g_aload_n 33 (gd rfl) rfl rfl ?_
        refine g_iload_n 34 (gd rfl) rfl rfl ?_
        refine g_callv (X := _) (As := [.int y25_1]) (r := []) (b := A 109) (q := 109) 37 (gd rfl) rfl rfl rfl rfl rfl (ww_o rfl) (Nat.le_of_ble_eq_true rfl) (mc := 0) (ms := 0) (Nat.zero_le _) (Nat.zero_le _) (P := fun v u => _) ?_ (fun e u h => h) (fun v u h => h)
        intro po34 xx34 hp34 hx34
        refine g_enter2 (k := 288) (N := 300) (by first | exact dq1 hd rfl | exact dq0 hd rfl | exact dq2 hd rfl | exact dq3 hd rfl | omega) rfl (Nat.le_of_ble_eq_true rfl) ?_
        refine g_aload_n 1 (gd rfl) rfl rfl ?_
        refine g_getA (q2 := 112) 4 (gd rfl) rfl rfl rfl rfl ?_
        refine g_aload_n 5 (gd rfl) rfl rfl ?_
        refine g_getI 8 (gd rfl) rfl rfl rfl (fun z34x5 e34x5 => ?_)
        have q34x5 : u_109_19 = z34x5 := (fr_F e_109_19 hFc25 rfl).trans e34x5.symm
        subst q34x5
        refine g_iload_n 9 (gd rfl) rfl rfl ?_
        refine g_iadd 10 (gd rfl) rfl (fun z34x9 e34x9 => ?_)
        have i34x9 := in_add 0 319 e34x9 ro_109_19 i29 rfl rfl
        refine g_baload 11 (gd rfl) rfl (n := 480) rfl (in_ix i34x9 rfl) (fun z34x10 e34x10 => ?_)
        have i34x10 := inv_I hIc25 (n := 480) (t := 3) 0 1 rfl (in_ix i34x9 rfl) rfl e34x10
        refine g_if_eq 14 43 (gd rfl) rfl rfl (fun c34x11 => ?_) (fun c34x11 => ?_)
        · skip
          have i34x11 := z_eq 0 0 c34x11 i34x10 rfl
          refine g_iconst 0 44 (gd rfl) rfl rfl ?_
          refine g_ireturn (gd rfl) rfl (nb01 (in_w 0 1 (in_c 0 rfl) rfl)) (hp34 _ _ ?_)
          show GG _ _ _ _ _ _ _ _ [.int (Int32.ofInt 0)] _ _ _
          refine g_if_eq 40 104 (gd rfl) rfl rfl (fun c37 => ?_) (fun c37 => ?_)
          · skip
            refine g_iinc 107 (gd rfl) rfl rfl (Nat.le_of_ble_eq_true rfl) (fun z104 e104 => ?_)
            have i104 := in_add 1 160 e104 i29 (in_c 1 rfl) rfl rfl
            refine g_goto 25 (gd rfl) rfl ?_
            have n25 : BSF (sc25.1 138) u_109_20.toInt := by exact g25_0
            have n25a : BSK (gvZ s) (s.2.2.1 109 20).toInt (z104).toNatClampNeg ((sc25).1 138) := by rw [show (z104).toNatClampNeg = (y25_1).toNatClampNeg + 1 from (by show (z104).toInt.toNat = (y25_1).toInt.toNat + 1; (first | have a0 := oa4 ro_109_20 ro_109_19 i29 i104 | ((first | have a0 := in_u ro_109_20 | (have a0 := ro_109_20; unfold In at a0)); (first | have a1 := in_u ro_109_19 | (have a1 := ro_109_19; unfold In at a1)); (first | have a2 := in_u i29 | (have a2 := i29; unfold In at a2)); (first | have a3 := in_u i104 | (have a3 := i104; unfold In at a3)))); have a4 := t_add e104 i29 (in_c 1 rfl) rfl; (first | have a5 := oa2 ((in_c 1 rfl)) i34x9 | ((first | have a5 := in_u ((in_c 1 rfl)) | (have a5 := (in_c 1 rfl); unfold In at a5)); (first | have a6 := in_u i34x9 | (have a6 := i34x9; unfold In at a6)))); have a7 := t_add e34x9 ro_109_19 i29 rfl; have oc := oc_335_109; (first | exact zt_s (by omega) (by omega) | omega))]; exact bsk_n g25_1 (jna_0 hI (show z34x10 = s.1 112 (bs s + (y25_1).toNatClampNeg) from e34x10.trans ((congrFun (hFc25.1 112 rfl) _).trans (congrArg (s.1 112) (show z34x9.toNatClampNeg = bs s + (y25_1).toNatClampNeg from (by show z34x9.toInt.toNat = (s.2.2.1 109 19).toInt.toNat + (y25_1).toInt.toNat; rw [← e_109_19]; (first | have a0 := oa4 ro_109_20 ro_109_19 i29 i104 | ((first | have a0 := in_u ro_109_20 | (have a0 := ro_109_20; unfold In at a0)); (first | have a1 := in_u ro_109_19 | (have a1 := ro_109_19; unfold In at a1)); (first | have a2 := in_u i29 | (have a2 := i29; unfold In at a2)); (first | have a3 := in_u i104 | (have a3 := i104; unfold In at a3)))); have a4 := t_add e104 i29 (in_c 1 rfl) rfl; (first | have a5 := oa2 ((in_c 1 rfl)) i34x9 | ((first | have a5 := in_u ((in_c 1 rfl)) | (have a5 := (in_c 1 rfl); unfold In at a5)); (first | have a6 := in_u i34x9 | (have a6 := i34x9; unfold In at a6)))); have a7 := t_add e34x9 ro_109_19 i29 rfl; have oc := oc_335_109; (first | exact zt_a (by omega) (by omega) (by omega) | omega)))))) (by (first | have a0 := oa4 ro_109_20 ro_109_19 i29 i104 | ((first | have a0 := in_u ro_109_20 | (have a0 := ro_109_20; unfold In at a0)); (first | have a1 := in_u ro_109_19 | (have a1 := ro_109_19; unfold In at a1)); (first | have a2 := in_u i29 | (have a2 := i29; unfold In at a2)); (first | have a3 := in_u i104 | (have a3 := i104; unfold In at a3)))); have a4 := t_add e104 i29 (in_c 1 rfl) rfl; (first | have a5 := oa2 ((in_c 1 rfl)) i34x9 | ((first | have a5 := in_u ((in_c 1 rfl)) | (have a5 := (in_c 1 rfl); unfold In at a5)); (first | have a6 := in_u i34x9 | (have a6 := i34x9; unfold In at a6)))); have a7 := t_add e34x9 ro_109_19 i29 rfl; have oc := oc_335_109; omega))
            exact gg_w (by first | exact Nat.le_add_right _ _ | exact gw2 | exact gw3 | exact gwe rfl | exact gwf rfl | exact gwg rfl | exact gwh rfl | omega) (gg_f (gf_cons rfl (gf_cons rfl gf_nil)) (ih25 sc25 z104 hIc25 hFc25 (in_w 0 160 i104 rfl) n25 n25a (m_up mm25 (t_add e104 i29 (in_c 1 rfl) rfl) (in_w 1 1 (in_c 1 rfl) rfl))))
          · skip
            exact zn_ne c37 (in_c 0 rfl) rfl
        · skip
          have i34x11 := z_ne 1 1 c34x11 i34x10 rfl
          refine g_aload_n 15 (gd rfl) rfl rfl ?_
          refine g_getA (q2 := 113) 18 (gd rfl) rfl rfl rfl rfl ?_
          refine g_aload_n 19 (gd rfl) rfl rfl ?_
          refine g_getI 22 (gd rfl) rfl rfl rfl (fun z34x19 e34x19 => ?_)
          have q34x19 : u_109_19 = z34x19 := (fr_F e_109_19 hFc25 rfl).trans e34x19.symm
          subst q34x19
          refine g_iload_n 23 (gd rfl) rfl rfl ?_
          refine g_iadd 24 (gd rfl) rfl (fun z34x23 e34x23 => ?_)
          have i34x23 := in_add 0 319 e34x23 ro_109_19 i29 rfl rfl
          refine g_iaload 25 (gd rfl) rfl (n := 480) rfl (in_ix i34x23 rfl) (fun z34x24 e34x24 => ?_)
          have i34x24 := inv_I hIc25 (n := 480) (t := 0) 0 31 rfl (in_ix i34x23 rfl) rfl e34x24
          refine g_aload_n 26 (gd rfl) rfl rfl ?_
          refine g_getA (q2 := 114) 29 (gd rfl) rfl rfl rfl rfl ?_
          refine g_aload_n 30 (gd rfl) rfl rfl ?_
          refine g_getI 33 (gd rfl) rfl rfl rfl (fun z34x30 e34x30 => ?_)
          have q34x30 : u_109_19 = z34x30 := (fr_F e_109_19 hFc25 rfl).trans e34x30.symm
          subst q34x30
          refine g_iload_n 34 (gd rfl) rfl rfl ?_
          refine g_iadd 35 (gd rfl) rfl (fun z34x34 e34x34 => ?_)
          have i34x34 := in_add 0 319 e34x34 ro_109_19 i29 rfl rfl
          refine g_iaload 36 (gd rfl) rfl (n := 480) rfl (in_ix i34x34 rfl) (fun z34x35 e34x35 => ?_)
          have i34x35 := inv_I hIc25 (n := 480) (t := 0) 0 31 rfl (in_ix i34x34 rfl) rfl e34x35
          refine g_cmp_eq 39 43 (gd rfl) rfl rfl (fun c34x36 => ?_) (fun c34x36 => ?_)
          · skip
            refine g_iconst 0 44 (gd rfl) rfl rfl ?_
            refine g_ireturn (gd rfl) rfl (nb01 (in_w 0 1 (in_c 0 rfl) rfl)) (hp34 _ _ ?_)
            show GG _ _ _ _ _ _ _ _ [.int (Int32.ofInt 0)] _ _ _
            refine g_if_eq 40 104 (gd rfl) rfl rfl (fun c37 => ?_) (fun c37 => ?_)
            · skip
              refine g_iinc 107 (gd rfl) rfl rfl (Nat.le_of_ble_eq_true rfl) (fun z104 e104 => ?_)
              have i104 := in_add 1 160 e104 i29 (in_c 1 rfl) rfl rfl
              refine g_goto 25 (gd rfl) rfl ?_
              have n25 : BSF (sc25.1 138) u_109_20.toInt := by exact g25_0
              have n25a : BSK (gvZ s) (s.2.2.1 109 20).toInt (z104).toNatClampNeg ((sc25).1 138) := by rw [show (z104).toNatClampNeg = (y25_1).toNatClampNeg + 1 from (by show (z104).toInt.toNat = (y25_1).toInt.toNat + 1; (first | have a0 := oa4 ro_109_20 ro_109_19 i29 i104 | ((first | have a0 := in_u ro_109_20 | (have a0 := ro_109_20; unfold In at a0)); (first | have a1 := in_u ro_109_19 | (have a1 := ro_109_19; unfold In at a1)); (first | have a2 := in_u i29 | (have a2 := i29; unfold In at a2)); (first | have a3 := in_u i104 | (have a3 := i104; unfold In at a3)))); have a4 := t_add e104 i29 (in_c 1 rfl) rfl; (first | have a5 := oa2 ((in_c 1 rfl)) i34x34 | ((first | have a5 := in_u ((in_c 1 rfl)) | (have a5 := (in_c 1 rfl); unfold In at a5)); (first | have a6 := in_u i34x34 | (have a6 := i34x34; unfold In at a6)))); have a7 := t_add e34x34 ro_109_19 i29 rfl; (first | have a8 := in_u i34x23 | (have a8 := i34x23; unfold In at a8)); have a9 := t_add e34x23 ro_109_19 i29 rfl; (first | have a10 := in_u i34x9 | (have a10 := i34x9; unfold In at a10)); have a11 := t_add e34x9 ro_109_19 i29 rfl; have oc := oc_335_109; (first | exact zt_s (by omega) (by omega) | omega))]; exact bsk_n g25_1 (jna_1 hI (show z34x10 = s.1 112 (bs s + (y25_1).toNatClampNeg) from e34x10.trans ((congrFun (hFc25.1 112 rfl) _).trans (congrArg (s.1 112) (show z34x9.toNatClampNeg = bs s + (y25_1).toNatClampNeg from (by show z34x9.toInt.toNat = (s.2.2.1 109 19).toInt.toNat + (y25_1).toInt.toNat; rw [← e_109_19]; (first | have a0 := oa4 ro_109_20 ro_109_19 i29 i104 | ((first | have a0 := in_u ro_109_20 | (have a0 := ro_109_20; unfold In at a0)); (first | have a1 := in_u ro_109_19 | (have a1 := ro_109_19; unfold In at a1)); (first | have a2 := in_u i29 | (have a2 := i29; unfold In at a2)); (first | have a3 := in_u i104 | (have a3 := i104; unfold In at a3)))); have a4 := t_add e104 i29 (in_c 1 rfl) rfl; (first | have a5 := oa2 ((in_c 1 rfl)) i34x34 | ((first | have a5 := in_u ((in_c 1 rfl)) | (have a5 := (in_c 1 rfl); unfold In at a5)); (first | have a6 := in_u i34x34 | (have a6 := i34x34; unfold In at a6)))); have a7 := t_add e34x34 ro_109_19 i29 rfl; (first | have a8 := in_u i34x23 | (have a8 := i34x23; unfold In at a8)); have a9 := t_add e34x23 ro_109_19 i29 rfl; (first | have a10 := in_u i34x9 | (have a10 := i34x9; unfold In at a10)); have a11 := t_add e34x9 ro_109_19 i29 rfl; have oc := oc_335_109; (first | exact zt_a (by omega) (by omega) (by omega) | omega)))))) (by (first | have a0 := oa4 ro_109_20 ro_109_19 i29 i104 | ((first | have a0 := in_u ro_109_20 | (have a0 := ro_109_20; unfold In at a0)); (first | have a1 := in_u ro_109_19 | (have a1 := ro_109_19; unfold In at a1)); (first | have a2 := in_u i29 | (have a2 := i29; unfold In at a2)); (first | have a3 := in_u i104 | (have a3 := i104; unfold In at a3)))); have a4 := t_add e104 i29 (in_c 1 rfl) rfl; (first | have a5 := oa2 ((in_c 1 rfl)) i34x34 | ((first | have a5 := in_u ((in_c 1 rfl)) | (have a5 := (in_c 1 rfl); unfold In at a5)); (first | have a6 := in_u i34x34 | (have a6 := i34x34; unfold In at a6)))); have a7 := t_add e34x34 ro_109_19 i29 rfl; (first | have a8 := in_u i34x23 | (have a8 := i34x23; unfold In at a8)); have a9 := t_add e34x23 ro_109_19 i29 rfl; (first | have a10 := in_u i34x9 | (have a10 := i34x9; unfold In at a10)); have a11 := t_add e34x9 ro_109_19 i29 rfl; have oc := oc_335_109; omega) (show z34x24 = s.1 113 (bs s + (y25_1).toNatClampNeg) from e34x24.trans ((congrFun (hFc25.1 113 rfl) _).trans (congrArg (s.1 113) (show z34x23.toNatClampNeg = bs s + (y25_1).toNatClampNeg from (by show z34x23.toInt.toNat = (s.2.2.1 109 19).toInt.toNat + (y25_1).toInt.toNat; rw [← e_109_19]; (first | have a0 := oa4 ro_109_20 ro_109_19 i29 i104 | ((first | have a0 := in_u ro_109_20 | (have a0 := ro_109_20; unfold In at a0)); (first | have a1 := in_u ro_109_19 | (have a1 := ro_109_19; unfold In at a1)); (first | have a2 := in_u i29 | (have a2 := i29; unfold In at a2)); (first | have a3 := in_u i104 | (have a3 := i104; unfold In at a3)))); have a4 := t_add e104 i29 (in_c 1 rfl) rfl; (first | have a5 := oa2 ((in_c 1 rfl)) i34x34 | ((first | have a5 := in_u ((in_c 1 rfl)) | (have a5 := (in_c 1 rfl); unfold In at a5)); (first | have a6 := in_u i34x34 | (have a6 := i34x34; unfold In at a6)))); have a7 := t_add e34x34 ro_109_19 i29 rfl; (first | have a8 := in_u i34x23 | (have a8 := i34x23; unfold In at a8)); have a9 := t_add e34x23 ro_109_19 i29 rfl; (first | have a10 := in_u i34x9 | (have a10 := i34x9; unfold In at a10)); have a11 := t_add e34x9 ro_109_19 i29 rfl; have oc := oc_335_109; (first | exact zt_a (by omega) (by omega) (by omega) | omega)))))) (show z34x35 = s.1 114 (bs s + (y25_1).toNatClampNeg) from e34x35.trans ((congrFun (hFc25.1 114 rfl) _).trans (congrArg (s.1 114) (show z34x34.toNatClampNeg = bs s + (y25_1).toNatClampNeg from (by show z34x34.toInt.toNat = (s.2.2.1 109 19).toInt.toNat + (y25_1).toInt.toNat; rw [← e_109_19]; (first | have a0 := oa4 ro_109_20 ro_109_19 i29 i104 | ((first | have a0 := in_u ro_109_20 | (have a0 := ro_109_20; unfold In at a0)); (first | have a1 := in_u ro_109_19 | (have a1 := ro_109_19; unfold In at a1)); (first | have a2 := in_u i29 | (have a2 := i29; unfold In at a2)); (first | have a3 := in_u i104 | (have a3 := i104; unfold In at a3)))); have a4 := t_add e104 i29 (in_c 1 rfl) rfl; (first | have a5 := oa2 ((in_c 1 rfl)) i34x34 | ((first | have a5 := in_u ((in_c 1 rfl)) | (have a5 := (in_c 1 rfl); unfold In at a5)); (first | have a6 := in_u i34x34 | (have a6 := i34x34; unfold In at a6)))); have a7 := t_add e34x34 ro_109_19 i29 rfl; (first | have a8 := in_u i34x23 | (have a8 := i34x23; unfold In at a8)); have a9 := t_add e34x23 ro_109_19 i29 rfl; (first | have a10 := in_u i34x9 | (have a10 := i34x9; unfold In at a10)); have a11 := t_add e34x9 ro_109_19 i29 rfl; have oc := oc_335_109; (first | exact zt_a (by omega) (by omega) (by omega) | omega)))))) c34x36)
              exact gg_w (by first | exact Nat.le_add_right _ _ | exact gw2 | exact gw3 | exact gwe rfl | exact gwf rfl | exact gwg rfl | exact gwh rfl | omega) (gg_f (gf_cons rfl (gf_cons rfl gf_nil)) (ih25 sc25 z104 hIc25 hFc25 (in_w 0 160 i104 rfl) n25 n25a (m_up mm25 (t_add e104 i29 (in_c 1 rfl) rfl) (in_w 1 1 (in_c 1 rfl) rfl))))
            · skip
              exact zn_ne c37 (in_c 0 rfl) rfl
          · skip
            refine g_iconst 1 40 (gd rfl) rfl rfl ?_
            refine g_goto 44 (gd rfl) rfl ?_
            refine g_ireturn (gd rfl) rfl (nb01 (in_w 0 1 (in_c 1 rfl) rfl)) (hp34 _ _ ?_)
            show GG _ _ _ _ _ _ _ _ [.int (Int32.ofInt 1)] _ _ _
            refine g_if_eq 40 104 (gd rfl) rfl rfl (fun c37 => ?_) (fun c37 => ?_)
            · skip
              exact zn_eq c37 (in_c 1 rfl) rfl
            · skip
              refine g_aload_n 41 (gd rfl) rfl rfl ?_
              have hk := ke_n hIc25 (i := z34x9.toNatClampNeg) (by rw [← (show u_109_19 = sc25.2.2.1 109 19 from fr_F e_109_19 hFc25 rfl)]; show _ ≤ ((z34x9.toInt.toNat : Nat) : Int); (first | have a0 := oa4 ro_109_20 ro_109_19 i29 i34x34 | ((first | have a0 := in_u ro_109_20 | (have a0 := ro_109_20; unfold In at a0)); (first | have a1 := in_u ro_109_19 | (have a1 := ro_109_19; unfold In at a1)); (first | have a2 := in_u i29 | (have a2 := i29; unfold In at a2)); (first | have a3 := in_u i34x34 | (have a3 := i34x34; unfold In at a3)))); have a4 := t_add e34x34 ro_109_19 i29 rfl; (first | have a5 := in_u i34x23 | (have a5 := i34x23; unfold In at a5)); have a6 := t_add e34x23 ro_109_19 i29 rfl; (first | have a7 := in_u i34x9 | (have a7 := i34x9; unfold In at a7)); have a8 := t_add e34x9 ro_109_19 i29 rfl; have oc := oc_335_109; omega) (by rw [← (show u_109_19 = sc25.2.2.1 109 19 from fr_F e_109_19 hFc25 rfl)]; show ((z34x9.toInt.toNat : Nat) : Int) < _; (first | have a0 := oa4 ro_109_20 ro_109_19 i29 i34x34 | ((first | have a0 := in_u ro_109_20 | (have a0 := ro_109_20; unfold In at a0)); (first | have a1 := in_u ro_109_19 | (have a1 := ro_109_19; unfold In at a1)); (first | have a2 := in_u i29 | (have a2 := i29; unfold In at a2)); (first | have a3 := in_u i34x34 | (have a3 := i34x34; unfold In at a3)))); have a4 := t_add e34x34 ro_109_19 i29 rfl; (first | have a5 := in_u i34x23 | (have a5 := i34x23; unfold In at a5)); have a6 := t_add e34x23 ro_109_19 i29 rfl; (first | have a7 := in_u i34x9 | (have a7 := i34x9; unfold In at a7)); have a8 := t_add e34x9 ro_109_19 i29 rfl; have oc := oc_335_109; omega) (by rw [← e34x10]; exact c34x11); rw [hFc25.2.2.1 109 20 rfl, ← e_109_20] at hk
              refine g_getA (q2 := 138) 44 (gd rfl) rfl rfl rfl rfl ?_
              refine g_aload_n 45 (gd rfl) rfl rfl ?_
              refine g_getA (q2 := 113) 48 (gd rfl) rfl rfl rfl rfl ?_
              refine g_aload_n 49 (gd rfl) rfl rfl ?_
              refine g_getI 52 (gd rfl) rfl rfl rfl (fun z49 e49 => ?_)
              have q49 : u_109_19 = z49 := (fr_F e_109_19 hFc25 rfl).trans e49.symm
              subst q49
              refine g_iload_n 53 (gd rfl) rfl rfl ?_
              refine g_iadd 54 (gd rfl) rfl (fun z53 e53 => ?_)
              have i53 := in_add 0 319 e53 ro_109_19 i29 rfl rfl
              refine g_iaload 55 (gd rfl) rfl (n := 480) rfl (in_ix i53 rfl) (fun z54 e54 => ?_)
              have i54 := inv_I hIc25 (n := 480) (t := 0) 0 31 rfl (in_ix i53 rfl) rfl e54
              refine g_dup2 56 (gd rfl) rfl rfl rfl ?_
              refine g_iaload 57 (gd rfl) rfl (n := 32) rfl (in_ix i54 rfl) (fun z56 e56 => ?_)
              refine g_iconst 1 58 (gd rfl) rfl rfl ?_
              refine g_aload_n 59 (gd rfl) rfl rfl ?_
              refine g_getA (q2 := 114) 62 (gd rfl) rfl rfl rfl rfl ?_
              refine g_aload_n 63 (gd rfl) rfl rfl ?_
              refine g_getI 66 (gd rfl) rfl rfl rfl (fun z63 e63 => ?_)
              have q63 : u_109_19 = z63 := (fr_F e_109_19 hFc25 rfl).trans e63.symm
              subst q63
              refine g_iload_n 67 (gd rfl) rfl rfl ?_
              refine g_iadd 68 (gd rfl) rfl (fun z67 e67 => ?_)
              have i67 := in_add 0 319 e67 ro_109_19 i29 rfl rfl
              refine g_iaload 69 (gd rfl) rfl (n := 480) rfl (in_ix i67 rfl) (fun z68 e68 => ?_)
              have i68 := inv_I hIc25 (n := 480) (t := 0) 0 31 rfl (in_ix i67 rfl) rfl e68
              refine g_ishl 70 (gd rfl) rfl (fun z69 e69 => ?_)
              refine g_ior 71 (gd rfl) rfl (fun z70 e70 => ?_)
              refine g_iastore 72 (gd rfl) rfl (n := 32) rfl (in_ix i54 rfl) ?_
              have hI71 := inv_sI (q := 138) (j := z54.toNatClampNeg) hIc25 rfl (in_w (-2147483648) 2147483647 (i_rng z70) rfl)
              refine g_aload_n 73 (gd rfl) rfl rfl ?_
              refine g_getA (q2 := 138) 76 (gd rfl) rfl rfl rfl rfl ?_
              refine g_aload_n 77 (gd rfl) rfl rfl ?_
              refine g_getA (q2 := 114) 80 (gd rfl) rfl rfl rfl rfl ?_
              refine g_aload_n 81 (gd rfl) rfl rfl ?_
              refine g_getI 84 (gd rfl) rfl rfl rfl (fun z81 e81 => ?_)
              have q81 : u_109_19 = z81 := (sI_F (fr_F e_109_19 hFc25 rfl)).trans e81.symm
              subst q81
              refine g_iload_n 85 (gd rfl) rfl rfl ?_
              refine g_iadd 86 (gd rfl) rfl (fun z85 e85 => ?_)
              have i85 := in_add 0 319 e85 ro_109_19 i29 rfl rfl
              refine g_iaload 87 (gd rfl) rfl (n := 480) rfl (in_ix i85 rfl) (fun z86 e86 => ?_)
              have i86 := inv_I hI71 (n := 480) (t := 0) 0 31 rfl (in_ix i85 rfl) rfl e86
              refine g_dup2 88 (gd rfl) rfl rfl rfl ?_
              refine g_iaload 89 (gd rfl) rfl (n := 32) rfl (in_ix i86 rfl) (fun z88 e88 => ?_)
              refine g_iconst 1 90 (gd rfl) rfl rfl ?_
              refine g_aload_n 91 (gd rfl) rfl rfl ?_
              refine g_getA (q2 := 113) 94 (gd rfl) rfl rfl rfl rfl ?_
              refine g_aload_n 95 (gd rfl) rfl rfl ?_
              refine g_getI 98 (gd rfl) rfl rfl rfl (fun z95 e95 => ?_)
              have q95 : u_109_19 = z95 := (sI_F (fr_F e_109_19 hFc25 rfl)).trans e95.symm
              subst q95
              refine g_iload_n 99 (gd rfl) rfl rfl ?_
              refine g_iadd 100 (gd rfl) rfl (fun z99 e99 => ?_)
              have i99 := in_add 0 319 e99 ro_109_19 i29 rfl rfl
              refine g_iaload 101 (gd rfl) rfl (n := 480) rfl (in_ix i99 rfl) (fun z100 e100 => ?_)
              have i100 := inv_I hI71 (n := 480) (t := 0) 0 31 rfl (in_ix i99 rfl) rfl e100
              refine g_ishl 102 (gd rfl) rfl (fun z101 e101 => ?_)
              refine g_ior 103 (gd rfl) rfl (fun z102 e102 => ?_)
              refine g_iastore 104 (gd rfl) rfl (n := 32) rfl (in_ix i86 rfl) ?_
              have hI103 := inv_sI (q := 138) (j := z86.toNatClampNeg) hI71 rfl (in_w (-2147483648) 2147483647 (i_rng z102) rfl)
              refine g_iinc 107 (gd rfl) rfl rfl (Nat.le_of_ble_eq_true rfl) (fun z104 e104 => ?_)
              have i104 := in_add 1 160 e104 i29 (in_c 1 rfl) rfl rfl
              refine g_goto 25 (gd rfl) rfl ?_
              have n25 : BSF ((sI (sI sc25 138 z54.toNatClampNeg z70) 138 z86.toNatClampNeg z102).1 138) u_109_20.toInt := by (have q86 : z86 = z68 := (by rw [e86, sI_p rfl, e85.trans e67.symm]; exact e68.symm); have q100 : z100 = z54 := (by rw [e100, sI_p rfl, e99.trans e53.symm]; exact e54.symm); subst q86; subst q100; rw [sI_q, sI_q]; exact bsf_s g25_0 i54 i68 (by rw [e54, e53.trans e34x9.symm]; exact hk.1) (by rw [e68, e67.trans e34x9.symm]; exact hk.2) (by rw [e54, e68, e53.trans e34x23.symm, e67.trans e34x34.symm, ← e34x24, ← e34x35]; exact c34x36) e56 e69 e70 (by rw [e88, sI_q]) e101 e102)
              have n25a : BSK (gvZ s) (s.2.2.1 109 20).toInt (z104).toNatClampNeg (((sI (sI sc25 138 z54.toNatClampNeg z70) 138 z86.toNatClampNeg z102)).1 138) := by rw [show (z104).toNatClampNeg = (y25_1).toNatClampNeg + 1 from (by show (z104).toInt.toNat = (y25_1).toInt.toNat + 1; (first | have a0 := oa4 ro_109_20 ro_109_19 i29 i104 | ((first | have a0 := in_u ro_109_20 | (have a0 := ro_109_20; unfold In at a0)); (first | have a1 := in_u ro_109_19 | (have a1 := ro_109_19; unfold In at a1)); (first | have a2 := in_u i29 | (have a2 := i29; unfold In at a2)); (first | have a3 := in_u i104 | (have a3 := i104; unfold In at a3)))); have a4 := t_add e104 i29 (in_c 1 rfl) rfl; (first | have a5 := oa2 ((in_c 1 rfl)) i99 | ((first | have a5 := in_u ((in_c 1 rfl)) | (have a5 := (in_c 1 rfl); unfold In at a5)); (first | have a6 := in_u i99 | (have a6 := i99; unfold In at a6)))); have a7 := t_add e99 ro_109_19 i29 rfl; (first | have a8 := in_u i85 | (have a8 := i85; unfold In at a8)); have a9 := t_add e85 ro_109_19 i29 rfl; (first | have a10 := in_u i67 | (have a10 := i67; unfold In at a10)); have a11 := t_add e67 ro_109_19 i29 rfl; (first | have a12 := in_u i53 | (have a12 := i53; unfold In at a12)); have a13 := t_add e53 ro_109_19 i29 rfl; (first | have a14 := in_u i34x34 | (have a14 := i34x34; unfold In at a14)); have a15 := t_add e34x34 ro_109_19 i29 rfl; (first | have a16 := in_u i34x23 | (have a16 := i34x23; unfold In at a16)); have a17 := t_add e34x23 ro_109_19 i29 rfl; (first | have a18 := in_u i34x9 | (have a18 := i34x9; unfold In at a18)); have a19 := t_add e34x9 ro_109_19 i29 rfl; have oc := oc_335_109; (first | exact zt_s (by omega) (by omega) | omega))]; have r10 := (show z34x10 = s.1 112 (bs s + (y25_1).toNatClampNeg) from e34x10.trans ((congrFun (hFc25.1 112 rfl) _).trans (congrArg (s.1 112) (show z34x9.toNatClampNeg = bs s + (y25_1).toNatClampNeg from (by show z34x9.toInt.toNat = (s.2.2.1 109 19).toInt.toNat + (y25_1).toInt.toNat; rw [← e_109_19]; (first | have a0 := oa4 ro_109_20 ro_109_19 i29 i104 | ((first | have a0 := in_u ro_109_20 | (have a0 := ro_109_20; unfold In at a0)); (first | have a1 := in_u ro_109_19 | (have a1 := ro_109_19; unfold In at a1)); (first | have a2 := in_u i29 | (have a2 := i29; unfold In at a2)); (first | have a3 := in_u i104 | (have a3 := i104; unfold In at a3)))); have a4 := t_add e104 i29 (in_c 1 rfl) rfl; (first | have a5 := oa2 ((in_c 1 rfl)) i99 | ((first | have a5 := in_u ((in_c 1 rfl)) | (have a5 := (in_c 1 rfl); unfold In at a5)); (first | have a6 := in_u i99 | (have a6 := i99; unfold In at a6)))); have a7 := t_add e99 ro_109_19 i29 rfl; (first | have a8 := in_u i85 | (have a8 := i85; unfold In at a8)); have a9 := t_add e85 ro_109_19 i29 rfl; (first | have a10 := in_u i67 | (have a10 := i67; unfold In at a10)); have a11 := t_add e67 ro_109_19 i29 rfl; (first | have a12 := in_u i53 | (have a12 := i53; unfold In at a12)); have a13 := t_add e53 ro_109_19 i29 rfl; (first | have a14 := in_u i34x34 | (have a14 := i34x34; unfold In at a14)); have a15 := t_add e34x34 ro_109_19 i29 rfl; (first | have a16 := in_u i34x23 | (have a16 := i34x23; unfold In at a16)); have a17 := t_add e34x23 ro_109_19 i29 rfl; (first | have a18 := in_u i34x9 | (have a18 := i34x9; unfold In at a18)); have a19 := t_add e34x9 ro_109_19 i29 rfl; have oc := oc_335_109; (first | exact zt_a (by omega) (by omega) (by omega) | omega)))))); have r54 := (show z54 = s.1 113 (bs s + (y25_1).toNatClampNeg) from e54.trans ((congrFun (hFc25.1 113 rfl) _).trans (congrArg (s.1 113) (show z53.toNatClampNeg = bs s + (y25_1).toNatClampNeg from (by show z53.toInt.toNat = (s.2.2.1 109 19).toInt.toNat + (y25_1).toInt.toNat; rw [← e_109_19]; (first | have a0 := oa4 ro_109_20 ro_109_19 i29 i104 | ((first | have a0 := in_u ro_109_20 | (have a0 := ro_109_20; unfold In at a0)); (first | have a1 := in_u ro_109_19 | (have a1 := ro_109_19; unfold In at a1)); (first | have a2 := in_u i29 | (have a2 := i29; unfold In at a2)); (first | have a3 := in_u i104 | (have a3 := i104; unfold In at a3)))); have a4 := t_add e104 i29 (in_c 1 rfl) rfl; (first | have a5 := oa2 ((in_c 1 rfl)) i99 | ((first | have a5 := in_u ((in_c 1 rfl)) | (have a5 := (in_c 1 rfl); unfold In at a5)); (first | have a6 := in_u i99 | (have a6 := i99; unfold In at a6)))); have a7 := t_add e99 ro_109_19 i29 rfl; (first | have a8 := in_u i85 | (have a8 := i85; unfold In at a8)); have a9 := t_add e85 ro_109_19 i29 rfl; (first | have a10 := in_u i67 | (have a10 := i67; unfold In at a10)); have a11 := t_add e67 ro_109_19 i29 rfl; (first | have a12 := in_u i53 | (have a12 := i53; unfold In at a12)); have a13 := t_add e53 ro_109_19 i29 rfl; (first | have a14 := in_u i34x34 | (have a14 := i34x34; unfold In at a14)); have a15 := t_add e34x34 ro_109_19 i29 rfl; (first | have a16 := in_u i34x23 | (have a16 := i34x23; unfold In at a16)); have a17 := t_add e34x23 ro_109_19 i29 rfl; (first | have a18 := in_u i34x9 | (have a18 := i34x9; unfold In at a18)); have a19 := t_add e34x9 ro_109_19 i29 rfl; have oc := oc_335_109; (first | exact zt_a (by omega) (by omega) (by omega) | omega)))))); have r68 := (show z68 = s.1 114 (bs s + (y25_1).toNatClampNeg) from e68.trans ((congrFun (hFc25.1 114 rfl) _).trans (congrArg (s.1 114) (show z67.toNatClampNeg = bs s + (y25_1).toNatClampNeg from (by show z67.toInt.toNat = (s.2.2.1 109 19).toInt.toNat + (y25_1).toInt.toNat; rw [← e_109_19]; (first | have a0 := oa4 ro_109_20 ro_109_19 i29 i104 | ((first | have a0 := in_u ro_109_20 | (have a0 := ro_109_20; unfold In at a0)); (first | have a1 := in_u ro_109_19 | (have a1 := ro_109_19; unfold In at a1)); (first | have a2 := in_u i29 | (have a2 := i29; unfold In at a2)); (first | have a3 := in_u i104 | (have a3 := i104; unfold In at a3)))); have a4 := t_add e104 i29 (in_c 1 rfl) rfl; (first | have a5 := oa2 ((in_c 1 rfl)) i99 | ((first | have a5 := in_u ((in_c 1 rfl)) | (have a5 := (in_c 1 rfl); unfold In at a5)); (first | have a6 := in_u i99 | (have a6 := i99; unfold In at a6)))); have a7 := t_add e99 ro_109_19 i29 rfl; (first | have a8 := in_u i85 | (have a8 := i85; unfold In at a8)); have a9 := t_add e85 ro_109_19 i29 rfl; (first | have a10 := in_u i67 | (have a10 := i67; unfold In at a10)); have a11 := t_add e67 ro_109_19 i29 rfl; (first | have a12 := in_u i53 | (have a12 := i53; unfold In at a12)); have a13 := t_add e53 ro_109_19 i29 rfl; (first | have a14 := in_u i34x34 | (have a14 := i34x34; unfold In at a14)); have a15 := t_add e34x34 ro_109_19 i29 rfl; (first | have a16 := in_u i34x23 | (have a16 := i34x23; unfold In at a16)); have a17 := t_add e34x23 ro_109_19 i29 rfl; (first | have a18 := in_u i34x9 | (have a18 := i34x9; unfold In at a18)); have a19 := t_add e34x9 ro_109_19 i29 rfl; have oc := oc_335_109; (first | exact zt_a (by omega) (by omega) (by omega) | omega)))))); have q86 : z86 = z68 := (by rw [e86, sI_p rfl, e85.trans e67.symm]; exact e68.symm); have q100 : z100 = z54 := (by rw [e100, sI_p rfl, e99.trans e53.symm]; exact e54.symm); subst q86; subst q100; rw [sI_q, sI_q]; exact bsk_s hI g25_1 (show (y25_1).toNatClampNeg < 160 from (by show (y25_1).toInt.toNat < 160; (first | have a0 := oa4 ro_109_20 ro_109_19 i29 i104 | ((first | have a0 := in_u ro_109_20 | (have a0 := ro_109_20; unfold In at a0)); (first | have a1 := in_u ro_109_19 | (have a1 := ro_109_19; unfold In at a1)); (first | have a2 := in_u i29 | (have a2 := i29; unfold In at a2)); (first | have a3 := in_u i104 | (have a3 := i104; unfold In at a3)))); have a4 := t_add e104 i29 (in_c 1 rfl) rfl; (first | have a5 := oa2 ((in_c 1 rfl)) i99 | ((first | have a5 := in_u ((in_c 1 rfl)) | (have a5 := (in_c 1 rfl); unfold In at a5)); (first | have a6 := in_u i99 | (have a6 := i99; unfold In at a6)))); have a7 := t_add e99 ro_109_19 i29 rfl; (first | have a8 := in_u i85 | (have a8 := i85; unfold In at a8)); have a9 := t_add e85 ro_109_19 i29 rfl; (first | have a10 := in_u i67 | (have a10 := i67; unfold In at a10)); have a11 := t_add e67 ro_109_19 i29 rfl; (first | have a12 := in_u i53 | (have a12 := i53; unfold In at a12)); have a13 := t_add e53 ro_109_19 i29 rfl; (first | have a14 := in_u i34x34 | (have a14 := i34x34; unfold In at a14)); have a15 := t_add e34x34 ro_109_19 i29 rfl; (first | have a16 := in_u i34x23 | (have a16 := i34x23; unfold In at a16)); have a17 := t_add e34x23 ro_109_19 i29 rfl; (first | have a18 := in_u i34x9 | (have a18 := i34x9; unfold In at a18)); have a19 := t_add e34x9 ro_109_19 i29 rfl; have oc := oc_335_109; (first | exact zt_l (by decide) (by omega) | omega))) r10 (by (first | have a0 := oa4 ro_109_20 ro_109_19 i29 i104 | ((first | have a0 := in_u ro_109_20 | (have a0 := ro_109_20; unfold In at a0)); (first | have a1 := in_u ro_109_19 | (have a1 := ro_109_19; unfold In at a1)); (first | have a2 := in_u i29 | (have a2 := i29; unfold In at a2)); (first | have a3 := in_u i104 | (have a3 := i104; unfold In at a3)))); have a4 := t_add e104 i29 (in_c 1 rfl) rfl; (first | have a5 := oa2 ((in_c 1 rfl)) i99 | ((first | have a5 := in_u ((in_c 1 rfl)) | (have a5 := (in_c 1 rfl); unfold In at a5)); (first | have a6 := in_u i99 | (have a6 := i99; unfold In at a6)))); have a7 := t_add e99 ro_109_19 i29 rfl; (first | have a8 := in_u i85 | (have a8 := i85; unfold In at a8)); have a9 := t_add e85 ro_109_19 i29 rfl; (first | have a10 := in_u i67 | (have a10 := i67; unfold In at a10)); have a11 := t_add e67 ro_109_19 i29 rfl; (first | have a12 := in_u i53 | (have a12 := i53; unfold In at a12)); have a13 := t_add e53 ro_109_19 i29 rfl; (first | have a14 := in_u i34x34 | (have a14 := i34x34; unfold In at a14)); have a15 := t_add e34x34 ro_109_19 i29 rfl; (first | have a16 := in_u i34x23 | (have a16 := i34x23; unfold In at a16)); have a17 := t_add e34x23 ro_109_19 i29 rfl; (first | have a18 := in_u i34x9 | (have a18 := i34x9; unfold In at a18)); have a19 := t_add e34x9 ro_109_19 i29 rfl; have oc := oc_335_109; omega) r54 r68 i54 i68 (by rw [e54, e68, e53.trans e34x23.symm, e67.trans e34x34.symm, ← e34x24, ← e34x35]; exact c34x36) e56 e69 e70 (by rw [e88, sI_q]) e101 e102
              exact gg_w (by first | exact Nat.le_add_right _ _ | exact gw2 | exact gw3 | exact gwe rfl | exact gwf rfl | exact gwg rfl | exact gwh rfl | omega) (gg_f (gf_cons rfl (gf_cons rfl gf_nil)) (ih25 (sI (sI sc25 138 z54.toNatClampNeg z70) 138 z86.toNatClampNeg z102) z104 hI103 (fr_sI rfl (fr_sI rfl hFc25)) (in_w 0 160 i104 rfl) n25 n25a (m_up mm25 (t_add e104 i29 (in_c 1 rfl) rfl) (in_w 1 1 (in_c 1 rfl) rfl))))
  have ct2 : ∀ (k2 : Nat) (sc2 : GS) (y2_1 : Int32), Inv sc2 → Fr fm_335 s sc2 → (In y2_1 0 32) → (∀ k : Nat, (k : Int) < (y2_1).toInt → sc2.1 138 k = Int32.ofInt 0) → 32 - (y2_1).toInt < (k2 : Int) → GG Z (d - 1) 335 post (gx xp) (144902 + k2 * 900) 2 (fun j => xlook j [(0, .ref (A 109)), (1, .int y2_1)]) [] (WW Z A sc2 ++ ex) 0 0 := by
    intro k2
    induction k2 with
    | zero => intro sc2 y2_1 hIc2 hFc2 j2_1 g2_0 mm2; exact m_no mm2 j2_1 rfl
    | succ k2 ih2 =>
      intro sc2 y2_1 hIc2 hFc2 j2_1 g2_0 mm2
      refine gg_w (M := 144902 + k2 * 900 + 900) gws ?_
      refine g_iload_n 3 (gd rfl) rfl rfl ?_
      refine g_aload_n 4 (gd rfl) rfl rfl ?_
      refine g_getI 7 (gd rfl) rfl rfl rfl (fun z4 e4 => ?_)
      have q4 : u_109_20 = z4 := (fr_F e_109_20 hFc2 rfl).trans e4.symm
      subst q4
      refine g_cmp_ge 10 23 (gd rfl) rfl rfl (fun c7 => ?_) (fun c7 => ?_)
      · skip
        refine g_iconst 0 24 (gd rfl) rfl rfl ?_
        refine g_istore_n 25 (gd rfl) rfl (Nat.le_of_ble_eq_true rfl) ?_
        have n25 : BSF (sc2.1 138) u_109_20.toInt := by (intro a b ha hb; exfalso; rw [g2_0 a (by (first | have a0 := oa4 ro_109_20 ro_109_19 j2_1 ((in_c 0 rfl)) | ((first | have a0 := in_u ro_109_20 | (have a0 := ro_109_20; unfold In at a0)); (first | have a1 := in_u ro_109_19 | (have a1 := ro_109_19; unfold In at a1)); (first | have a2 := in_u j2_1 | (have a2 := j2_1; unfold In at a2)); (first | have a3 := in_u ((in_c 0 rfl)) | (have a3 := (in_c 0 rfl); unfold In at a3)))); have oc := oc_335_109; omega), show (Int32.ofInt 0) = (0 : Int32) from rfl, bt_z] at hb; cases hb)
        have n25a : BSK (gvZ s) (s.2.2.1 109 20).toInt ((Int32.ofInt 0)).toNatClampNeg ((sc2).1 138) := by exact bsk_0 (fun u hu => g2_0 u (by rw [← e_109_20] at hu; (first | have a0 := oa4 ro_109_20 ro_109_19 j2_1 ((in_c 0 rfl)) | ((first | have a0 := in_u ro_109_20 | (have a0 := ro_109_20; unfold In at a0)); (first | have a1 := in_u ro_109_19 | (have a1 := ro_109_19; unfold In at a1)); (first | have a2 := in_u j2_1 | (have a2 := j2_1; unfold In at a2)); (first | have a3 := in_u ((in_c 0 rfl)) | (have a3 := (in_c 0 rfl); unfold In at a3)))); have oc := oc_335_109; omega))
        exact gg_w (by first | exact Nat.le_add_right _ _ | exact gw2 | exact gw3 | exact gwe rfl | exact gwf rfl | exact gwg rfl | exact gwh rfl | omega) (gg_f (gf_cons rfl (gf_cons rfl gf_nil)) (ct25 161 sc2 (Int32.ofInt 0) hIc2 hFc2 (in_w 0 160 (in_c 0 rfl) rfl) n25 n25a (m_in 161 (in_w 0 160 (in_c 0 rfl) rfl) rfl)))
      · skip
        have i7 := r_lt1 0 31 c7 j2_1 ro_109_20 rfl
        have i7a := r_lt2 1 32 c7 j2_1 ro_109_20 rfl
        refine g_aload_n 11 (gd rfl) rfl rfl ?_
        refine g_getA (q2 := 138) 14 (gd rfl) rfl rfl rfl rfl ?_
        refine g_iload_n 15 (gd rfl) rfl rfl ?_
        refine g_iconst 0 16 (gd rfl) rfl rfl ?_
        refine g_iastore 17 (gd rfl) rfl (n := 32) rfl (in_ix i7 rfl) ?_
        have hI16 := inv_sI (q := 138) (j := y2_1.toNatClampNeg) hIc2 rfl (in_w (-2147483648) 2147483647 (in_c 0 rfl) rfl)
        refine g_iinc 20 (gd rfl) rfl rfl (Nat.le_of_ble_eq_true rfl) (fun z17 e17 => ?_)
        have i17 := in_add 1 32 e17 i7 (in_c 1 rfl) rfl rfl
        refine g_goto 2 (gd rfl) rfl ?_
        have n2 : ∀ k : Nat, (k : Int) < (z17).toInt → (sI sc2 138 y2_1.toNatClampNeg (Int32.ofInt 0)).1 138 k = Int32.ofInt 0 := by (intro k hk; rw [sI_q]; have e1 : y2_1.toNatClampNeg = y2_1.toInt.toNat := rfl; by_cases c : k = y2_1.toNatClampNeg; (rw [c, up_e]); (rw [up_n c]; exact g2_0 k (by (first | have a0 := oa4 i7a ro_109_19 i7 i17 | ((first | have a0 := in_u i7a | (have a0 := i7a; unfold In at a0)); (first | have a1 := in_u ro_109_19 | (have a1 := ro_109_19; unfold In at a1)); (first | have a2 := in_u i7 | (have a2 := i7; unfold In at a2)); (first | have a3 := in_u i17 | (have a3 := i17; unfold In at a3)))); have a4 := t_add e17 i7 (in_c 1 rfl) rfl; (first | have a5 := in_u ((in_c 1 rfl)) | (have a5 := (in_c 1 rfl); unfold In at a5)); have oc := oc_335_109; omega)))
        exact gg_w (by first | exact Nat.le_add_right _ _ | exact gw2 | exact gw3 | exact gwe rfl | exact gwf rfl | exact gwg rfl | exact gwh rfl | omega) (gg_f (gf_cons rfl (gf_cons rfl gf_nil)) (ih2 (sI sc2 138 y2_1.toNatClampNeg (Int32.ofInt 0)) z17 hI16 (fr_sI rfl hFc2) (in_w 0 32 i17 rfl) n2 (m_up mm2 (t_add e17 i7 (in_c 1 rfl) rfl) (in_w 1 1 (in_c 1 rfl) rfl))))
  refine g_enter2 (k := 335) (N := 175502) (by first | exact dq1 hd rfl | exact dq0 hd rfl | exact dq2 hd rfl | exact dq3 hd rfl | omega) rfl (Nat.le_of_ble_eq_true rfl) ?_
  refine g_iconst 0 1 (gd rfl) rfl rfl ?_
  refine g_istore_n 2 (gd rfl) rfl (Nat.le_of_ble_eq_true rfl) ?_
  have n2 : ∀ k : Nat, (k : Int) < ((Int32.ofInt 0)).toInt → s.1 138 k = Int32.ofInt 0 := by (intro k hk; exfalso; have h0 : (Int32.ofInt 0).toInt = 0 := rfl; omega)
  exact gg_w (by first | exact Nat.le_of_ble_eq_true rfl | omega) (gg_f (gf_cons rfl (gf_cons rfl gf_nil)) (ct2 33 s (Int32.ofInt 0) hI fr_rf (in_w 0 32 (in_c 0 rfl) rfl) n2 (m_in 33 (in_w 0 32 (in_c 0 rfl) rfl) rfl)))

theorem oc_266_9 : (Int32.ofInt (-1)).toInt = (-1) ∧ (Int32.ofInt 0).toInt = 0 ∧ (Int32.ofInt 1).toInt = 1 ∧ (Int32.ofInt 32).toInt = 32 := ⟨rfl, rfl, rfl, rfl⟩
/-- GraphHouse.flood -/
theorem f_266_9 {Z : AmZ} {A : Nat → Nat} {s : GS} {ex : va_W} {d : Nat} {X : AmX} {x1 : Int32} {x2 : Int32} (hd : 4 ≤ d) (hI : Inv s)  : GC Z d 266 [.ref (A 9), .int x1, .int x2] (WW Z A s ++ ex) 0 0 (fun v u => ∃ z : Int32, v = some (.int z) ∧ u = WW Z A s ++ ex ∧ In z (-2147483648) 2147483647 ∧ (∀ k, bt x1 k = true → bt z k = true) ∧ (FLD (s.1 9) x1 x2 z)) X := by
  intro post xp hP hX
  have ct8 : ∀ (k8 : Nat) (y8_3 : Int32) (y8_4 : Int32) (y8_5 : Int32), (In y8_5 0 32) → (∀ k, bt x1 k = true → bt y8_3 k = true) → (FLI (s.1 9) x1 x2 (y8_3) (y8_4) (y8_5).toInt) → 32 - (y8_5).toInt < (k8 : Int) → GG Z (d - 1) 266 post (gx xp) (1 + k8 * 900) 8 (fun j => xlook j [(0, .ref (A 9)), (1, .int x1), (2, .int x2), (3, .int y8_3), (4, .int y8_4), (5, .int y8_5)]) [] (WW Z A s ++ ex) 0 0 := by
    intro k8
    induction k8 with
    | zero => intro y8_3 y8_4 y8_5 j8_5 g8_0 g8_1 mm8; exact m_no mm8 j8_5 rfl
    | succ k8 ih8 =>
      intro y8_3 y8_4 y8_5 j8_5 g8_0 g8_1 mm8
      refine gg_w (M := 1 + k8 * 900 + 900) gws ?_
      refine g_iload 10 (gd rfl) rfl rfl ?_
      refine g_bipush 32 12 (gd rfl) rfl rfl ?_
      refine g_cmp_ge 15 62 (gd rfl) rfl rfl (fun c12 => ?_) (fun c12 => ?_)
      · skip
        have i12 := r_le2 32 32 c12 (in_c 32 rfl) j8_5 rfl
        refine g_iload_n 63 (gd rfl) rfl rfl ?_
        have n63 : ∀ k, bt x1 k = true → bt y8_3 k = true := by exact g8_0
        have n63a : FLD (s.1 9) x1 x2 y8_3 := by exact fli_e g8_1 (Or.inr (by (first | have a0 := in_u i12 | (have a0 := i12; unfold In at a0)); have oc := oc_266_9; omega))
        exact g_ireturn (gd rfl) rfl rfl (hP _ _ ⟨y8_3, rfl, rfl, in_w (-2147483648) 2147483647 (i_rng y8_3) rfl, n63, n63a⟩)
      · skip
        have i12 := r_lt1 0 31 c12 j8_5 (in_c 32 rfl) rfl
        refine g_iload 17 (gd rfl) rfl rfl ?_
        refine g_if_eq 20 62 (gd rfl) rfl rfl (fun c17 => ?_) (fun c17 => ?_)
        · skip
          have i17 := z_eq 0 0 c17 (i_rng y8_4) rfl
          refine g_iload_n 63 (gd rfl) rfl rfl ?_
          have n63 : ∀ k, bt x1 k = true → bt y8_3 k = true := by exact g8_0
          have n63a : FLD (s.1 9) x1 x2 y8_3 := by exact fli_e g8_1 (Or.inl c17)
          exact g_ireturn (gd rfl) rfl rfl (hP _ _ ⟨y8_3, rfl, rfl, in_w (-2147483648) 2147483647 (i_rng y8_3) rfl, n63, n63a⟩)
        · skip
          refine g_aload_n 21 (gd rfl) rfl rfl ?_
          refine g_iload 23 (gd rfl) rfl rfl ?_
          refine g_calls (As := [.int y8_4]) (r := [.ref (A 9)]) 26 (gd rfl) rfl rfl rfl rfl rfl (Nat.le_of_ble_eq_true rfl) (Nat.zero_le _) (Nat.zero_le _) (k_264n (by first | exact dq1 hd rfl | exact dq0 hd rfl | exact dq2 hd rfl | exact dq3 hd rfl | omega) c17) (fun v u h => ?_)
          obtain ⟨z23, rfl, rfl, i23, hb23, hl23⟩ := h
          show GG _ _ _ _ _ _ _ _ [.int z23, .ref (A 9)] _ _ _
          refine g_iaload 27 (gd rfl) rfl (n := 32) rfl (in_ix i23 rfl) (fun z26 e26 => ?_)
          refine g_iload_n 28 (gd rfl) rfl rfl ?_
          refine g_iand 29 (gd rfl) rfl (fun z28 e28 => ?_)
          refine g_iload_n 30 (gd rfl) rfl rfl ?_
          refine g_iconst (-1) 31 (gd rfl) rfl rfl ?_
          refine g_ixor 32 (gd rfl) rfl (fun z31 e31 => ?_)
          refine g_iand 33 (gd rfl) rfl (fun z32 e32 => ?_)
          refine g_istore 35 (gd rfl) rfl (Nat.le_of_ble_eq_true rfl) ?_
          refine g_iload 37 (gd rfl) rfl rfl ?_
          refine g_iload 39 (gd rfl) rfl rfl ?_
          refine g_iconst 1 40 (gd rfl) rfl rfl ?_
          refine g_isub 41 (gd rfl) rfl (fun z40 e40 => ?_)
          refine g_iand 42 (gd rfl) rfl (fun z41 e41 => ?_)
          refine g_istore 44 (gd rfl) rfl (Nat.le_of_ble_eq_true rfl) ?_
          refine g_iload 46 (gd rfl) rfl rfl ?_
          refine g_iload 48 (gd rfl) rfl rfl ?_
          refine g_ior 49 (gd rfl) rfl (fun z48 e48 => ?_)
          refine g_istore 51 (gd rfl) rfl (Nat.le_of_ble_eq_true rfl) ?_
          refine g_iload_n 52 (gd rfl) rfl rfl ?_
          refine g_iload 54 (gd rfl) rfl rfl ?_
          refine g_ior 55 (gd rfl) rfl (fun z54 e54 => ?_)
          refine g_istore_n 56 (gd rfl) rfl (Nat.le_of_ble_eq_true rfl) ?_
          refine g_iinc 59 (gd rfl) rfl rfl (Nat.le_of_ble_eq_true rfl) (fun z56 e56 => ?_)
          have i56 := in_add 1 32 e56 i12 (in_c 1 rfl) rfl rfl
          refine g_goto 8 (gd rfl) rfl ?_
          have n8 : ∀ k, bt x1 k = true → bt z54 k = true := by first | exact fun k h => h | exact fun k h => bt_orl e54 (g8_0 k h)
          have n8a : FLI (s.1 9) x1 x2 (z54) (z48) (z56).toInt := by exact fli_s g8_1 i23 hb23 hl23 e26 e28 e31 e32 e40 e41 e48 e54 (by (first | have a0 := oa2 i12 i56 | ((first | have a0 := in_u i12 | (have a0 := i12; unfold In at a0)); (first | have a1 := in_u i56 | (have a1 := i56; unfold In at a1)))); have a2 := t_add e56 i12 (in_c 1 rfl) rfl; (first | have a3 := in_u ((in_c 1 rfl)) | (have a3 := (in_c 1 rfl); unfold In at a3)); have oc := oc_266_9; omega)
          exact gg_w (by first | exact Nat.le_add_right _ _ | exact gw2 | exact gw3 | exact gwe rfl | exact gwf rfl | exact gwg rfl | exact gwh rfl | omega) (gg_f (gf_cons rfl (gf_cons rfl (gf_cons rfl (gf_cons rfl (gf_cons rfl (gf_cons rfl gf_nil)))))) (ih8  z54 z48 z56  (in_w 0 32 i56 rfl) n8 n8a (m_up mm8 (t_add e56 i12 (in_c 1 rfl) rfl) (in_w 1 1 (in_c 1 rfl) rfl))))
  refine g_enter2 (k := 266) (N := 30601) (by first | exact dq1 hd rfl | exact dq0 hd rfl | exact dq2 hd rfl | exact dq3 hd rfl | omega) rfl (Nat.le_of_ble_eq_true rfl) ?_
  refine g_iload_n 1 (gd rfl) rfl rfl ?_
  refine g_istore_n 2 (gd rfl) rfl (Nat.le_of_ble_eq_true rfl) ?_
  refine g_iload_n 3 (gd rfl) rfl rfl ?_
  refine g_istore 5 (gd rfl) rfl (Nat.le_of_ble_eq_true rfl) ?_
  refine g_iconst 0 6 (gd rfl) rfl rfl ?_
  refine g_istore 8 (gd rfl) rfl (Nat.le_of_ble_eq_true rfl) ?_
  have n8 : ∀ k, bt x1 k = true → bt x1 k = true := by first | exact fun k h => h | exact fun k h => bt_orl e54 (g8_0 k h)
  have n8a : FLI (s.1 9) x1 x2 (x1) (x1) ((Int32.ofInt 0)).toInt := by exact fli_0 rfl
  exact gg_w (by first | exact Nat.le_of_ble_eq_true rfl | omega) (gg_f (gf_cons rfl (gf_cons rfl (gf_cons rfl (gf_cons rfl (gf_cons rfl (gf_cons rfl gf_nil)))))) (ct8 33  x1 x1 (Int32.ofInt 0)  (in_w 0 32 (in_c 0 rfl) rfl) n8 n8a (m_in 33 (in_w 0 32 (in_c 0 rfl) rfl) rfl)))

theorem oc_266_39 : (Int32.ofInt (-1)).toInt = (-1) ∧ (Int32.ofInt 0).toInt = 0 ∧ (Int32.ofInt 1).toInt = 1 ∧ (Int32.ofInt 32).toInt = 32 := ⟨rfl, rfl, rfl, rfl⟩
/-- GraphHouse.flood -/
theorem f_266_39 {Z : AmZ} {A : Nat → Nat} {s : GS} {ex : va_W} {d : Nat} {X : AmX} {x1 : Int32} {x2 : Int32} (hd : 4 ≤ d) (hI : Inv s)  : GC Z d 266 [.ref (A 39), .int x1, .int x2] (WW Z A s ++ ex) 0 0 (fun v u => ∃ z : Int32, v = some (.int z) ∧ u = WW Z A s ++ ex ∧ In z (-2147483648) 2147483647 ∧ (∀ k, bt x1 k = true → bt z k = true) ∧ (FLD (s.1 39) x1 x2 z)) X := by
  intro post xp hP hX
  have ct8 : ∀ (k8 : Nat) (y8_3 : Int32) (y8_4 : Int32) (y8_5 : Int32), (In y8_5 0 32) → (∀ k, bt x1 k = true → bt y8_3 k = true) → (FLI (s.1 39) x1 x2 (y8_3) (y8_4) (y8_5).toInt) → 32 - (y8_5).toInt < (k8 : Int) → GG Z (d - 1) 266 post (gx xp) (1 + k8 * 900) 8 (fun j => xlook j [(0, .ref (A 39)), (1, .int x1), (2, .int x2), (3, .int y8_3), (4, .int y8_4), (5, .int y8_5)]) [] (WW Z A s ++ ex) 0 0 := by
    intro k8
    induction k8 with
    | zero => intro y8_3 y8_4 y8_5 j8_5 g8_0 g8_1 mm8; exact m_no mm8 j8_5 rfl
    | succ k8 ih8 =>
      intro y8_3 y8_4 y8_5 j8_5 g8_0 g8_1 mm8
      refine gg_w (M := 1 + k8 * 900 + 900) gws ?_
      refine g_iload 10 (gd rfl) rfl rfl ?_
      refine g_bipush 32 12 (gd rfl) rfl rfl ?_
      refine g_cmp_ge 15 62 (gd rfl) rfl rfl (fun c12 => ?_) (fun c12 => ?_)
      · skip
        have i12 := r_le2 32 32 c12 (in_c 32 rfl) j8_5 rfl
        refine g_iload_n 63 (gd rfl) rfl rfl ?_
        have n63 : ∀ k, bt x1 k = true → bt y8_3 k = true := by exact g8_0
        have n63a : FLD (s.1 39) x1 x2 y8_3 := by exact fli_e g8_1 (Or.inr (by (first | have a0 := in_u i12 | (have a0 := i12; unfold In at a0)); have oc := oc_266_39; omega))
        exact g_ireturn (gd rfl) rfl rfl (hP _ _ ⟨y8_3, rfl, rfl, in_w (-2147483648) 2147483647 (i_rng y8_3) rfl, n63, n63a⟩)
      · skip
        have i12 := r_lt1 0 31 c12 j8_5 (in_c 32 rfl) rfl
        refine g_iload 17 (gd rfl) rfl rfl ?_
        refine g_if_eq 20 62 (gd rfl) rfl rfl (fun c17 => ?_) (fun c17 => ?_)
        · skip
          have i17 := z_eq 0 0 c17 (i_rng y8_4) rfl
          refine g_iload_n 63 (gd rfl) rfl rfl ?_
          have n63 : ∀ k, bt x1 k = true → bt y8_3 k = true := by exact g8_0
          have n63a : FLD (s.1 39) x1 x2 y8_3 := by exact fli_e g8_1 (Or.inl c17)
          exact g_ireturn (gd rfl) rfl rfl (hP _ _ ⟨y8_3, rfl, rfl, in_w (-2147483648) 2147483647 (i_rng y8_3) rfl, n63, n63a⟩)
        · skip
          refine g_aload_n 21 (gd rfl) rfl rfl ?_
          refine g_iload 23 (gd rfl) rfl rfl ?_
          refine g_calls (As := [.int y8_4]) (r := [.ref (A 39)]) 26 (gd rfl) rfl rfl rfl rfl rfl (Nat.le_of_ble_eq_true rfl) (Nat.zero_le _) (Nat.zero_le _) (k_264n (by first | exact dq1 hd rfl | exact dq0 hd rfl | exact dq2 hd rfl | exact dq3 hd rfl | omega) c17) (fun v u h => ?_)
          obtain ⟨z23, rfl, rfl, i23, hb23, hl23⟩ := h
          show GG _ _ _ _ _ _ _ _ [.int z23, .ref (A 39)] _ _ _
          refine g_iaload 27 (gd rfl) rfl (n := 32) rfl (in_ix i23 rfl) (fun z26 e26 => ?_)
          refine g_iload_n 28 (gd rfl) rfl rfl ?_
          refine g_iand 29 (gd rfl) rfl (fun z28 e28 => ?_)
          refine g_iload_n 30 (gd rfl) rfl rfl ?_
          refine g_iconst (-1) 31 (gd rfl) rfl rfl ?_
          refine g_ixor 32 (gd rfl) rfl (fun z31 e31 => ?_)
          refine g_iand 33 (gd rfl) rfl (fun z32 e32 => ?_)
          refine g_istore 35 (gd rfl) rfl (Nat.le_of_ble_eq_true rfl) ?_
          refine g_iload 37 (gd rfl) rfl rfl ?_
          refine g_iload 39 (gd rfl) rfl rfl ?_
          refine g_iconst 1 40 (gd rfl) rfl rfl ?_
          refine g_isub 41 (gd rfl) rfl (fun z40 e40 => ?_)
          refine g_iand 42 (gd rfl) rfl (fun z41 e41 => ?_)
          refine g_istore 44 (gd rfl) rfl (Nat.le_of_ble_eq_true rfl) ?_
          refine g_iload 46 (gd rfl) rfl rfl ?_
          refine g_iload 48 (gd rfl) rfl rfl ?_
          refine g_ior 49 (gd rfl) rfl (fun z48 e48 => ?_)
          refine g_istore 51 (gd rfl) rfl (Nat.le_of_ble_eq_true rfl) ?_
          refine g_iload_n 52 (gd rfl) rfl rfl ?_
          refine g_iload 54 (gd rfl) rfl rfl ?_
          refine g_ior 55 (gd rfl) rfl (fun z54 e54 => ?_)
          refine g_istore_n 56 (gd rfl) rfl (Nat.le_of_ble_eq_true rfl) ?_
          refine g_iinc 59 (gd rfl) rfl rfl (Nat.le_of_ble_eq_true rfl) (fun z56 e56 => ?_)
          have i56 := in_add 1 32 e56 i12 (in_c 1 rfl) rfl rfl
          refine g_goto 8 (gd rfl) rfl ?_
          have n8 : ∀ k, bt x1 k = true → bt z54 k = true := by first | exact fun k h => h | exact fun k h => bt_orl e54 (g8_0 k h)
          have n8a : FLI (s.1 39) x1 x2 (z54) (z48) (z56).toInt := by exact fli_s g8_1 i23 hb23 hl23 e26 e28 e31 e32 e40 e41 e48 e54 (by (first | have a0 := oa2 i12 i56 | ((first | have a0 := in_u i12 | (have a0 := i12; unfold In at a0)); (first | have a1 := in_u i56 | (have a1 := i56; unfold In at a1)))); have a2 := t_add e56 i12 (in_c 1 rfl) rfl; (first | have a3 := in_u ((in_c 1 rfl)) | (have a3 := (in_c 1 rfl); unfold In at a3)); have oc := oc_266_39; omega)
          exact gg_w (by first | exact Nat.le_add_right _ _ | exact gw2 | exact gw3 | exact gwe rfl | exact gwf rfl | exact gwg rfl | exact gwh rfl | omega) (gg_f (gf_cons rfl (gf_cons rfl (gf_cons rfl (gf_cons rfl (gf_cons rfl (gf_cons rfl gf_nil)))))) (ih8  z54 z48 z56  (in_w 0 32 i56 rfl) n8 n8a (m_up mm8 (t_add e56 i12 (in_c 1 rfl) rfl) (in_w 1 1 (in_c 1 rfl) rfl))))
  refine g_enter2 (k := 266) (N := 30601) (by first | exact dq1 hd rfl | exact dq0 hd rfl | exact dq2 hd rfl | exact dq3 hd rfl | omega) rfl (Nat.le_of_ble_eq_true rfl) ?_
  refine g_iload_n 1 (gd rfl) rfl rfl ?_
  refine g_istore_n 2 (gd rfl) rfl (Nat.le_of_ble_eq_true rfl) ?_
  refine g_iload_n 3 (gd rfl) rfl rfl ?_
  refine g_istore 5 (gd rfl) rfl (Nat.le_of_ble_eq_true rfl) ?_
  refine g_iconst 0 6 (gd rfl) rfl rfl ?_
  refine g_istore 8 (gd rfl) rfl (Nat.le_of_ble_eq_true rfl) ?_
  have n8 : ∀ k, bt x1 k = true → bt x1 k = true := by first | exact fun k h => h | exact fun k h => bt_orl e54 (g8_0 k h)
  have n8a : FLI (s.1 39) x1 x2 (x1) (x1) ((Int32.ofInt 0)).toInt := by exact fli_0 rfl
  exact gg_w (by first | exact Nat.le_of_ble_eq_true rfl | omega) (gg_f (gf_cons rfl (gf_cons rfl (gf_cons rfl (gf_cons rfl (gf_cons rfl (gf_cons rfl gf_nil)))))) (ct8 33  x1 x1 (Int32.ofInt 0)  (in_w 0 32 (in_c 0 rfl) rfl) n8 n8a (m_in 33 (in_w 0 32 (in_c 0 rfl) rfl) rfl)))

theorem oc_42_60_9 : (Int32.ofInt (-1)).toInt = (-1) ∧ (Int32.ofInt 0).toInt = 0 ∧ (Int32.ofInt 1).toInt = 1 ∧ (Int32.ofInt 32).toInt = 32 := ⟨rfl, rfl, rfl, rfl⟩
/-- GraphHouse$Colours.growClique -/
theorem f_42_60_9_r {Z : AmZ} {A : Nat → Nat} {ex : va_W} (kk : Nat) : ∀ {s : GS} {d : Nat} {X : AmX} {x2 : Int32} {x3 : Int32} {x4 : Int32}, 5 + kk * 3 ≤ d → Inv s → In x4 0 32 → SYR (s.1 9) → GRP (s.1 9) x2 x3 (x4).toInt → 32 - (x4).toInt < (kk : Int) → GC Z d 42 [.ref (A 60), .ref (A 9), .int x2, .int x3, .int x4] (WW Z A s ++ ex) 0 0 (fun v u => ∃ t : GS, Inv t ∧ Fr fm_42_60_9 s t ∧ v = none ∧ u = WW Z A t ++ ex ∧ (GRW (s.1 9) x2 x3 (s.2.2.1 60 1) ((t).2.2.1 60 1))) X := by
  induction kk with
  | zero => intro s d X x2 x3 x4 hd hI h4 q_0 q_1 hm; exact m_no hm h4 rfl
  | succ kk ih =>
    intro s d X x2 x3 x4 hd hI h4 q_0 q_1 hm
    intro post xp hP hX
    have ct34 : ∀ (k34 : Nat) (sc34 : GS) (y34_5 : Int32) (y34_6 : Int32), Inv sc34 → Fr fm_42_60_9 s sc34 → (In x4 0 31) → (In y34_5 0 32) → (GRL (s.1 9) x2 x3 (y34_6) (s.2.2.1 60 1) ((sc34).2.2.1 60 1)) → (((y34_5).toInt = (cb x2 : Int))) → ((y34_6.toBitVec.toNat : Nat) : Int) < (k34 : Int) → GG Z (d - 1) 42 post (gx xp) (1 + k34 * 900) 34 (fun j => xlook j [(0, .ref (A 60)), (1, .ref (A 9)), (2, .int x2), (3, .int x3), (4, .int x4), (5, .int y34_5), (6, .int y34_6)]) [] (WW Z A sc34 ++ ex) 0 0 := by
      intro k34
      induction k34 with
      | zero => intro sc34 y34_5 y34_6 hIc34 hFc34 j34_4 j34_5 g34_0 g34_1 mm34; exact absurd mm34 (Int.not_lt.mpr (Int.natCast_nonneg _))
      | succ k34 ih34 =>
        intro sc34 y34_5 y34_6 hIc34 hFc34 j34_4 j34_5 g34_0 g34_1 mm34
        refine gg_w (M := 1 + k34 * 900 + 900) gws ?_
        refine g_iload 36 (gd rfl) rfl rfl ?_
        refine g_if_eq 39 99 (gd rfl) rfl rfl (fun c36 => ?_) (fun c36 => ?_)
        · skip
          have i36 := z_eq 0 0 c36 (i_rng y34_6) rfl
          have n99 : GRW (s.1 9) x2 x3 (s.2.2.1 60 1) ((sc34).2.2.1 60 1) := by exact grl_x g34_0 q_1 (Or.inl c36)
          exact g_return (gd rfl) rfl (hP _ _ ⟨sc34, hIc34, hFc34, rfl, rfl, n99⟩)
        · skip
          refine g_iload 41 (gd rfl) rfl rfl ?_
          refine g_iload 43 (gd rfl) rfl rfl ?_
          refine g_calls (As := [.int y34_6]) (r := [.int y34_5]) 46 (gd rfl) rfl rfl rfl rfl rfl (Nat.le_of_ble_eq_true rfl) (Nat.zero_le _) (Nat.zero_le _) (f_414 (by first | exact dq1 hd rfl | exact dq0 hd rfl | exact dq2 hd rfl | exact dq3 hd rfl | omega) hIc34 ) (fun v u h => ?_)
          obtain ⟨z43, rfl, rfl, i43, p43⟩ := h
          show GG _ _ _ _ _ _ _ _ [.int z43, .int y34_5] _ _ _
          refine g_iadd 47 (gd rfl) rfl (fun z46 e46 => ?_)
          have i46 := in_add 0 64 e46 j34_5 i43 rfl rfl
          refine g_aload_n 48 (gd rfl) rfl rfl ?_
          refine g_getI 51 (gd rfl) rfl rfl rfl (fun z48 e48 => ?_)
          refine g_calls (As := [.int z48]) (r := [.int z46]) 54 (gd rfl) rfl rfl rfl rfl rfl (Nat.le_of_ble_eq_true rfl) (Nat.zero_le _) (Nat.zero_le _) (f_414 (by first | exact dq1 hd rfl | exact dq0 hd rfl | exact dq2 hd rfl | exact dq3 hd rfl | omega) hIc34 ) (fun v u h => ?_)
          obtain ⟨z51, rfl, rfl, i51, p51⟩ := h
          show GG _ _ _ _ _ _ _ _ [.int z51, .int z46] _ _ _
          refine g_cmp_gt 57 58 (gd rfl) rfl rfl (fun c54 => ?_) (fun c54 => ?_)
          · skip
            have i54 := r_lt2 1 64 c54 i51 i46 rfl
            refine g_iload 60 (gd rfl) rfl rfl ?_
            refine g_calls (As := [.int y34_6]) (r := []) 63 (gd rfl) rfl rfl rfl rfl rfl (Nat.le_of_ble_eq_true rfl) (Nat.zero_le _) (Nat.zero_le _) (k_264n (by first | exact dq1 hd rfl | exact dq0 hd rfl | exact dq2 hd rfl | exact dq3 hd rfl | omega) c36) (fun v u h => ?_)
            obtain ⟨z60, rfl, rfl, i60, hb60, hl60⟩ := h
            show GG _ _ _ _ _ _ _ _ [.int z60] _ _ _
            refine g_istore 65 (gd rfl) rfl (Nat.le_of_ble_eq_true rfl) ?_
            refine g_aload_n 66 (gd rfl) rfl rfl ?_
            refine g_aload_n 67 (gd rfl) rfl rfl ?_
            refine g_iload_n 68 (gd rfl) rfl rfl ?_
            refine g_iconst 1 69 (gd rfl) rfl rfl ?_
            refine g_iload 71 (gd rfl) rfl rfl ?_
            refine g_ishl 72 (gd rfl) rfl (fun z71 e71 => ?_)
            refine g_ior 73 (gd rfl) rfl (fun z72 e72 => ?_)
            refine g_iload 75 (gd rfl) rfl rfl ?_
            refine g_aload_n 76 (gd rfl) rfl rfl ?_
            refine g_iload 78 (gd rfl) rfl rfl ?_
            refine g_iaload 79 (gd rfl) rfl (n := 32) rfl (in_ix i60 rfl) (fun z78 e78 => ?_)
            refine g_iand 80 (gd rfl) rfl (fun z79 e79 => ?_)
            refine g_iload 82 (gd rfl) rfl rfl ?_
            refine g_iconst 1 83 (gd rfl) rfl rfl ?_
            refine g_iadd 84 (gd rfl) rfl (fun z83 e83 => ?_)
            have i83 := in_add 1 32 e83 j34_4 (in_c 1 rfl) rfl rfl
            have p84 : SYR (sc34.1 9) := by rw [hFc34.1 9 rfl]; exact q_0
            have p84a : GRP (sc34.1 9) z72 z79 (z83).toInt := by rw [hFc34.1 9 rfl, show (z83).toInt = (x4).toInt + 1 from (by (first | have a0 := oa4 j34_4 j34_5 i60 i83 | ((first | have a0 := in_u j34_4 | (have a0 := j34_4; unfold In at a0)); (first | have a1 := in_u j34_5 | (have a1 := j34_5; unfold In at a1)); (first | have a2 := in_u i60 | (have a2 := i60; unfold In at a2)); (first | have a3 := in_u i83 | (have a3 := i83; unfold In at a3)))); have a4 := t_add e83 j34_4 (in_c 1 rfl) rfl; (first | have a5 := oa2 ((in_c 1 rfl)) i54 | ((first | have a5 := in_u ((in_c 1 rfl)) | (have a5 := (in_c 1 rfl); unfold In at a5)); (first | have a6 := in_u i54 | (have a6 := i54; unfold In at a6)))); have a7 := t_add e46 j34_5 i43 rfl; (first | have a8 := in_u i43 | (have a8 := i43; unfold In at a8)); have oc := oc_42_60_9; omega)]; exact grp_s g34_0 q_1 q_0 hb60 i60 e71 e72 (e78.trans (congrFun (hFc34.1 9 rfl) _)) e79
            have n84 : 32 - (z83).toInt < ((kk : Nat) : Int) := by (first | have a0 := oa4 j34_4 j34_5 i60 i83 | ((first | have a0 := in_u j34_4 | (have a0 := j34_4; unfold In at a0)); (first | have a1 := in_u j34_5 | (have a1 := j34_5; unfold In at a1)); (first | have a2 := in_u i60 | (have a2 := i60; unfold In at a2)); (first | have a3 := in_u i83 | (have a3 := i83; unfold In at a3)))); have a4 := t_add e83 j34_4 (in_c 1 rfl) rfl; (first | have a5 := oa2 ((in_c 1 rfl)) i54 | ((first | have a5 := in_u ((in_c 1 rfl)) | (have a5 := (in_c 1 rfl); unfold In at a5)); (first | have a6 := in_u i54 | (have a6 := i54; unfold In at a6)))); have a7 := t_add e46 j34_5 i43 rfl; (first | have a8 := in_u i43 | (have a8 := i43; unfold In at a8)); have oc := oc_42_60_9; omega
            refine g_callv (X := _) (As := [.ref (A 9), .int z72, .int z79, .int z83]) (r := []) (b := A 60) (q := 60) 87 (gd rfl) rfl rfl rfl rfl rfl (ww_o rfl) (Nat.le_of_ble_eq_true rfl) (Nat.zero_le _) (Nat.zero_le _) (ih (by omega) hIc34 (in_w 0 32 i83 rfl) p84 p84a n84) (fun e u h => h) (fun v u h => ?_)
            obtain ⟨s84, hI84, hF84, rfl, rfl, p84b⟩ := h
            show GG _ _ _ _ _ _ _ _ [] _ _ _
            refine g_iload 89 (gd rfl) rfl rfl ?_
            refine g_iload 91 (gd rfl) rfl rfl ?_
            refine g_iconst 1 92 (gd rfl) rfl rfl ?_
            refine g_isub 93 (gd rfl) rfl (fun z92 e92 => ?_)
            refine g_iand 94 (gd rfl) rfl (fun z93 e93 => ?_)
            refine g_istore 96 (gd rfl) rfl (Nat.le_of_ble_eq_true rfl) ?_
            refine g_goto 34 (gd rfl) rfl ?_
            have n34 : GRL (s.1 9) x2 x3 (z93) (s.2.2.1 60 1) ((s84).2.2.1 60 1) := by exact grl_s g34_0 q_1 hb60 hl60 i60 e71 e72 (e78.trans (congrFun (hFc34.1 9 rfl) _)) e79 e92 e93 (by have h9 := p84b; rw [hFc34.1 9 rfl] at h9; exact h9)
            have n34a : ((y34_5).toInt = (cb x2 : Int)) := by exact g34_1
            exact gg_w (by first | exact Nat.le_add_right _ _ | exact gw2 | exact gw3 | exact gwe rfl | exact gwf rfl | exact gwg rfl | exact gwh rfl | omega) (gg_f (gf_cons rfl (gf_cons rfl (gf_cons rfl (gf_cons rfl (gf_cons rfl (gf_cons rfl (gf_cons rfl gf_nil))))))) (ih34 s84 y34_5 z93 hI84 (fr_tr rfl hFc34 hF84) (in_w 0 31 j34_4 rfl) (in_w 0 32 j34_5 rfl) n34 n34a (mb e93 e92 c36 mm34)))
          · skip
            have i54 := r_le1 0 32 c54 i46 i51 rfl
            have n57 : GRW (s.1 9) x2 x3 (s.2.2.1 60 1) ((sc34).2.2.1 60 1) := by exact grl_x g34_0 q_1 (Or.inr (by rw [← e48]; have h9 := g34_1; (first | have a0 := oa3 j34_4 j34_5 i54 | ((first | have a0 := in_u j34_4 | (have a0 := j34_4; unfold In at a0)); (first | have a1 := in_u j34_5 | (have a1 := j34_5; unfold In at a1)); (first | have a2 := in_u i54 | (have a2 := i54; unfold In at a2)))); have a3 := t_add e46 j34_5 i43 rfl; (first | have a4 := in_u i43 | (have a4 := i43; unfold In at a4)); have oc := oc_42_60_9; omega))
            exact g_return (gd rfl) rfl (hP _ _ ⟨sc34, hIc34, hFc34, rfl, rfl, n57⟩)
    refine g_enter2 (k := 42) (N := 3865470567301) (by first | exact dq1 hd rfl | exact dq0 hd rfl | exact dq2 hd rfl | exact dq3 hd rfl | omega) rfl (Nat.le_of_ble_eq_true rfl) ?_
    refine g_iload_n 1 (gd rfl) rfl rfl ?_
    refine g_calls (As := [.int x2]) (r := []) 4 (gd rfl) rfl rfl rfl rfl rfl (Nat.le_of_ble_eq_true rfl) (Nat.zero_le _) (Nat.zero_le _) (f_414 (by first | exact dq1 hd rfl | exact dq0 hd rfl | exact dq2 hd rfl | exact dq3 hd rfl | omega) hI ) (fun v u h => ?_)
    obtain ⟨z1, rfl, rfl, i1, p1⟩ := h
    show GG _ _ _ _ _ _ _ _ [.int z1] _ _ _
    refine g_istore 6 (gd rfl) rfl (Nat.le_of_ble_eq_true rfl) ?_
    refine g_iload 8 (gd rfl) rfl rfl ?_
    refine g_aload_n 9 (gd rfl) rfl rfl ?_
    refine g_getI 12 (gd rfl) rfl rfl rfl (fun z9 e9 => ?_)
    refine g_calls (As := [.int z9]) (r := [.int z1]) 15 (gd rfl) rfl rfl rfl rfl rfl (Nat.le_of_ble_eq_true rfl) (Nat.zero_le _) (Nat.zero_le _) (f_414 (by first | exact dq1 hd rfl | exact dq0 hd rfl | exact dq2 hd rfl | exact dq3 hd rfl | omega) hI ) (fun v u h => ?_)
    obtain ⟨z12, rfl, rfl, i12, p12⟩ := h
    show GG _ _ _ _ _ _ _ _ [.int z12, .int z1] _ _ _
    refine g_cmp_le 18 23 (gd rfl) rfl rfl (fun c15 => ?_) (fun c15 => ?_)
    · skip
      refine g_iload 25 (gd rfl) rfl rfl ?_
      refine g_bipush 32 27 (gd rfl) rfl rfl ?_
      refine g_cmp_lt 30 31 (gd rfl) rfl rfl (fun c27 => ?_) (fun c27 => ?_)
      · skip
        have i27 := r_lt1 0 31 c27 h4 (in_c 32 rfl) rfl
        refine g_iload_n 32 (gd rfl) rfl rfl ?_
        refine g_istore 34 (gd rfl) rfl (Nat.le_of_ble_eq_true rfl) ?_
        have n34 : GRL (s.1 9) x2 x3 (x3) (s.2.2.1 60 1) ((s).2.2.1 60 1) := by exact grl_0 q_1 (Or.inr ⟨by rw [← e9]; (first | have a0 := oa2 i27 i1 | ((first | have a0 := in_u i27 | (have a0 := i27; unfold In at a0)); (first | have a1 := in_u i1 | (have a1 := i1; unfold In at a1)))); have oc := oc_42_60_9; omega, rfl⟩)
        have n34a : ((z1).toInt = (cb x2 : Int)) := by exact p1
        exact gg_w (by first | exact Nat.le_of_ble_eq_true rfl | omega) (gg_f (gf_cons rfl (gf_cons rfl (gf_cons rfl (gf_cons rfl (gf_cons rfl (gf_cons rfl (gf_cons rfl gf_nil))))))) (ct34 4294967296 s z1 x3 hI fr_rf (in_w 0 31 i27 rfl) (in_w 0 32 i1 rfl) n34 n34a (mb_in _)))
      · skip
        have i27 := r_le2 32 32 c27 (in_c 32 rfl) h4 rfl
        have n30 : GRW (s.1 9) x2 x3 (s.2.2.1 60 1) ((s).2.2.1 60 1) := by exact grw_d q_1 (by (first | have a0 := oa2 i27 i1 | ((first | have a0 := in_u i27 | (have a0 := i27; unfold In at a0)); (first | have a1 := in_u i1 | (have a1 := i1; unfold In at a1)))); have oc := oc_42_60_9; omega) (Or.inr ⟨by rw [← e9]; (first | have a0 := oa2 i27 i1 | ((first | have a0 := in_u i27 | (have a0 := i27; unfold In at a0)); (first | have a1 := in_u i1 | (have a1 := i1; unfold In at a1)))); have oc := oc_42_60_9; omega, rfl⟩)
        exact g_return (gd rfl) rfl (hP _ _ ⟨s, hI, fr_rf, rfl, rfl, n30⟩)
    · skip
      have i15 := r_lt1 0 31 c15 i12 i1 rfl
      have i15a := r_lt2 1 32 c15 i12 i1 rfl
      refine g_aload_n 19 (gd rfl) rfl rfl ?_
      refine g_iload_n 20 (gd rfl) rfl rfl ?_
      refine g_putI 23 (gd rfl) rfl rfl rfl rfl ?_
      have hI20 := inv_sF (q := 60) (j := 1) hI rfl (in_w (-2147483648) 2147483647 (i_rng x2) rfl)
      refine g_iload 25 (gd rfl) rfl rfl ?_
      refine g_bipush 32 27 (gd rfl) rfl rfl ?_
      refine g_cmp_lt 30 31 (gd rfl) rfl rfl (fun c27 => ?_) (fun c27 => ?_)
      · skip
        have i27 := r_lt1 0 31 c27 h4 (in_c 32 rfl) rfl
        refine g_iload_n 32 (gd rfl) rfl rfl ?_
        refine g_istore 34 (gd rfl) rfl (Nat.le_of_ble_eq_true rfl) ?_
        have n34 : GRL (s.1 9) x2 x3 (x3) (s.2.2.1 60 1) (((sF s 60 1 x2)).2.2.1 60 1) := by exact grl_0 q_1 (Or.inl ⟨by rw [← e9]; (first | have a0 := oa2 i27 i15a | ((first | have a0 := in_u i27 | (have a0 := i27; unfold In at a0)); (first | have a1 := in_u i15a | (have a1 := i15a; unfold In at a1)))); have oc := oc_42_60_9; omega, sF_get.symm⟩)
        have n34a : ((z1).toInt = (cb x2 : Int)) := by exact p1
        exact gg_w (by first | exact Nat.le_of_ble_eq_true rfl | omega) (gg_f (gf_cons rfl (gf_cons rfl (gf_cons rfl (gf_cons rfl (gf_cons rfl (gf_cons rfl (gf_cons rfl gf_nil))))))) (ct34 4294967296 (sF s 60 1 x2) z1 x3 hI20 (fr_sF rfl fr_rf) (in_w 0 31 i27 rfl) (in_w 0 32 i15a rfl) n34 n34a (mb_in _)))
      · skip
        have i27 := r_le2 32 32 c27 (in_c 32 rfl) h4 rfl
        have n30 : GRW (s.1 9) x2 x3 (s.2.2.1 60 1) (((sF s 60 1 x2)).2.2.1 60 1) := by exact grw_d q_1 (by (first | have a0 := oa2 i27 i15a | ((first | have a0 := in_u i27 | (have a0 := i27; unfold In at a0)); (first | have a1 := in_u i15a | (have a1 := i15a; unfold In at a1)))); have oc := oc_42_60_9; omega) (Or.inl ⟨by rw [← e9]; (first | have a0 := oa2 i27 i15a | ((first | have a0 := in_u i27 | (have a0 := i27; unfold In at a0)); (first | have a1 := in_u i15a | (have a1 := i15a; unfold In at a1)))); have oc := oc_42_60_9; omega, sF_get.symm⟩)
        exact g_return (gd rfl) rfl (hP _ _ ⟨(sF s 60 1 x2), hI20, (fr_sF rfl fr_rf), rfl, rfl, n30⟩)
theorem f_42_60_9 {Z : AmZ} {A : Nat → Nat} {s : GS} {ex : va_W} {d : Nat} {X : AmX} {x2 : Int32} {x3 : Int32} {x4 : Int32} (hd : 104 ≤ d) (hI : Inv s) (h4 : In x4 0 32) (q_0 : SYR (s.1 9)) (q_1 : GRP (s.1 9) x2 x3 (x4).toInt) : GC Z d 42 [.ref (A 60), .ref (A 9), .int x2, .int x3, .int x4] (WW Z A s ++ ex) 0 0 (fun v u => ∃ t : GS, Inv t ∧ Fr fm_42_60_9 s t ∧ v = none ∧ u = WW Z A t ++ ex ∧ (GRW (s.1 9) x2 x3 (s.2.2.1 60 1) ((t).2.2.1 60 1))) X := f_42_60_9_r 33 (by omega) hI h4 q_0 q_1 (m_in 33 h4 rfl)

theorem oc_42_60_39 : (Int32.ofInt (-1)).toInt = (-1) ∧ (Int32.ofInt 0).toInt = 0 ∧ (Int32.ofInt 1).toInt = 1 ∧ (Int32.ofInt 32).toInt = 32 := ⟨rfl, rfl, rfl, rfl⟩
/-- GraphHouse$Colours.growClique -/
theorem f_42_60_39_r {Z : AmZ} {A : Nat → Nat} {ex : va_W} (kk : Nat) : ∀ {s : GS} {d : Nat} {X : AmX} {x2 : Int32} {x3 : Int32} {x4 : Int32}, 5 + kk * 3 ≤ d → Inv s → In x4 0 32 → SYR (s.1 39) → GRP (s.1 39) x2 x3 (x4).toInt → 32 - (x4).toInt < (kk : Int) → GC Z d 42 [.ref (A 60), .ref (A 39), .int x2, .int x3, .int x4] (WW Z A s ++ ex) 0 0 (fun v u => ∃ t : GS, Inv t ∧ Fr fm_42_60_39 s t ∧ v = none ∧ u = WW Z A t ++ ex ∧ (GRW (s.1 39) x2 x3 (s.2.2.1 60 1) ((t).2.2.1 60 1))) X := by
  induction kk with
  | zero => intro s d X x2 x3 x4 hd hI h4 q_0 q_1 hm; exact m_no hm h4 rfl
  | succ kk ih =>
    intro s d X x2 x3 x4 hd hI h4 q_0 q_1 hm
    intro post xp hP hX
    have ct34 : ∀ (k34 : Nat) (sc34 : GS) (y34_5 : Int32) (y34_6 : Int32), Inv sc34 → Fr fm_42_60_39 s sc34 → (In x4 0 31) → (In y34_5 0 32) → (GRL (s.1 39) x2 x3 (y34_6) (s.2.2.1 60 1) ((sc34).2.2.1 60 1)) → (((y34_5).toInt = (cb x2 : Int))) → ((y34_6.toBitVec.toNat : Nat) : Int) < (k34 : Int) → GG Z (d - 1) 42 post (gx xp) (1 + k34 * 900) 34 (fun j => xlook j [(0, .ref (A 60)), (1, .ref (A 39)), (2, .int x2), (3, .int x3), (4, .int x4), (5, .int y34_5), (6, .int y34_6)]) [] (WW Z A sc34 ++ ex) 0 0 := by
      intro k34
      induction k34 with
      | zero => intro sc34 y34_5 y34_6 hIc34 hFc34 j34_4 j34_5 g34_0 g34_1 mm34; exact absurd mm34 (Int.not_lt.mpr (Int.natCast_nonneg _))
      | succ k34 ih34 =>
        intro sc34 y34_5 y34_6 hIc34 hFc34 j34_4 j34_5 g34_0 g34_1 mm34
        refine gg_w (M := 1 + k34 * 900 + 900) gws ?_
        refine g_iload 36 (gd rfl) rfl rfl ?_
        refine g_if_eq 39 99 (gd rfl) rfl rfl (fun c36 => ?_) (fun c36 => ?_)
        · skip
          have i36 := z_eq 0 0 c36 (i_rng y34_6) rfl
          have n99 : GRW (s.1 39) x2 x3 (s.2.2.1 60 1) ((sc34).2.2.1 60 1) := by exact grl_x g34_0 q_1 (Or.inl c36)
          exact g_return (gd rfl) rfl (hP _ _ ⟨sc34, hIc34, hFc34, rfl, rfl, n99⟩)
        · skip
          refine g_iload 41 (gd rfl) rfl rfl ?_
          refine g_iload 43 (gd rfl) rfl rfl ?_
          refine g_calls (As := [.int y34_6]) (r := [.int y34_5]) 46 (gd rfl) rfl rfl rfl rfl rfl (Nat.le_of_ble_eq_true rfl) (Nat.zero_le _) (Nat.zero_le _) (f_414 (by first | exact dq1 hd rfl | exact dq0 hd rfl | exact dq2 hd rfl | exact dq3 hd rfl | omega) hIc34 ) (fun v u h => ?_)
          obtain ⟨z43, rfl, rfl, i43, p43⟩ := h
          show GG _ _ _ _ _ _ _ _ [.int z43, .int y34_5] _ _ _
          refine g_iadd 47 (gd rfl) rfl (fun z46 e46 => ?_)
          have i46 := in_add 0 64 e46 j34_5 i43 rfl rfl
          refine g_aload_n 48 (gd rfl) rfl rfl ?_
          refine g_getI 51 (gd rfl) rfl rfl rfl (fun z48 e48 => ?_)
          refine g_calls (As := [.int z48]) (r := [.int z46]) 54 (gd rfl) rfl rfl rfl rfl rfl (Nat.le_of_ble_eq_true rfl) (Nat.zero_le _) (Nat.zero_le _) (f_414 (by first | exact dq1 hd rfl | exact dq0 hd rfl | exact dq2 hd rfl | exact dq3 hd rfl | omega) hIc34 ) (fun v u h => ?_)
          obtain ⟨z51, rfl, rfl, i51, p51⟩ := h
          show GG _ _ _ _ _ _ _ _ [.int z51, .int z46] _ _ _
          refine g_cmp_gt 57 58 (gd rfl) rfl rfl (fun c54 => ?_) (fun c54 => ?_)
          · skip
            have i54 := r_lt2 1 64 c54 i51 i46 rfl
            refine g_iload 60 (gd rfl) rfl rfl ?_
            refine g_calls (As := [.int y34_6]) (r := []) 63 (gd rfl) rfl rfl rfl rfl rfl (Nat.le_of_ble_eq_true rfl) (Nat.zero_le _) (Nat.zero_le _) (k_264n (by first | exact dq1 hd rfl | exact dq0 hd rfl | exact dq2 hd rfl | exact dq3 hd rfl | omega) c36) (fun v u h => ?_)
            obtain ⟨z60, rfl, rfl, i60, hb60, hl60⟩ := h
            show GG _ _ _ _ _ _ _ _ [.int z60] _ _ _
            refine g_istore 65 (gd rfl) rfl (Nat.le_of_ble_eq_true rfl) ?_
            refine g_aload_n 66 (gd rfl) rfl rfl ?_
            refine g_aload_n 67 (gd rfl) rfl rfl ?_
            refine g_iload_n 68 (gd rfl) rfl rfl ?_
            refine g_iconst 1 69 (gd rfl) rfl rfl ?_
            refine g_iload 71 (gd rfl) rfl rfl ?_
            refine g_ishl 72 (gd rfl) rfl (fun z71 e71 => ?_)
            refine g_ior 73 (gd rfl) rfl (fun z72 e72 => ?_)
            refine g_iload 75 (gd rfl) rfl rfl ?_
            refine g_aload_n 76 (gd rfl) rfl rfl ?_
            refine g_iload 78 (gd rfl) rfl rfl ?_
            refine g_iaload 79 (gd rfl) rfl (n := 32) rfl (in_ix i60 rfl) (fun z78 e78 => ?_)
            refine g_iand 80 (gd rfl) rfl (fun z79 e79 => ?_)
            refine g_iload 82 (gd rfl) rfl rfl ?_
            refine g_iconst 1 83 (gd rfl) rfl rfl ?_
            refine g_iadd 84 (gd rfl) rfl (fun z83 e83 => ?_)
            have i83 := in_add 1 32 e83 j34_4 (in_c 1 rfl) rfl rfl
            have p84 : SYR (sc34.1 39) := by rw [hFc34.1 39 rfl]; exact q_0
            have p84a : GRP (sc34.1 39) z72 z79 (z83).toInt := by rw [hFc34.1 39 rfl, show (z83).toInt = (x4).toInt + 1 from (by (first | have a0 := oa4 j34_4 j34_5 i60 i83 | ((first | have a0 := in_u j34_4 | (have a0 := j34_4; unfold In at a0)); (first | have a1 := in_u j34_5 | (have a1 := j34_5; unfold In at a1)); (first | have a2 := in_u i60 | (have a2 := i60; unfold In at a2)); (first | have a3 := in_u i83 | (have a3 := i83; unfold In at a3)))); have a4 := t_add e83 j34_4 (in_c 1 rfl) rfl; (first | have a5 := oa2 ((in_c 1 rfl)) i54 | ((first | have a5 := in_u ((in_c 1 rfl)) | (have a5 := (in_c 1 rfl); unfold In at a5)); (first | have a6 := in_u i54 | (have a6 := i54; unfold In at a6)))); have a7 := t_add e46 j34_5 i43 rfl; (first | have a8 := in_u i43 | (have a8 := i43; unfold In at a8)); have oc := oc_42_60_39; omega)]; exact grp_s g34_0 q_1 q_0 hb60 i60 e71 e72 (e78.trans (congrFun (hFc34.1 39 rfl) _)) e79
            have n84 : 32 - (z83).toInt < ((kk : Nat) : Int) := by (first | have a0 := oa4 j34_4 j34_5 i60 i83 | ((first | have a0 := in_u j34_4 | (have a0 := j34_4; unfold In at a0)); (first | have a1 := in_u j34_5 | (have a1 := j34_5; unfold In at a1)); (first | have a2 := in_u i60 | (have a2 := i60; unfold In at a2)); (first | have a3 := in_u i83 | (have a3 := i83; unfold In at a3)))); have a4 := t_add e83 j34_4 (in_c 1 rfl) rfl; (first | have a5 := oa2 ((in_c 1 rfl)) i54 | ((first | have a5 := in_u ((in_c 1 rfl)) | (have a5 := (in_c 1 rfl); unfold In at a5)); (first | have a6 := in_u i54 | (have a6 := i54; unfold In at a6)))); have a7 := t_add e46 j34_5 i43 rfl; (first | have a8 := in_u i43 | (have a8 := i43; unfold In at a8)); have oc := oc_42_60_39; omega
            refine g_callv (X := _) (As := [.ref (A 39), .int z72, .int z79, .int z83]) (r := []) (b := A 60) (q := 60) 87 (gd rfl) rfl rfl rfl rfl rfl (ww_o rfl) (Nat.le_of_ble_eq_true rfl) (Nat.zero_le _) (Nat.zero_le _) (ih (by omega) hIc34 (in_w 0 32 i83 rfl) p84 p84a n84) (fun e u h => h) (fun v u h => ?_)
            obtain ⟨s84, hI84, hF84, rfl, rfl, p84b⟩ := h
            show GG _ _ _ _ _ _ _ _ [] _ _ _
            refine g_iload 89 (gd rfl) rfl rfl ?_
            refine g_iload 91 (gd rfl) rfl rfl ?_
            refine g_iconst 1 92 (gd rfl) rfl rfl ?_
            refine g_isub 93 (gd rfl) rfl (fun z92 e92 => ?_)
            refine g_iand 94 (gd rfl) rfl (fun z93 e93 => ?_)
            refine g_istore 96 (gd rfl) rfl (Nat.le_of_ble_eq_true rfl) ?_
            refine g_goto 34 (gd rfl) rfl ?_
            have n34 : GRL (s.1 39) x2 x3 (z93) (s.2.2.1 60 1) ((s84).2.2.1 60 1) := by exact grl_s g34_0 q_1 hb60 hl60 i60 e71 e72 (e78.trans (congrFun (hFc34.1 39 rfl) _)) e79 e92 e93 (by have h9 := p84b; rw [hFc34.1 39 rfl] at h9; exact h9)
            have n34a : ((y34_5).toInt = (cb x2 : Int)) := by exact g34_1
            exact gg_w (by first | exact Nat.le_add_right _ _ | exact gw2 | exact gw3 | exact gwe rfl | exact gwf rfl | exact gwg rfl | exact gwh rfl | omega) (gg_f (gf_cons rfl (gf_cons rfl (gf_cons rfl (gf_cons rfl (gf_cons rfl (gf_cons rfl (gf_cons rfl gf_nil))))))) (ih34 s84 y34_5 z93 hI84 (fr_tr rfl hFc34 hF84) (in_w 0 31 j34_4 rfl) (in_w 0 32 j34_5 rfl) n34 n34a (mb e93 e92 c36 mm34)))
          · skip
            have i54 := r_le1 0 32 c54 i46 i51 rfl
            have n57 : GRW (s.1 39) x2 x3 (s.2.2.1 60 1) ((sc34).2.2.1 60 1) := by exact grl_x g34_0 q_1 (Or.inr (by rw [← e48]; have h9 := g34_1; (first | have a0 := oa3 j34_4 j34_5 i54 | ((first | have a0 := in_u j34_4 | (have a0 := j34_4; unfold In at a0)); (first | have a1 := in_u j34_5 | (have a1 := j34_5; unfold In at a1)); (first | have a2 := in_u i54 | (have a2 := i54; unfold In at a2)))); have a3 := t_add e46 j34_5 i43 rfl; (first | have a4 := in_u i43 | (have a4 := i43; unfold In at a4)); have oc := oc_42_60_39; omega))
            exact g_return (gd rfl) rfl (hP _ _ ⟨sc34, hIc34, hFc34, rfl, rfl, n57⟩)
    refine g_enter2 (k := 42) (N := 3865470567301) (by first | exact dq1 hd rfl | exact dq0 hd rfl | exact dq2 hd rfl | exact dq3 hd rfl | omega) rfl (Nat.le_of_ble_eq_true rfl) ?_
    refine g_iload_n 1 (gd rfl) rfl rfl ?_
    refine g_calls (As := [.int x2]) (r := []) 4 (gd rfl) rfl rfl rfl rfl rfl (Nat.le_of_ble_eq_true rfl) (Nat.zero_le _) (Nat.zero_le _) (f_414 (by first | exact dq1 hd rfl | exact dq0 hd rfl | exact dq2 hd rfl | exact dq3 hd rfl | omega) hI ) (fun v u h => ?_)
    obtain ⟨z1, rfl, rfl, i1, p1⟩ := h
    show GG _ _ _ _ _ _ _ _ [.int z1] _ _ _
    refine g_istore 6 (gd rfl) rfl (Nat.le_of_ble_eq_true rfl) ?_
    refine g_iload 8 (gd rfl) rfl rfl ?_
    refine g_aload_n 9 (gd rfl) rfl rfl ?_
    refine g_getI 12 (gd rfl) rfl rfl rfl (fun z9 e9 => ?_)
    refine g_calls (As := [.int z9]) (r := [.int z1]) 15 (gd rfl) rfl rfl rfl rfl rfl (Nat.le_of_ble_eq_true rfl) (Nat.zero_le _) (Nat.zero_le _) (f_414 (by first | exact dq1 hd rfl | exact dq0 hd rfl | exact dq2 hd rfl | exact dq3 hd rfl | omega) hI ) (fun v u h => ?_)
    obtain ⟨z12, rfl, rfl, i12, p12⟩ := h
    show GG _ _ _ _ _ _ _ _ [.int z12, .int z1] _ _ _
    refine g_cmp_le 18 23 (gd rfl) rfl rfl (fun c15 => ?_) (fun c15 => ?_)
    · skip
      refine g_iload 25 (gd rfl) rfl rfl ?_
      refine g_bipush 32 27 (gd rfl) rfl rfl ?_
      refine g_cmp_lt 30 31 (gd rfl) rfl rfl (fun c27 => ?_) (fun c27 => ?_)
      · skip
        have i27 := r_lt1 0 31 c27 h4 (in_c 32 rfl) rfl
        refine g_iload_n 32 (gd rfl) rfl rfl ?_
        refine g_istore 34 (gd rfl) rfl (Nat.le_of_ble_eq_true rfl) ?_
        have n34 : GRL (s.1 39) x2 x3 (x3) (s.2.2.1 60 1) ((s).2.2.1 60 1) := by exact grl_0 q_1 (Or.inr ⟨by rw [← e9]; (first | have a0 := oa2 i27 i1 | ((first | have a0 := in_u i27 | (have a0 := i27; unfold In at a0)); (first | have a1 := in_u i1 | (have a1 := i1; unfold In at a1)))); have oc := oc_42_60_39; omega, rfl⟩)
        have n34a : ((z1).toInt = (cb x2 : Int)) := by exact p1
        exact gg_w (by first | exact Nat.le_of_ble_eq_true rfl | omega) (gg_f (gf_cons rfl (gf_cons rfl (gf_cons rfl (gf_cons rfl (gf_cons rfl (gf_cons rfl (gf_cons rfl gf_nil))))))) (ct34 4294967296 s z1 x3 hI fr_rf (in_w 0 31 i27 rfl) (in_w 0 32 i1 rfl) n34 n34a (mb_in _)))
      · skip
        have i27 := r_le2 32 32 c27 (in_c 32 rfl) h4 rfl
        have n30 : GRW (s.1 39) x2 x3 (s.2.2.1 60 1) ((s).2.2.1 60 1) := by exact grw_d q_1 (by (first | have a0 := oa2 i27 i1 | ((first | have a0 := in_u i27 | (have a0 := i27; unfold In at a0)); (first | have a1 := in_u i1 | (have a1 := i1; unfold In at a1)))); have oc := oc_42_60_39; omega) (Or.inr ⟨by rw [← e9]; (first | have a0 := oa2 i27 i1 | ((first | have a0 := in_u i27 | (have a0 := i27; unfold In at a0)); (first | have a1 := in_u i1 | (have a1 := i1; unfold In at a1)))); have oc := oc_42_60_39; omega, rfl⟩)
        exact g_return (gd rfl) rfl (hP _ _ ⟨s, hI, fr_rf, rfl, rfl, n30⟩)
    · skip
      have i15 := r_lt1 0 31 c15 i12 i1 rfl
      have i15a := r_lt2 1 32 c15 i12 i1 rfl
      refine g_aload_n 19 (gd rfl) rfl rfl ?_
      refine g_iload_n 20 (gd rfl) rfl rfl ?_
      refine g_putI 23 (gd rfl) rfl rfl rfl rfl ?_
      have hI20 := inv_sF (q := 60) (j := 1) hI rfl (in_w (-2147483648) 2147483647 (i_rng x2) rfl)
      refine g_iload 25 (gd rfl) rfl rfl ?_
      refine g_bipush 32 27 (gd rfl) rfl rfl ?_
      refine g_cmp_lt 30 31 (gd rfl) rfl rfl (fun c27 => ?_) (fun c27 => ?_)
      · skip
        have i27 := r_lt1 0 31 c27 h4 (in_c 32 rfl) rfl
        refine g_iload_n 32 (gd rfl) rfl rfl ?_
        refine g_istore 34 (gd rfl) rfl (Nat.le_of_ble_eq_true rfl) ?_
        have n34 : GRL (s.1 39) x2 x3 (x3) (s.2.2.1 60 1) (((sF s 60 1 x2)).2.2.1 60 1) := by exact grl_0 q_1 (Or.inl ⟨by rw [← e9]; (first | have a0 := oa2 i27 i15a | ((first | have a0 := in_u i27 | (have a0 := i27; unfold In at a0)); (first | have a1 := in_u i15a | (have a1 := i15a; unfold In at a1)))); have oc := oc_42_60_39; omega, sF_get.symm⟩)
        have n34a : ((z1).toInt = (cb x2 : Int)) := by exact p1
        exact gg_w (by first | exact Nat.le_of_ble_eq_true rfl | omega) (gg_f (gf_cons rfl (gf_cons rfl (gf_cons rfl (gf_cons rfl (gf_cons rfl (gf_cons rfl (gf_cons rfl gf_nil))))))) (ct34 4294967296 (sF s 60 1 x2) z1 x3 hI20 (fr_sF rfl fr_rf) (in_w 0 31 i27 rfl) (in_w 0 32 i15a rfl) n34 n34a (mb_in _)))
      · skip
        have i27 := r_le2 32 32 c27 (in_c 32 rfl) h4 rfl
        have n30 : GRW (s.1 39) x2 x3 (s.2.2.1 60 1) (((sF s 60 1 x2)).2.2.1 60 1) := by exact grw_d q_1 (by (first | have a0 := oa2 i27 i15a | ((first | have a0 := in_u i27 | (have a0 := i27; unfold In at a0)); (first | have a1 := in_u i15a | (have a1 := i15a; unfold In at a1)))); have oc := oc_42_60_39; omega) (Or.inl ⟨by rw [← e9]; (first | have a0 := oa2 i27 i15a | ((first | have a0 := in_u i27 | (have a0 := i27; unfold In at a0)); (first | have a1 := in_u i15a | (have a1 := i15a; unfold In at a1)))); have oc := oc_42_60_39; omega, sF_get.symm⟩)
        exact g_return (gd rfl) rfl (hP _ _ ⟨(sF s 60 1 x2), hI20, (fr_sF rfl fr_rf), rfl, rfl, n30⟩)
theorem f_42_60_39 {Z : AmZ} {A : Nat → Nat} {s : GS} {ex : va_W} {d : Nat} {X : AmX} {x2 : Int32} {x3 : Int32} {x4 : Int32} (hd : 104 ≤ d) (hI : Inv s) (h4 : In x4 0 32) (q_0 : SYR (s.1 39)) (q_1 : GRP (s.1 39) x2 x3 (x4).toInt) : GC Z d 42 [.ref (A 60), .ref (A 39), .int x2, .int x3, .int x4] (WW Z A s ++ ex) 0 0 (fun v u => ∃ t : GS, Inv t ∧ Fr fm_42_60_39 s t ∧ v = none ∧ u = WW Z A t ++ ex ∧ (GRW (s.1 39) x2 x3 (s.2.2.1 60 1) ((t).2.2.1 60 1))) X := f_42_60_39_r 33 (by omega) hI h4 q_0 q_1 (m_in 33 h4 rfl)

theorem oc_41_60_2 : (Int32.ofInt (-1)).toInt = (-1) ∧ (Int32.ofInt 0).toInt = 0 ∧ (Int32.ofInt 1).toInt = 1 ∧ (Int32.ofInt 32).toInt = 32 := ⟨rfl, rfl, rfl, rfl⟩
def fm_41_60_2 : FM := ([9, 10, 11, 12, 13, 14, 15], [], [(2, 4), (60, 0), (60, 1)], [])
/-- GraphHouse$Colours.greatestClique -/
theorem f_41_60_2 {Z : AmZ} {A : Nat → Nat} {s : GS} {ex : va_W} {d : Nat} {X : AmX}  (hd : 105 ≤ d) (hI : Inv s) (q_0 : TQ s) (q_1 : CQB (gvC s) s) : GC Z d 41 [.ref (A 60), .ref (A 2)] (WW Z A s ++ ex) 0 0 (fun v u => ∃ t : GS, Inv t ∧ Fr fm_41_60_2 s t ∧ ∃ z : Int32, v = some (.int z) ∧ u = WW Z A t ++ ex ∧ In z (-2147483648) 2147483647 ∧ (CQQ (gvC s) t) ∧ ((z) = (t).2.2.1 60 1) ∧ (((s.2.2.1 2 4).toInt = (s.2.2.1 2 0).toInt → ((t).2.2.1 2 4).toInt = ((t).2.2.1 2 0).toInt))) X := by
  intro post xp hP hX
  obtain ⟨u_2_0, e_2_0⟩ : ∃ w, w = s.2.2.1 2 0 := ⟨_, rfl⟩
  have ro_2_0 := inv_F hI 0 4000 rfl e_2_0
  obtain ⟨u_2_1, e_2_1⟩ : ∃ w, w = s.2.2.1 2 1 := ⟨_, rfl⟩
  have ro_2_1 := inv_F hI 0 32 rfl e_2_1
  refine g_enter2 (k := 41) (N := 900) (by first | exact dq1 hd rfl | exact dq0 hd rfl | exact dq2 hd rfl | exact dq3 hd rfl | omega) rfl (Nat.le_of_ble_eq_true rfl) ?_
  refine g_aload_n 1 (gd rfl) rfl rfl ?_
  refine g_getI 4 (gd rfl) rfl rfl rfl (fun z1 e1 => ?_)
  have i1 := inv_F hI (-1) 4000 rfl e1
  refine g_aload_n 5 (gd rfl) rfl rfl ?_
  refine g_getI 8 (gd rfl) rfl rfl rfl (fun z5 e5 => ?_)
  have q5 : u_2_0 = z5 := (e_2_0).trans e5.symm
  subst q5
  refine g_cmp_eq 11 42 (gd rfl) rfl rfl (fun c8 => ?_) (fun c8 => ?_)
  · skip
    have i8 := r_eq1 0 4000 c8 i1 ro_2_0 rfl
    refine g_aload_n 43 (gd rfl) rfl rfl ?_
    refine g_getI 46 (gd rfl) rfl rfl rfl (fun z43 e43 => ?_)
    have n46 : CQQ (gvC s) s := by exact ⟨(by show (s.2.2.1 60 0).toInt = (s.2.2.1 2 0).toInt; rw [← e1, ← e_2_0]; exact c8), q_1 (by show (s.2.2.1 60 0).toInt = (s.2.2.1 2 0).toInt; rw [← e1, ← e_2_0]; exact c8)⟩
    have n46a : (z43) = (s).2.2.1 60 1 := by exact e43
    have n46b : ((s.2.2.1 2 4).toInt = (s.2.2.1 2 0).toInt → ((s).2.2.1 2 4).toInt = ((s).2.2.1 2 0).toInt) := by exact fun h9 => h9
    exact g_ireturn (gd rfl) rfl rfl (hP _ _ ⟨s, hI, fr_rf, z43, rfl, rfl, in_w (-2147483648) 2147483647 (i_rng z43) rfl, n46, n46a, n46b⟩)
  · skip
    refine g_aload_n 12 (gd rfl) rfl rfl ?_
    refine g_aload_n 13 (gd rfl) rfl rfl ?_
    refine g_getI 16 (gd rfl) rfl rfl rfl (fun z13 e13 => ?_)
    have q13 : u_2_0 = z13 := (e_2_0).trans e13.symm
    subst q13
    refine g_putI 19 (gd rfl) rfl rfl rfl rfl ?_
    have hI16 := inv_sF (q := 60) (j := 0) hI rfl (in_w (-1) 4000 ro_2_0 rfl)
    refine g_aload_n 20 (gd rfl) rfl rfl ?_
    refine g_callv (X := _) (As := []) (r := []) (b := A 2) (q := 2) 23 (gd rfl) rfl rfl rfl rfl rfl (ww_o rfl) (Nat.le_of_ble_eq_true rfl) (Nat.zero_le _) (Nat.zero_le _) (k_106_2 (by first | exact dq1 hd rfl | exact dq0 hd rfl | exact dq2 hd rfl | exact dq3 hd rfl | omega) hI16 ) (fun e u h => h) (fun v u h => ?_)
    obtain ⟨s20, hI20, hF20, n20, rfl, rfl⟩ := h
    obtain ⟨z20a, e20⟩ : ∃ w, w = s20.2.2.1 2 4 := ⟨_, rfl⟩
    have i20a := inv_F hI20 (-1) 4000 rfl e20
    rw [← (show z20a = s20.2.2.1 2 4 from e20)] at n20
    rw [← (show u_2_0 = s20.2.2.1 2 0 from fr_F (s := (sF s 60 0 u_2_0)) (sF_ne rfl (e_2_0)) hF20 rfl)] at n20
    show GG _ _ _ _ _ _ _ _ [] _ _ _
    refine g_aload_n 24 (gd rfl) rfl rfl ?_
    refine g_iconst 0 25 (gd rfl) rfl rfl ?_
    refine g_putI 28 (gd rfl) rfl rfl rfl rfl ?_
    have hI25 := inv_sF (q := 60) (j := 1) hI20 rfl (in_w (-2147483648) 2147483647 (in_c 0 rfl) rfl)
    refine g_aload_n 29 (gd rfl) rfl rfl ?_
    refine g_aload_n 30 (gd rfl) rfl rfl ?_
    refine g_getA (q2 := 9) 33 (gd rfl) rfl rfl rfl rfl ?_
    refine g_iconst 0 34 (gd rfl) rfl rfl ?_
    refine g_aload_n 35 (gd rfl) rfl rfl ?_
    refine g_callv (X := _) (As := []) (r := [.int (Int32.ofInt 0), .ref (A 9), .ref (A 60)]) (b := A 2) (q := 2) 38 (gd rfl) rfl rfl rfl rfl rfl (ww_o rfl) (Nat.le_of_ble_eq_true rfl) (mc := 0) (ms := 0) (Nat.zero_le _) (Nat.zero_le _) (P := fun v u => _) ?_ (fun e u h => h) (fun v u h => h)
    intro po35 xx35 hp35 hx35
    refine g_enter2 (k := 102) (N := 300) (by first | exact dq1 hd rfl | exact dq0 hd rfl | exact dq2 hd rfl | exact dq3 hd rfl | omega) rfl (Nat.le_of_ble_eq_true rfl) ?_
    refine g_aload_n 1 (gd rfl) rfl rfl ?_
    refine g_getI 4 (gd rfl) rfl rfl rfl (fun z35x1 e35x1 => ?_)
    have q35x1 : u_2_1 = z35x1 := (sF_ne rfl (fr_F (s := (sF s 60 0 u_2_0)) (sF_ne rfl (e_2_1)) hF20 rfl)).trans e35x1.symm
    subst q35x1
    refine g_bipush 32 6 (gd rfl) rfl rfl ?_
    refine g_cmp_lt 9 13 (gd rfl) rfl rfl (fun c35x6 => ?_) (fun c35x6 => ?_)
    · skip
      have i35x6 := r_lt1 0 31 c35x6 ro_2_1 (in_c 32 rfl) rfl
      refine g_iconst 1 14 (gd rfl) rfl rfl ?_
      refine g_aload_n 15 (gd rfl) rfl rfl ?_
      refine g_getI 18 (gd rfl) rfl rfl rfl (fun z35x15 e35x15 => ?_)
      have q35x15 : u_2_1 = z35x15 := (sF_ne rfl (fr_F (s := (sF s 60 0 u_2_0)) (sF_ne rfl (e_2_1)) hF20 rfl)).trans e35x15.symm
      subst q35x15
      refine g_ishl 19 (gd rfl) rfl (fun z35x18 e35x18 => ?_)
      refine g_iconst 1 20 (gd rfl) rfl rfl ?_
      refine g_isub 21 (gd rfl) rfl (fun z35x20 e35x20 => ?_)
      refine g_ireturn (gd rfl) rfl rfl (hp35 _ _ ?_)
      show GG _ _ _ _ _ _ _ _ [.int z35x20, .int (Int32.ofInt 0), .ref (A 9), .ref (A 60)] _ _ _
      refine g_iconst 0 39 (gd rfl) rfl rfl ?_
      have p39 : SYR ((sF s20 60 1 (Int32.ofInt 0)).1 9) := by exact syr_of (near := s20.1 9) (fe_2 hI20 (show Fr fm_41_60_2 s s20 from fr_tr rfl (fr_sF rfl fr_rf) hF20) rfl rfl rfl (by rw [← (show z20a = s20.2.2.1 2 4 from e20), ← (show u_2_0 = s20.2.2.1 2 0 from fr_F (s := (sF s 60 0 u_2_0)) (sF_ne rfl (e_2_0)) hF20 rfl)]; exact n20) q_0).2.2
      have p39a : GRP ((sF s20 60 1 (Int32.ofInt 0)).1 9) (Int32.ofInt 0) z35x20 ((Int32.ofInt 0)).toInt := by exact grp_0 rfl
      refine g_callv (X := _) (As := [.ref (A 9), .int (Int32.ofInt 0), .int z35x20, .int (Int32.ofInt 0)]) (r := []) (b := A 60) (q := 60) 42 (gd rfl) rfl rfl rfl rfl rfl (ww_o rfl) (Nat.le_of_ble_eq_true rfl) (Nat.zero_le _) (Nat.zero_le _) (f_42_60_9 (by first | exact dq1 hd rfl | exact dq0 hd rfl | exact dq2 hd rfl | exact dq3 hd rfl | omega) hI25 (in_w 0 32 (in_c 0 rfl) rfl) p39 p39a) (fun e u h => h) (fun v u h => ?_)
      obtain ⟨s39, hI39, hF39, rfl, rfl, p39b⟩ := h
      show GG _ _ _ _ _ _ _ _ [] _ _ _
      refine g_aload_n 43 (gd rfl) rfl rfl ?_
      refine g_getI 46 (gd rfl) rfl rfl rfl (fun z43 e43 => ?_)
      have n46 : CQQ (gvC s) s39 := by exact ⟨(by show (s39.2.2.1 60 0).toInt = (s.2.2.1 2 0).toInt; rw [hF39.2.2.1 60 0 rfl, ← (show s20.2.2.1 60 0 = (sF s20 60 1 (Int32.ofInt 0)).2.2.1 60 0 from sF_ne rfl rfl), hF20.2.2.1 60 0 rfl, ← (show u_2_0 = (sF s 60 0 u_2_0).2.2.1 60 0 from sF_get), e_2_0]), (clg_of (near := s20.1 9) (fe_2 hI20 (show Fr fm_41_60_2 s s20 from fr_tr rfl (fr_sF rfl fr_rf) hF20) rfl rfl rfl (by rw [← (show z20a = s20.2.2.1 2 4 from e20), ← (show u_2_0 = s20.2.2.1 2 0 from fr_F (s := (sF s 60 0 u_2_0)) (sF_ne rfl (e_2_0)) hF20 rfl)]; exact n20) q_0).2.2 (by show (s.2.2.1 2 1).toInt ≤ 32; rw [← e_2_1]; (first | have a0 := oa3 i35x6 ro_2_0 i20a | ((first | have a0 := in_u i35x6 | (have a0 := i35x6; unfold In at a0)); (first | have a1 := in_u ro_2_0 | (have a1 := ro_2_0; unfold In at a1)); (first | have a2 := in_u i20a | (have a2 := i20a; unfold In at a2)))); have oc := oc_41_60_2; omega) (fun k => by show _ ↔ (k : Int) < (s.2.2.1 2 1).toInt; rw [← e_2_1]; exact all_a e35x18 e35x20 i35x6 k) (sF_get (s := s20) (q := 60) (j := 1)).symm p39b)⟩
      have n46a : (z43) = (s39).2.2.1 60 1 := by exact e43
      have n46b : ((s.2.2.1 2 4).toInt = (s.2.2.1 2 0).toInt → ((s39).2.2.1 2 4).toInt = ((s39).2.2.1 2 0).toInt) := by exact fun _ => (by rw [hF39.2.2.1 2 4 rfl, hF39.2.2.1 2 0 rfl]; exact (show (s20.2.2.1 2 4).toInt = (s20.2.2.1 2 0).toInt from (by rw [← (show z20a = s20.2.2.1 2 4 from e20), ← (show u_2_0 = s20.2.2.1 2 0 from fr_F (s := (sF s 60 0 u_2_0)) (sF_ne rfl (e_2_0)) hF20 rfl)]; exact n20)))
      exact g_ireturn (gd rfl) rfl rfl (hP _ _ ⟨s39, hI39, (fr_tr rfl (fr_sF rfl (fr_tr rfl (fr_sF rfl fr_rf) hF20)) hF39), z43, rfl, rfl, in_w (-2147483648) 2147483647 (i_rng z43) rfl, n46, n46a, n46b⟩)
    · skip
      have i35x6 := r_le2 32 32 c35x6 (in_c 32 rfl) ro_2_1 rfl
      refine g_iconst (-1) 10 (gd rfl) rfl rfl ?_
      refine g_goto 21 (gd rfl) rfl ?_
      refine g_ireturn (gd rfl) rfl rfl (hp35 _ _ ?_)
      show GG _ _ _ _ _ _ _ _ [.int (Int32.ofInt (-1)), .int (Int32.ofInt 0), .ref (A 9), .ref (A 60)] _ _ _
      refine g_iconst 0 39 (gd rfl) rfl rfl ?_
      have p39 : SYR ((sF s20 60 1 (Int32.ofInt 0)).1 9) := by exact syr_of (near := s20.1 9) (fe_2 hI20 (show Fr fm_41_60_2 s s20 from fr_tr rfl (fr_sF rfl fr_rf) hF20) rfl rfl rfl (by rw [← (show z20a = s20.2.2.1 2 4 from e20), ← (show u_2_0 = s20.2.2.1 2 0 from fr_F (s := (sF s 60 0 u_2_0)) (sF_ne rfl (e_2_0)) hF20 rfl)]; exact n20) q_0).2.2
      have p39a : GRP ((sF s20 60 1 (Int32.ofInt 0)).1 9) (Int32.ofInt 0) (Int32.ofInt (-1)) ((Int32.ofInt 0)).toInt := by exact grp_0 rfl
      refine g_callv (X := _) (As := [.ref (A 9), .int (Int32.ofInt 0), .int (Int32.ofInt (-1)), .int (Int32.ofInt 0)]) (r := []) (b := A 60) (q := 60) 42 (gd rfl) rfl rfl rfl rfl rfl (ww_o rfl) (Nat.le_of_ble_eq_true rfl) (Nat.zero_le _) (Nat.zero_le _) (f_42_60_9 (by first | exact dq1 hd rfl | exact dq0 hd rfl | exact dq2 hd rfl | exact dq3 hd rfl | omega) hI25 (in_w 0 32 (in_c 0 rfl) rfl) p39 p39a) (fun e u h => h) (fun v u h => ?_)
      obtain ⟨s39, hI39, hF39, rfl, rfl, p39b⟩ := h
      show GG _ _ _ _ _ _ _ _ [] _ _ _
      refine g_aload_n 43 (gd rfl) rfl rfl ?_
      refine g_getI 46 (gd rfl) rfl rfl rfl (fun z43 e43 => ?_)
      have n46 : CQQ (gvC s) s39 := by exact ⟨(by show (s39.2.2.1 60 0).toInt = (s.2.2.1 2 0).toInt; rw [hF39.2.2.1 60 0 rfl, ← (show s20.2.2.1 60 0 = (sF s20 60 1 (Int32.ofInt 0)).2.2.1 60 0 from sF_ne rfl rfl), hF20.2.2.1 60 0 rfl, ← (show u_2_0 = (sF s 60 0 u_2_0).2.2.1 60 0 from sF_get), e_2_0]), (clg_of (near := s20.1 9) (fe_2 hI20 (show Fr fm_41_60_2 s s20 from fr_tr rfl (fr_sF rfl fr_rf) hF20) rfl rfl rfl (by rw [← (show z20a = s20.2.2.1 2 4 from e20), ← (show u_2_0 = s20.2.2.1 2 0 from fr_F (s := (sF s 60 0 u_2_0)) (sF_ne rfl (e_2_0)) hF20 rfl)]; exact n20) q_0).2.2 (by show (s.2.2.1 2 1).toInt ≤ 32; rw [← e_2_1]; (first | have a0 := oa3 i35x6 ro_2_0 i20a | ((first | have a0 := in_u i35x6 | (have a0 := i35x6; unfold In at a0)); (first | have a1 := in_u ro_2_0 | (have a1 := ro_2_0; unfold In at a1)); (first | have a2 := in_u i20a | (have a2 := i20a; unfold In at a2)))); have oc := oc_41_60_2; omega) (fun k => by show _ ↔ (k : Int) < (s.2.2.1 2 1).toInt; rw [← e_2_1]; exact all_b (by (first | have a0 := oa3 i35x6 ro_2_0 i20a | ((first | have a0 := in_u i35x6 | (have a0 := i35x6; unfold In at a0)); (first | have a1 := in_u ro_2_0 | (have a1 := ro_2_0; unfold In at a1)); (first | have a2 := in_u i20a | (have a2 := i20a; unfold In at a2)))); have oc := oc_41_60_2; omega) k) (sF_get (s := s20) (q := 60) (j := 1)).symm p39b)⟩
      have n46a : (z43) = (s39).2.2.1 60 1 := by exact e43
      have n46b : ((s.2.2.1 2 4).toInt = (s.2.2.1 2 0).toInt → ((s39).2.2.1 2 4).toInt = ((s39).2.2.1 2 0).toInt) := by exact fun _ => (by rw [hF39.2.2.1 2 4 rfl, hF39.2.2.1 2 0 rfl]; exact (show (s20.2.2.1 2 4).toInt = (s20.2.2.1 2 0).toInt from (by rw [← (show z20a = s20.2.2.1 2 4 from e20), ← (show u_2_0 = s20.2.2.1 2 0 from fr_F (s := (sF s 60 0 u_2_0)) (sF_ne rfl (e_2_0)) hF20 rfl)]; exact n20)))
      exact g_ireturn (gd rfl) rfl rfl (hP _ _ ⟨s39, hI39, (fr_tr rfl (fr_sF rfl (fr_tr rfl (fr_sF rfl fr_rf) hF20)) hF39), z43, rfl, rfl, in_w (-2147483648) 2147483647 (i_rng z43) rfl, n46, n46a, n46b⟩)

theorem oc_41_60_32 : (Int32.ofInt (-1)).toInt = (-1) ∧ (Int32.ofInt 0).toInt = 0 ∧ (Int32.ofInt 1).toInt = 1 ∧ (Int32.ofInt 32).toInt = 32 := ⟨rfl, rfl, rfl, rfl⟩
def fm_41_60_32 : FM := ([39, 40, 41, 42, 43, 44, 45], [], [(32, 4), (60, 0), (60, 1)], [])
/-- GraphHouse$Colours.greatestClique -/
theorem f_41_60_32 {Z : AmZ} {A : Nat → Nat} {s : GS} {ex : va_W} {d : Nat} {X : AmX}  (hd : 105 ≤ d) (hI : Inv s) (q_0 : TQD s) (q_1 : CQB (gvD s) s) : GC Z d 41 [.ref (A 60), .ref (A 32)] (WW Z A s ++ ex) 0 0 (fun v u => ∃ t : GS, Inv t ∧ Fr fm_41_60_32 s t ∧ ∃ z : Int32, v = some (.int z) ∧ u = WW Z A t ++ ex ∧ In z (-2147483648) 2147483647 ∧ (CQQ (gvD s) t) ∧ ((z) = (t).2.2.1 60 1) ∧ (((s.2.2.1 32 4).toInt = (s.2.2.1 32 0).toInt → ((t).2.2.1 32 4).toInt = ((t).2.2.1 32 0).toInt))) X := by
  intro post xp hP hX
  obtain ⟨u_32_0, e_32_0⟩ : ∃ w, w = s.2.2.1 32 0 := ⟨_, rfl⟩
  have ro_32_0 := inv_F hI 0 4000 rfl e_32_0
  obtain ⟨u_32_1, e_32_1⟩ : ∃ w, w = s.2.2.1 32 1 := ⟨_, rfl⟩
  have ro_32_1 := inv_F hI 0 32 rfl e_32_1
  refine g_enter2 (k := 41) (N := 900) (by first | exact dq1 hd rfl | exact dq0 hd rfl | exact dq2 hd rfl | exact dq3 hd rfl | omega) rfl (Nat.le_of_ble_eq_true rfl) ?_
  refine g_aload_n 1 (gd rfl) rfl rfl ?_
  refine g_getI 4 (gd rfl) rfl rfl rfl (fun z1 e1 => ?_)
  have i1 := inv_F hI (-1) 4000 rfl e1
  refine g_aload_n 5 (gd rfl) rfl rfl ?_
  refine g_getI 8 (gd rfl) rfl rfl rfl (fun z5 e5 => ?_)
  have q5 : u_32_0 = z5 := (e_32_0).trans e5.symm
  subst q5
  refine g_cmp_eq 11 42 (gd rfl) rfl rfl (fun c8 => ?_) (fun c8 => ?_)
  · skip
    have i8 := r_eq1 0 4000 c8 i1 ro_32_0 rfl
    refine g_aload_n 43 (gd rfl) rfl rfl ?_
    refine g_getI 46 (gd rfl) rfl rfl rfl (fun z43 e43 => ?_)
    have n46 : CQQ (gvD s) s := by exact ⟨(by show (s.2.2.1 60 0).toInt = (s.2.2.1 32 0).toInt; rw [← e1, ← e_32_0]; exact c8), q_1 (by show (s.2.2.1 60 0).toInt = (s.2.2.1 32 0).toInt; rw [← e1, ← e_32_0]; exact c8)⟩
    have n46a : (z43) = (s).2.2.1 60 1 := by exact e43
    have n46b : ((s.2.2.1 32 4).toInt = (s.2.2.1 32 0).toInt → ((s).2.2.1 32 4).toInt = ((s).2.2.1 32 0).toInt) := by exact fun h9 => h9
    exact g_ireturn (gd rfl) rfl rfl (hP _ _ ⟨s, hI, fr_rf, z43, rfl, rfl, in_w (-2147483648) 2147483647 (i_rng z43) rfl, n46, n46a, n46b⟩)
  · skip
    refine g_aload_n 12 (gd rfl) rfl rfl ?_
    refine g_aload_n 13 (gd rfl) rfl rfl ?_
    refine g_getI 16 (gd rfl) rfl rfl rfl (fun z13 e13 => ?_)
    have q13 : u_32_0 = z13 := (e_32_0).trans e13.symm
    subst q13
    refine g_putI 19 (gd rfl) rfl rfl rfl rfl ?_
    have hI16 := inv_sF (q := 60) (j := 0) hI rfl (in_w (-1) 4000 ro_32_0 rfl)
    refine g_aload_n 20 (gd rfl) rfl rfl ?_
    refine g_callv (X := _) (As := []) (r := []) (b := A 32) (q := 32) 23 (gd rfl) rfl rfl rfl rfl rfl (ww_o rfl) (Nat.le_of_ble_eq_true rfl) (Nat.zero_le _) (Nat.zero_le _) (k_106_32 (by first | exact dq1 hd rfl | exact dq0 hd rfl | exact dq2 hd rfl | exact dq3 hd rfl | omega) hI16 ) (fun e u h => h) (fun v u h => ?_)
    obtain ⟨s20, hI20, hF20, n20, rfl, rfl⟩ := h
    obtain ⟨z20a, e20⟩ : ∃ w, w = s20.2.2.1 32 4 := ⟨_, rfl⟩
    have i20a := inv_F hI20 (-1) 4000 rfl e20
    rw [← (show z20a = s20.2.2.1 32 4 from e20)] at n20
    rw [← (show u_32_0 = s20.2.2.1 32 0 from fr_F (s := (sF s 60 0 u_32_0)) (sF_ne rfl (e_32_0)) hF20 rfl)] at n20
    show GG _ _ _ _ _ _ _ _ [] _ _ _
    refine g_aload_n 24 (gd rfl) rfl rfl ?_
    refine g_iconst 0 25 (gd rfl) rfl rfl ?_
    refine g_putI 28 (gd rfl) rfl rfl rfl rfl ?_
    have hI25 := inv_sF (q := 60) (j := 1) hI20 rfl (in_w (-2147483648) 2147483647 (in_c 0 rfl) rfl)
    refine g_aload_n 29 (gd rfl) rfl rfl ?_
    refine g_aload_n 30 (gd rfl) rfl rfl ?_
    refine g_getA (q2 := 39) 33 (gd rfl) rfl rfl rfl rfl ?_
    refine g_iconst 0 34 (gd rfl) rfl rfl ?_
    refine g_aload_n 35 (gd rfl) rfl rfl ?_
    refine g_callv (X := _) (As := []) (r := [.int (Int32.ofInt 0), .ref (A 39), .ref (A 60)]) (b := A 32) (q := 32) 38 (gd rfl) rfl rfl rfl rfl rfl (ww_o rfl) (Nat.le_of_ble_eq_true rfl) (mc := 0) (ms := 0) (Nat.zero_le _) (Nat.zero_le _) (P := fun v u => _) ?_ (fun e u h => h) (fun v u h => h)
    intro po35 xx35 hp35 hx35
    refine g_enter2 (k := 102) (N := 300) (by first | exact dq1 hd rfl | exact dq0 hd rfl | exact dq2 hd rfl | exact dq3 hd rfl | omega) rfl (Nat.le_of_ble_eq_true rfl) ?_
    refine g_aload_n 1 (gd rfl) rfl rfl ?_
    refine g_getI 4 (gd rfl) rfl rfl rfl (fun z35x1 e35x1 => ?_)
    have q35x1 : u_32_1 = z35x1 := (sF_ne rfl (fr_F (s := (sF s 60 0 u_32_0)) (sF_ne rfl (e_32_1)) hF20 rfl)).trans e35x1.symm
    subst q35x1
    refine g_bipush 32 6 (gd rfl) rfl rfl ?_
    refine g_cmp_lt 9 13 (gd rfl) rfl rfl (fun c35x6 => ?_) (fun c35x6 => ?_)
    · skip
      have i35x6 := r_lt1 0 31 c35x6 ro_32_1 (in_c 32 rfl) rfl
      refine g_iconst 1 14 (gd rfl) rfl rfl ?_
      refine g_aload_n 15 (gd rfl) rfl rfl ?_
      refine g_getI 18 (gd rfl) rfl rfl rfl (fun z35x15 e35x15 => ?_)
      have q35x15 : u_32_1 = z35x15 := (sF_ne rfl (fr_F (s := (sF s 60 0 u_32_0)) (sF_ne rfl (e_32_1)) hF20 rfl)).trans e35x15.symm
      subst q35x15
      refine g_ishl 19 (gd rfl) rfl (fun z35x18 e35x18 => ?_)
      refine g_iconst 1 20 (gd rfl) rfl rfl ?_
      refine g_isub 21 (gd rfl) rfl (fun z35x20 e35x20 => ?_)
      refine g_ireturn (gd rfl) rfl rfl (hp35 _ _ ?_)
      show GG _ _ _ _ _ _ _ _ [.int z35x20, .int (Int32.ofInt 0), .ref (A 39), .ref (A 60)] _ _ _
      refine g_iconst 0 39 (gd rfl) rfl rfl ?_
      have p39 : SYR ((sF s20 60 1 (Int32.ofInt 0)).1 39) := by exact syr_of (near := s20.1 39) (fe_32 hI20 (show Fr fm_41_60_32 s s20 from fr_tr rfl (fr_sF rfl fr_rf) hF20) rfl rfl rfl (by rw [← (show z20a = s20.2.2.1 32 4 from e20), ← (show u_32_0 = s20.2.2.1 32 0 from fr_F (s := (sF s 60 0 u_32_0)) (sF_ne rfl (e_32_0)) hF20 rfl)]; exact n20) q_0).2.2
      have p39a : GRP ((sF s20 60 1 (Int32.ofInt 0)).1 39) (Int32.ofInt 0) z35x20 ((Int32.ofInt 0)).toInt := by exact grp_0 rfl
      refine g_callv (X := _) (As := [.ref (A 39), .int (Int32.ofInt 0), .int z35x20, .int (Int32.ofInt 0)]) (r := []) (b := A 60) (q := 60) 42 (gd rfl) rfl rfl rfl rfl rfl (ww_o rfl) (Nat.le_of_ble_eq_true rfl) (Nat.zero_le _) (Nat.zero_le _) (f_42_60_39 (by first | exact dq1 hd rfl | exact dq0 hd rfl | exact dq2 hd rfl | exact dq3 hd rfl | omega) hI25 (in_w 0 32 (in_c 0 rfl) rfl) p39 p39a) (fun e u h => h) (fun v u h => ?_)
      obtain ⟨s39, hI39, hF39, rfl, rfl, p39b⟩ := h
      show GG _ _ _ _ _ _ _ _ [] _ _ _
      refine g_aload_n 43 (gd rfl) rfl rfl ?_
      refine g_getI 46 (gd rfl) rfl rfl rfl (fun z43 e43 => ?_)
      have n46 : CQQ (gvD s) s39 := by exact ⟨(by show (s39.2.2.1 60 0).toInt = (s.2.2.1 32 0).toInt; rw [hF39.2.2.1 60 0 rfl, ← (show s20.2.2.1 60 0 = (sF s20 60 1 (Int32.ofInt 0)).2.2.1 60 0 from sF_ne rfl rfl), hF20.2.2.1 60 0 rfl, ← (show u_32_0 = (sF s 60 0 u_32_0).2.2.1 60 0 from sF_get), e_32_0]), (clg_of (near := s20.1 39) (fe_32 hI20 (show Fr fm_41_60_32 s s20 from fr_tr rfl (fr_sF rfl fr_rf) hF20) rfl rfl rfl (by rw [← (show z20a = s20.2.2.1 32 4 from e20), ← (show u_32_0 = s20.2.2.1 32 0 from fr_F (s := (sF s 60 0 u_32_0)) (sF_ne rfl (e_32_0)) hF20 rfl)]; exact n20) q_0).2.2 (by show (s.2.2.1 32 1).toInt ≤ 32; rw [← e_32_1]; (first | have a0 := oa3 i35x6 ro_32_0 i20a | ((first | have a0 := in_u i35x6 | (have a0 := i35x6; unfold In at a0)); (first | have a1 := in_u ro_32_0 | (have a1 := ro_32_0; unfold In at a1)); (first | have a2 := in_u i20a | (have a2 := i20a; unfold In at a2)))); have oc := oc_41_60_32; omega) (fun k => by show _ ↔ (k : Int) < (s.2.2.1 32 1).toInt; rw [← e_32_1]; exact all_a e35x18 e35x20 i35x6 k) (sF_get (s := s20) (q := 60) (j := 1)).symm p39b)⟩
      have n46a : (z43) = (s39).2.2.1 60 1 := by exact e43
      have n46b : ((s.2.2.1 32 4).toInt = (s.2.2.1 32 0).toInt → ((s39).2.2.1 32 4).toInt = ((s39).2.2.1 32 0).toInt) := by exact fun _ => (by rw [hF39.2.2.1 32 4 rfl, hF39.2.2.1 32 0 rfl]; exact (show (s20.2.2.1 32 4).toInt = (s20.2.2.1 32 0).toInt from (by rw [← (show z20a = s20.2.2.1 32 4 from e20), ← (show u_32_0 = s20.2.2.1 32 0 from fr_F (s := (sF s 60 0 u_32_0)) (sF_ne rfl (e_32_0)) hF20 rfl)]; exact n20)))
      exact g_ireturn (gd rfl) rfl rfl (hP _ _ ⟨s39, hI39, (fr_tr rfl (fr_sF rfl (fr_tr rfl (fr_sF rfl fr_rf) hF20)) hF39), z43, rfl, rfl, in_w (-2147483648) 2147483647 (i_rng z43) rfl, n46, n46a, n46b⟩)
    · skip
      have i35x6 := r_le2 32 32 c35x6 (in_c 32 rfl) ro_32_1 rfl
      refine g_iconst (-1) 10 (gd rfl) rfl rfl ?_
      refine g_goto 21 (gd rfl) rfl ?_
      refine g_ireturn (gd rfl) rfl rfl (hp35 _ _ ?_)
      show GG _ _ _ _ _ _ _ _ [.int (Int32.ofInt (-1)), .int (Int32.ofInt 0), .ref (A 39), .ref (A 60)] _ _ _
      refine g_iconst 0 39 (gd rfl) rfl rfl ?_
      have p39 : SYR ((sF s20 60 1 (Int32.ofInt 0)).1 39) := by exact syr_of (near := s20.1 39) (fe_32 hI20 (show Fr fm_41_60_32 s s20 from fr_tr rfl (fr_sF rfl fr_rf) hF20) rfl rfl rfl (by rw [← (show z20a = s20.2.2.1 32 4 from e20), ← (show u_32_0 = s20.2.2.1 32 0 from fr_F (s := (sF s 60 0 u_32_0)) (sF_ne rfl (e_32_0)) hF20 rfl)]; exact n20) q_0).2.2
      have p39a : GRP ((sF s20 60 1 (Int32.ofInt 0)).1 39) (Int32.ofInt 0) (Int32.ofInt (-1)) ((Int32.ofInt 0)).toInt := by exact grp_0 rfl
      refine g_callv (X := _) (As := [.ref (A 39), .int (Int32.ofInt 0), .int (Int32.ofInt (-1)), .int (Int32.ofInt 0)]) (r := []) (b := A 60) (q := 60) 42 (gd rfl) rfl rfl rfl rfl rfl (ww_o rfl) (Nat.le_of_ble_eq_true rfl) (Nat.zero_le _) (Nat.zero_le _) (f_42_60_39 (by first | exact dq1 hd rfl | exact dq0 hd rfl | exact dq2 hd rfl | exact dq3 hd rfl | omega) hI25 (in_w 0 32 (in_c 0 rfl) rfl) p39 p39a) (fun e u h => h) (fun v u h => ?_)
      obtain ⟨s39, hI39, hF39, rfl, rfl, p39b⟩ := h
      show GG _ _ _ _ _ _ _ _ [] _ _ _
      refine g_aload_n 43 (gd rfl) rfl rfl ?_
      refine g_getI 46 (gd rfl) rfl rfl rfl (fun z43 e43 => ?_)
      have n46 : CQQ (gvD s) s39 := by exact ⟨(by show (s39.2.2.1 60 0).toInt = (s.2.2.1 32 0).toInt; rw [hF39.2.2.1 60 0 rfl, ← (show s20.2.2.1 60 0 = (sF s20 60 1 (Int32.ofInt 0)).2.2.1 60 0 from sF_ne rfl rfl), hF20.2.2.1 60 0 rfl, ← (show u_32_0 = (sF s 60 0 u_32_0).2.2.1 60 0 from sF_get), e_32_0]), (clg_of (near := s20.1 39) (fe_32 hI20 (show Fr fm_41_60_32 s s20 from fr_tr rfl (fr_sF rfl fr_rf) hF20) rfl rfl rfl (by rw [← (show z20a = s20.2.2.1 32 4 from e20), ← (show u_32_0 = s20.2.2.1 32 0 from fr_F (s := (sF s 60 0 u_32_0)) (sF_ne rfl (e_32_0)) hF20 rfl)]; exact n20) q_0).2.2 (by show (s.2.2.1 32 1).toInt ≤ 32; rw [← e_32_1]; (first | have a0 := oa3 i35x6 ro_32_0 i20a | ((first | have a0 := in_u i35x6 | (have a0 := i35x6; unfold In at a0)); (first | have a1 := in_u ro_32_0 | (have a1 := ro_32_0; unfold In at a1)); (first | have a2 := in_u i20a | (have a2 := i20a; unfold In at a2)))); have oc := oc_41_60_32; omega) (fun k => by show _ ↔ (k : Int) < (s.2.2.1 32 1).toInt; rw [← e_32_1]; exact all_b (by (first | have a0 := oa3 i35x6 ro_32_0 i20a | ((first | have a0 := in_u i35x6 | (have a0 := i35x6; unfold In at a0)); (first | have a1 := in_u ro_32_0 | (have a1 := ro_32_0; unfold In at a1)); (first | have a2 := in_u i20a | (have a2 := i20a; unfold In at a2)))); have oc := oc_41_60_32; omega) k) (sF_get (s := s20) (q := 60) (j := 1)).symm p39b)⟩
      have n46a : (z43) = (s39).2.2.1 60 1 := by exact e43
      have n46b : ((s.2.2.1 32 4).toInt = (s.2.2.1 32 0).toInt → ((s39).2.2.1 32 4).toInt = ((s39).2.2.1 32 0).toInt) := by exact fun _ => (by rw [hF39.2.2.1 32 4 rfl, hF39.2.2.1 32 0 rfl]; exact (show (s20.2.2.1 32 4).toInt = (s20.2.2.1 32 0).toInt from (by rw [← (show z20a = s20.2.2.1 32 4 from e20), ← (show u_32_0 = s20.2.2.1 32 0 from fr_F (s := (sF s 60 0 u_32_0)) (sF_ne rfl (e_32_0)) hF20 rfl)]; exact n20)))
      exact g_ireturn (gd rfl) rfl rfl (hP _ _ ⟨s39, hI39, (fr_tr rfl (fr_sF rfl (fr_tr rfl (fr_sF rfl fr_rf) hF20)) hF39), z43, rfl, rfl, in_w (-2147483648) 2147483647 (i_rng z43) rfl, n46, n46a, n46b⟩)
