section
/-! FUNCTIONAL CONTRACTS, by fgen.py -/
theorem oc_136_1_46 : (Int32.ofInt (-1)).toInt = (-1) ∧ (Int32.ofInt 0).toInt = 0 ∧ (Int32.ofInt 1).toInt = 1 ∧ (Int32.ofInt 2).toInt = 2 ∧ (Int32.ofInt 3).toInt = 3 ∧ (Int32.ofInt 4).toInt = 4 ∧ (Int32.ofInt 7).toInt = 7 ∧ (Int32.ofInt 59).toInt = 59 ∧ (Int32.ofInt 108).toInt = 108 := ⟨rfl, rfl, rfl, rfl, rfl, rfl, rfl, rfl, rfl⟩
/-- GraphHouse$Ledger.readCommand -/
theorem f_136_1_46 {Z : AmZ} {A : Nat → Nat} {s : GS} {ex : va_W} {d : Nat} {X : AmX} {u_2_0 : Int32} {u_2_1 : Int32} {u_30_0 : Int32} {u_46_2 : Int32} {u_46_1 : Int32} {u_46_3 : Int32} {u_46_4 : Int32} {u_46_5 : Int32} (hd : 9 ≤ d) (hI : Inv s) (e_2_0 : u_2_0 = s.2.2.1 2 0) (e_2_1 : u_2_1 = s.2.2.1 2 1) (e_30_0 : u_30_0 = s.2.2.1 30 0) (e_46_2 : u_46_2 = s.2.2.1 46 2) (e_46_1 : u_46_1 = s.2.2.1 46 1) (e_46_3 : u_46_3 = s.2.2.1 46 3) (e_46_4 : u_46_4 = s.2.2.1 46 4) (e_46_5 : u_46_5 = s.2.2.1 46 5) (p_0 : (u_46_2).toInt ≤ (u_46_1).toInt) (q_0 : KL s) (q_1 : (s.2.2.1 46 3).toInt = 1 → In (s.2.2.1 46 5) 0 25) (q_2 : ∃ a : Nat, TKN (s.1 47) (s.2.2.1 46 1).toInt.toNat a (s.2.2.1 46 4).toInt.toNat (s.2.2.1 46 2).toInt.toNat (s.2.2.1 46 3).toInt (s.2.2.1 46 5).toInt) (q_3 : TQ s) (q_4 : (s.2.2.1 46 3).toInt ≠ 0) : GC Z d 136 [.ref (A 1), .ref (A 46)] (WW Z A s ++ ex) (lc s) (lsl s) (fun v u => ∃ a : Nat, ∃ t : GS, Inv t ∧ Fr fm_136_1_46 s t ∧ ((t.2.2.1 46 2).toInt ≤ (t.2.2.1 46 1).toInt) ∧ ((s.2.2.1 2 0).toInt ≤ (t.2.2.1 2 0).toInt) ∧ ∃ z : Int32, v = some (.int z) ∧ u = WW Z (ax A 30 a) t ++ ex ∧ In z 0 1 ∧ (KL t) ∧ ((z).toInt ≠ 0 → (t.2.2.1 30 0).toInt = nln s) ∧ ((z).toInt ≠ 0 → (s.2.2.1 2 0).toInt ≤ 3999) ∧ (∀ k : Nat, (k : Int) < 7 * (s.2.2.1 2 0).toInt → t.1 30 k = s.1 30 k) ∧ ((z).toInt ≠ 0 → ∀ a : Nat, TKN (s.1 47) (s.2.2.1 46 1).toInt.toNat a (s.2.2.1 46 4).toInt.toNat (s.2.2.1 46 2).toInt.toNat (s.2.2.1 46 3).toInt (s.2.2.1 46 5).toInt → ∃ c V, CMP (s.1 47) (s.2.2.1 46 1).toInt.toNat a (s.2.2.1 46 4).toInt.toNat c V (t.2.2.1 46 2).toInt.toNat ∧ dkC (gvC s) c V ∧ gvC t = opC (gvC s) c V) ∧ ((z).toInt = 0 → ∀ a : Nat, TKN (s.1 47) (s.2.2.1 46 1).toInt.toNat a (s.2.2.1 46 4).toInt.toNat (s.2.2.1 46 2).toInt.toNat (s.2.2.1 46 3).toInt (s.2.2.1 46 5).toInt → CMX (s.1 47) (s.2.2.1 46 1).toInt.toNat a (t.2.2.1 46 6).toInt (t.2.2.1 46 7).toInt.toNat ∨ ∃ c V e, CMP (s.1 47) (s.2.2.1 46 1).toInt.toNat a (t.2.2.1 46 7).toInt.toNat c V e ∧ ¬ dkC (gvC s) c V ∧ (t.2.2.1 46 6).toInt = 4) ∧ ((z).toInt ≠ 0 → TQ t) ∧ ((z).toInt ≠ 0 → t.2.2.1 46 6 = s.2.2.1 46 6 ∧ t.2.2.1 46 7 = s.2.2.1 46 7) ∧ ((z).toInt = 0 → 0 ≤ (t.2.2.1 46 7).toInt) ∧ ((z).toInt ≠ 0 → LGC s t)) X := by
  intro post xp hP hX
  have ro_46_1 := inv_F hI 0 1000 rfl e_46_1
  have ct46 : ∀ (k46 : Nat) (sc46 : GS) (y46_2 : Int32) (y46_3 : Int32) (y46_4 : Int32) (y46_5 : Int32) (w46_46_2 : Int32) (w46_2_0 : Int32) (w46_2_1 : Int32) (w46_30_0 : Int32), Inv sc46 → Fr fm_136_1_46 s sc46 → (In y46_2 0 1000) → (In y46_3 (-1) 25) → (In y46_4 1 5) → (In y46_5 0 5) → (w46_46_2 = sc46.2.2.1 46 2) → (w46_2_0 = sc46.2.2.1 2 0) → (w46_2_1 = sc46.2.2.1 2 1) → (w46_30_0 = sc46.2.2.1 30 0) → ((w46_46_2).toInt ≤ (u_46_1).toInt) → ((u_2_0).toInt ≤ (w46_2_0).toInt) → ((y46_3).toInt = 13 → (y46_4).toInt = 1) → ((y46_4).toInt = 1 → 1 ≤ (y46_5).toInt → In (sc46.1 31 0) 0 25) → (Fr ([31], [], [(46, 2), (46, 3), (46, 4), (46, 5), (46, 6), (46, 7)], []) s sc46) → (SHQ (y46_3).toInt (y46_4).toInt) → ((s.2.2.1 46 3).toInt = 1 ∧ (s.2.2.1 46 5).toInt = (y46_3).toInt ∧ (y46_2) = s.2.2.1 46 4) → ((y46_5).toInt ≤ (cmA (y46_3).toInt : Int)) → (∀ a : Nat, TKN (s.1 47) (s.2.2.1 46 1).toInt.toNat a (s.2.2.1 46 4).toInt.toNat (s.2.2.1 46 2).toInt.toNat (s.2.2.1 46 3).toInt (s.2.2.1 46 5).toInt → (∀ j, j < (y46_5).toInt.toNat → ∃ q f, TSQ (s.1 47) (s.2.2.1 46 1).toInt.toNat a (j + 1) q f (cmK (y46_3).toInt (j + 1)) (sc46.1 31 j).toInt) ∧ ∃ p k v, TSQ (s.1 47) (s.2.2.1 46 1).toInt.toNat a (y46_5).toInt.toNat p (w46_46_2).toInt.toNat k v) → (sc46.2.2.1 46 6 = s.2.2.1 46 6 ∧ sc46.2.2.1 46 7 = s.2.2.1 46 7) → 5 - (y46_5).toInt < (k46 : Int) → GG Z (d - 1) 136 post (gx xp) (1 + k46 * 900) 46 (fun j => xlook j [(0, .ref (A 1)), (1, .ref (A 46)), (2, .int y46_2), (3, .int y46_3), (4, .ref (zq Z y46_4)), (5, .int y46_5)]) [] (WW Z A sc46 ++ ex) (lc s) (lsl s) := by
    intro k46
    induction k46 with
    | zero => intro sc46 y46_2 y46_3 y46_4 y46_5 w46_46_2 w46_2_0 w46_2_1 w46_30_0 hIc46 hFc46 j46_2 j46_3 j46_4 j46_5 v46_46_2 v46_2_0 v46_2_1 v46_30_0 n46_0 n46_1 g46_0 g46_1 g46_2 g46_3 g46_4 g46_5 g46_6 g46_7 mm46; exact m_no mm46 j46_5 rfl
    | succ k46 ih46 =>
      intro sc46 y46_2 y46_3 y46_4 y46_5 w46_46_2 w46_2_0 w46_2_1 w46_30_0 hIc46 hFc46 j46_2 j46_3 j46_4 j46_5 v46_46_2 v46_2_0 v46_2_1 v46_30_0 n46_0 n46_1 g46_0 g46_1 g46_2 g46_3 g46_4 g46_5 g46_6 g46_7 mm46
      refine gg_w (M := 1 + k46 * 900 + 900) gws ?_
      refine g_iload 48 (gd rfl) rfl rfl ?_
      refine g_aload 50 (gd rfl) rfl rfl ?_
      have i50 : In y46_4 0 6 := in_w 0 6 j46_4 rfl
      refine g_callS (X := _) (As := []) (r := [.int y46_5]) (x := y46_4) 53 (gd rfl) rfl rfl rfl zm_427 rfl rfl rfl i50 (Nat.le_of_ble_eq_true rfl) (k_427 i50 (by omega)) (fun e u h => h) (fun v u h => ?_)
      obtain ⟨z50, rfl, rfl, p50⟩ := h
      have i50a : In z50 0 9 := by have a := zn_9 i50; exact ⟨by omega, by omega⟩
      show GG _ _ _ _ _ _ _ _ [.int z50, .int y46_5] _ _ _
      refine g_cmp_ge 56 125 (gd rfl) rfl rfl (fun c53 => ?_) (fun c53 => ?_)
      · skip
        have i53 := r_le1 0 5 c53 i50a j46_5 rfl
        refine g_aload_n 126 (gd rfl) rfl rfl ?_
        refine g_bipush 7 128 (gd rfl) rfl rfl ?_
        refine g_iconst 1 129 (gd rfl) rfl rfl ?_
        have v129 : u_46_1 = sc46.2.2.1 46 1 := fr_F e_46_1 hFc46 rfl
        have n129 : (w46_46_2).toInt ≤ (u_46_1).toInt := by first | exact n46_0 | (exact (have a0 := in_u ro_46_1; have a1 := in_u ((inv_F hIc46 448 28000 rfl v46_30_0)); have a2 := in_u ((inv_F hIc46 0 32 rfl v46_2_1)); have a3 := in_u ((inv_F hIc46 0 4000 rfl v46_2_0)); have a4 := in_u ((inv_F hIc46 0 1000 rfl v46_46_2)); have a5 := in_u j46_5; have a6 := in_u j46_4; have a7 := in_u j46_3; have a8 := in_u j46_2; have oc := oc_136_1_46; by omega))
        refine g_callv (X := _) (As := [.int (Int32.ofInt 7), .int (Int32.ofInt 1)]) (r := []) (b := A 46) (q := 46) 132 (gd rfl) rfl rfl rfl rfl rfl (ww_o rfl) (Nat.le_of_ble_eq_true rfl) (Nat.zero_le _) (Nat.zero_le _) (f_171_46 (by first | exact dq1 hd rfl | exact dq0 hd rfl | exact dq2 hd rfl | exact dq3 hd rfl | omega) hIc46 (in_w 7 7 (in_c 7 rfl) rfl) (in_w 1 1 (in_c 1 rfl) rfl) v46_46_2 v129 n129) (fun e u h => h) (fun v u h => ?_)
        obtain ⟨s129, hI129, hF129, n129a, n129b, n129c, rfl, rfl, p129, p129a, p129b⟩ := h
        obtain ⟨z129a, e129⟩ : ∃ w, w = s129.2.2.1 46 2 := ⟨_, rfl⟩
        have i129a := inv_F hI129 0 1000 rfl e129
        obtain ⟨z129b, e129a⟩ : ∃ w, w = s129.2.2.1 46 4 := ⟨_, rfl⟩
        have i129b := inv_F hI129 0 1000 rfl e129a
        rw [← (show z129a = s129.2.2.1 46 2 from e129)] at n129a
        rw [← (show u_46_1 = s129.2.2.1 46 1 from fr_F (fr_F e_46_1 hFc46 rfl) hF129 rfl)] at n129a
        rw [← (show z129a = s129.2.2.1 46 2 from e129)] at n129b
        rw [← (show z129b = s129.2.2.1 46 4 from e129a)] at n129b
        rw [← (show w46_46_2 = sc46.2.2.1 46 2 from v46_46_2)] at n129c
        rw [← (show z129b = s129.2.2.1 46 4 from e129a)] at n129c
        show GG _ _ _ _ _ _ _ _ [] _ _ _
        refine g_aload_n 133 (gd rfl) rfl rfl ?_
        refine g_bipush 59 135 (gd rfl) rfl rfl ?_
        refine g_callv (X := _) (As := [.int (Int32.ofInt 59)]) (r := []) (b := A 46) (q := 46) 138 (gd rfl) rfl rfl rfl rfl rfl (ww_o rfl) (Nat.le_of_ble_eq_true rfl) (mc := 0) (ms := 0) (Nat.zero_le _) (Nat.zero_le _) (P := fun v u => _) ?_ (fun e u h => h) (fun v u h => h)
        intro po135 xx135 hp135 hx135
        refine g_enter2 (k := 170) (N := 300) (by first | exact dq1 hd rfl | exact dq0 hd rfl | exact dq2 hd rfl | exact dq3 hd rfl | omega) rfl (Nat.le_of_ble_eq_true rfl) ?_
        refine g_aload_n 1 (gd rfl) rfl rfl ?_
        refine g_getI 4 (gd rfl) rfl rfl rfl (fun z135x1 e135x1 => ?_)
        have i135x1 := inv_F hI129 0 5 rfl e135x1
        refine g_iconst 3 5 (gd rfl) rfl rfl ?_
        refine g_cmp_ne 8 20 (gd rfl) rfl rfl (fun c135x5 => ?_) (fun c135x5 => ?_)
        · skip
          refine g_iconst 0 21 (gd rfl) rfl rfl ?_
          refine g_ireturn (gd rfl) rfl (nb01 (in_w 0 1 (in_c 0 rfl) rfl)) (hp135 _ _ ?_)
          show GG _ _ _ _ _ _ _ _ [.int (Int32.ofInt 0)] _ _ _
          refine g_if_ne 141 148 (gd rfl) rfl rfl (fun c138 => ?_) (fun c138 => ?_)
          · skip
            exact zn_ne c138 (in_c 0 rfl) rfl
          · skip
            refine g_aload_n 142 (gd rfl) rfl rfl ?_
            refine g_iconst 2 143 (gd rfl) rfl rfl ?_
            refine g_iconst 3 144 (gd rfl) rfl rfl ?_
            refine g_callv (X := _) (As := [.int (Int32.ofInt 2), .int (Int32.ofInt 3)]) (r := []) (b := A 46) (q := 46) 147 (gd rfl) rfl rfl rfl rfl rfl (ww_o rfl) (Nat.le_of_ble_eq_true rfl) (Nat.zero_le _) (Nat.zero_le _) (f_169_46 (by first | exact dq1 hd rfl | exact dq0 hd rfl | exact dq2 hd rfl | exact dq3 hd rfl | omega) hI129 (in_w 2 2 (in_c 2 rfl) rfl) (in_w 3 3 (in_c 3 rfl) rfl) e135x1 e129a) (fun e u h => h) (fun v u h => ?_)
            obtain ⟨s144, hI144, hF144, z144, rfl, rfl, i144, p144⟩ := h
            show GG _ _ _ _ _ _ _ _ [.int z144] _ _ _
            have n147 : KL s144 := by have hL9 : Fr ([31], [], [(46, 2), (46, 3), (46, 4), (46, 5), (46, 6), (46, 7)], []) s s144 := (fr_tr rfl (fr_tr rfl g46_2 hF129) hF144); exact kl_fr q_0 hL9 rfl
            have n147a : (z144).toInt ≠ 0 → (s144.2.2.1 30 0).toInt = nln s := by first | (intro h; exact absurd rfl h) | (intro h; exfalso; revert h; first | (unfold In at i39; omega) | (unfold In at i104; omega) | (unfold In at i144; omega))
            have n147b : (z144).toInt ≠ 0 → (s.2.2.1 2 0).toInt ≤ 3999 := by first | (intro h; exact absurd rfl h) | (intro h; exfalso; revert h; first | (unfold In at i39; omega) | (unfold In at i104; omega) | (unfold In at i144; omega))
            have n147c : ∀ k : Nat, (k : Int) < 7 * (s.2.2.1 2 0).toInt → s144.1 30 k = s.1 30 k := by have hL9 : Fr ([31], [], [(46, 2), (46, 3), (46, 4), (46, 5), (46, 6), (46, 7)], []) s s144 := (fr_tr rfl (fr_tr rfl g46_2 hF129) hF144); exact fun k _ => by rw [hL9.1 30 rfl]
            have n147d : (z144).toInt ≠ 0 → ∀ a : Nat, TKN (s.1 47) (s.2.2.1 46 1).toInt.toNat a (s.2.2.1 46 4).toInt.toNat (s.2.2.1 46 2).toInt.toNat (s.2.2.1 46 3).toInt (s.2.2.1 46 5).toInt → ∃ c V, CMP (s.1 47) (s.2.2.1 46 1).toInt.toNat a (s.2.2.1 46 4).toInt.toNat c V (s144.2.2.1 46 2).toInt.toNat ∧ dkC (gvC s) c V ∧ gvC s144 = opC (gvC s) c V := by first | (intro h; exact absurd rfl h) | (intro h; exfalso; revert h; first | (unfold In at i39; omega) | (unfold In at i104; omega) | (unfold In at i144; omega))
            have n147e : (z144).toInt = 0 → ∀ a : Nat, TKN (s.1 47) (s.2.2.1 46 1).toInt.toNat a (s.2.2.1 46 4).toInt.toNat (s.2.2.1 46 2).toInt.toNat (s.2.2.1 46 3).toInt (s.2.2.1 46 5).toInt → CMX (s.1 47) (s.2.2.1 46 1).toInt.toNat a (s144.2.2.1 46 6).toInt (s144.2.2.1 46 7).toInt.toNat ∨ ∃ c V e, CMP (s.1 47) (s.2.2.1 46 1).toInt.toNat a (s144.2.2.1 46 7).toInt.toNat c V e ∧ ¬ dkC (gvC s) c V ∧ (s144.2.2.1 46 6).toInt = 4 := by intro _ a ha; obtain ⟨h1, p1, k1, v1, h2⟩ := g46_6 a ha; have hk9 := p129b; rw [show sc46.1 47 = s.1 47 from g46_2.1 47 rfl, show sc46.2.2.1 46 1 = s.2.2.1 46 1 from g46_2.2.2.1 46 1 rfl, ← v46_46_2] at hk9; have h5 : y46_5.toInt.toNat = cmA y46_3.toInt := (by have h9 := shq_n g46_3; have h8 := p50; rw [h9] at h8; have h7 := (shq_5 g46_3).1; have h6 := g46_5; exact (have a0 := in_u ro_46_1; have a1 := in_u ((inv_F hIc46 448 28000 rfl v46_30_0)); have a2 := in_u ((inv_F hIc46 0 32 rfl v46_2_1)); have a3 := in_u ((inv_F hIc46 0 4000 rfl v46_2_0)); have a4 := in_u ((inv_F hIc46 0 1000 rfl v46_46_2)); have a5 := in_u j46_5; have a6 := in_u j46_4; have a7 := in_u j46_3; have a8 := in_u j46_2; have a9 := in_u i135x1; have a10 := in_u i129b; have a11 := in_u i129a; have oc := oc_136_1_46; by omega)); refine Or.inl (Or.inr ⟨_, _, _, shq_i g46_3, by have h9 := ha; rw [g46_4.1, g46_4.2.1] at h9; exact h9, cmA y46_3.toInt, Nat.le_refl _, fun j hj => by obtain ⟨q, f, h9⟩ := h1 j (by omega); exact ⟨q, f, _, h9⟩, (s129.2.2.1 46 2).toInt.toNat, (s129.2.2.1 46 3).toInt, (s129.2.2.1 46 5).toInt, ?_, ?_, p144.1⟩); (rw [p144.2, ← h5]; exact ⟨p1, w46_46_2.toInt.toNat, k1, v1, h2, hk9⟩); (intro h9; unfold cmK at h9; rw [if_pos rfl] at h9; have h8 := tkn_v3 hk9 h9; first | (rw [← e135x1] at h9; exact (have a0 := in_u ro_46_1; have a1 := in_u ((inv_F hIc46 448 28000 rfl v46_30_0)); have a2 := in_u ((inv_F hIc46 0 32 rfl v46_2_1)); have a3 := in_u ((inv_F hIc46 0 4000 rfl v46_2_0)); have a4 := in_u ((inv_F hIc46 0 1000 rfl v46_46_2)); have a5 := in_u j46_5; have a6 := in_u j46_4; have a7 := in_u j46_3; have a8 := in_u j46_2; have a9 := in_u i135x1; have a10 := in_u i129b; have a11 := in_u i129a; have oc := oc_136_1_46; by omega)) | (rw [← e135x9] at h8; exact (have a0 := in_u ro_46_1; have a1 := in_u ((inv_F hIc46 448 28000 rfl v46_30_0)); have a2 := in_u ((inv_F hIc46 0 32 rfl v46_2_1)); have a3 := in_u ((inv_F hIc46 0 4000 rfl v46_2_0)); have a4 := in_u ((inv_F hIc46 0 1000 rfl v46_46_2)); have a5 := in_u j46_5; have a6 := in_u j46_4; have a7 := in_u j46_3; have a8 := in_u j46_2; have a9 := in_u i135x1; have a10 := in_u i129b; have a11 := in_u i129a; have oc := oc_136_1_46; by omega)))
            have n147f : (z144).toInt ≠ 0 → TQ s144 := by first | (intro h; exact absurd rfl h) | (intro h; exfalso; revert h; first | (unfold In at i39; omega) | (unfold In at i104; omega) | (unfold In at i144; omega))
            have n147g : (z144).toInt ≠ 0 → s144.2.2.1 46 6 = s.2.2.1 46 6 ∧ s144.2.2.1 46 7 = s.2.2.1 46 7 := by first | (intro h; exact absurd rfl h) | (intro h; exfalso; revert h; first | (unfold In at i39; omega) | (unfold In at i104; omega) | (unfold In at i144; omega))
            have n147h : (z144).toInt = 0 → 0 ≤ (s144.2.2.1 46 7).toInt := by intro _; rw [p144.2, ← e129a]; exact (have a0 := in_u ro_46_1; have a1 := in_u ((inv_F hIc46 448 28000 rfl v46_30_0)); have a2 := in_u ((inv_F hIc46 0 32 rfl v46_2_1)); have a3 := in_u ((inv_F hIc46 0 4000 rfl v46_2_0)); have a4 := in_u ((inv_F hIc46 0 1000 rfl v46_46_2)); have a5 := in_u j46_5; have a6 := in_u j46_4; have a7 := in_u j46_3; have a8 := in_u j46_2; have a9 := in_u i135x1; have a10 := in_u i129b; have a11 := in_u i129a; have oc := oc_136_1_46; by omega)
            have n147i : (z144).toInt ≠ 0 → LGC s s144 := by first | (intro h; exact absurd rfl h) | (intro h; exfalso; revert h; first | (unfold In at i39; omega) | (unfold In at i104; omega) | (unfold In at i144; omega))
            have n147j : (z129a).toInt ≤ (u_46_1).toInt := by exact (have a0 := in_u ro_46_1; have a1 := in_u ((inv_F hIc46 448 28000 rfl v46_30_0)); have a2 := in_u ((inv_F hIc46 0 32 rfl v46_2_1)); have a3 := in_u ((inv_F hIc46 0 4000 rfl v46_2_0)); have a4 := in_u ((inv_F hIc46 0 1000 rfl v46_46_2)); have a5 := in_u j46_5; have a6 := in_u j46_4; have a7 := in_u j46_3; have a8 := in_u j46_2; have a9 := in_u i135x1; have a10 := in_u i129b; have a11 := in_u i129a; have oc := oc_136_1_46; by omega)
            have n147k : (s144.2.2.1 46 2).toInt ≤ (s144.2.2.1 46 1).toInt := by have b0 : z129a = s144.2.2.1 46 2 := fr_F (e129) hF144 rfl; have b1 : u_46_1 = s144.2.2.1 46 1 := fr_F (fr_F (fr_F e_46_1 hFc46 rfl) hF129 rfl) hF144 rfl; rw [← b0, ← b1]; exact n147j
            have n147l : (u_2_0).toInt ≤ (w46_2_0).toInt := by first | exact n46_1 | (exact (have a0 := in_u ro_46_1; have a1 := in_u ((inv_F hIc46 448 28000 rfl v46_30_0)); have a2 := in_u ((inv_F hIc46 0 32 rfl v46_2_1)); have a3 := in_u ((inv_F hIc46 0 4000 rfl v46_2_0)); have a4 := in_u ((inv_F hIc46 0 1000 rfl v46_46_2)); have a5 := in_u j46_5; have a6 := in_u j46_4; have a7 := in_u j46_3; have a8 := in_u j46_2; have a9 := in_u i135x1; have a10 := in_u i129b; have a11 := in_u i129a; have oc := oc_136_1_46; by omega))
            have n147m : (s.2.2.1 2 0).toInt ≤ (s144.2.2.1 2 0).toInt := by have b0 : w46_2_0 = s144.2.2.1 2 0 := fr_F (fr_F (v46_2_0) hF129 rfl) hF144 rfl; first | (rw [← b0, ← e_2_0]; exact n147l) | (rw [← b0]; exact n147l)
            exact g_ireturn (gd rfl) rfl (nb01 (in_w 0 1 i144 rfl)) (hP _ _ ⟨(A 30), s144, hI144, (fr_tr rfl (fr_tr rfl hFc46 hF129) hF144), n147k, n147m, z144, rfl, (by rw [ax_id]), in_w 0 1 i144 rfl, n147, n147a, n147b, n147c, n147d, n147e, n147f, n147g, n147h, n147i⟩)
        · skip
          have i135x5 := r_eq1 3 3 c135x5 i135x1 (in_c 3 rfl) rfl
          refine g_aload_n 9 (gd rfl) rfl rfl ?_
          refine g_getI 12 (gd rfl) rfl rfl rfl (fun z135x9 e135x9 => ?_)
          refine g_iload_n 13 (gd rfl) rfl rfl ?_
          refine g_cmp_ne 16 20 (gd rfl) rfl rfl (fun c135x13 => ?_) (fun c135x13 => ?_)
          · skip
            refine g_iconst 0 21 (gd rfl) rfl rfl ?_
            refine g_ireturn (gd rfl) rfl (nb01 (in_w 0 1 (in_c 0 rfl) rfl)) (hp135 _ _ ?_)
            show GG _ _ _ _ _ _ _ _ [.int (Int32.ofInt 0)] _ _ _
            refine g_if_ne 141 148 (gd rfl) rfl rfl (fun c138 => ?_) (fun c138 => ?_)
            · skip
              exact zn_ne c138 (in_c 0 rfl) rfl
            · skip
              refine g_aload_n 142 (gd rfl) rfl rfl ?_
              refine g_iconst 2 143 (gd rfl) rfl rfl ?_
              refine g_iconst 3 144 (gd rfl) rfl rfl ?_
              refine g_callv (X := _) (As := [.int (Int32.ofInt 2), .int (Int32.ofInt 3)]) (r := []) (b := A 46) (q := 46) 147 (gd rfl) rfl rfl rfl rfl rfl (ww_o rfl) (Nat.le_of_ble_eq_true rfl) (Nat.zero_le _) (Nat.zero_le _) (f_169_46 (by first | exact dq1 hd rfl | exact dq0 hd rfl | exact dq2 hd rfl | exact dq3 hd rfl | omega) hI129 (in_w 2 2 (in_c 2 rfl) rfl) (in_w 3 3 (in_c 3 rfl) rfl) e135x1 e129a) (fun e u h => h) (fun v u h => ?_)
              obtain ⟨s144, hI144, hF144, z144, rfl, rfl, i144, p144⟩ := h
              show GG _ _ _ _ _ _ _ _ [.int z144] _ _ _
              have n147 : KL s144 := by have hL9 : Fr ([31], [], [(46, 2), (46, 3), (46, 4), (46, 5), (46, 6), (46, 7)], []) s s144 := (fr_tr rfl (fr_tr rfl g46_2 hF129) hF144); exact kl_fr q_0 hL9 rfl
              have n147a : (z144).toInt ≠ 0 → (s144.2.2.1 30 0).toInt = nln s := by first | (intro h; exact absurd rfl h) | (intro h; exfalso; revert h; first | (unfold In at i39; omega) | (unfold In at i104; omega) | (unfold In at i144; omega))
              have n147b : (z144).toInt ≠ 0 → (s.2.2.1 2 0).toInt ≤ 3999 := by first | (intro h; exact absurd rfl h) | (intro h; exfalso; revert h; first | (unfold In at i39; omega) | (unfold In at i104; omega) | (unfold In at i144; omega))
              have n147c : ∀ k : Nat, (k : Int) < 7 * (s.2.2.1 2 0).toInt → s144.1 30 k = s.1 30 k := by have hL9 : Fr ([31], [], [(46, 2), (46, 3), (46, 4), (46, 5), (46, 6), (46, 7)], []) s s144 := (fr_tr rfl (fr_tr rfl g46_2 hF129) hF144); exact fun k _ => by rw [hL9.1 30 rfl]
              have n147d : (z144).toInt ≠ 0 → ∀ a : Nat, TKN (s.1 47) (s.2.2.1 46 1).toInt.toNat a (s.2.2.1 46 4).toInt.toNat (s.2.2.1 46 2).toInt.toNat (s.2.2.1 46 3).toInt (s.2.2.1 46 5).toInt → ∃ c V, CMP (s.1 47) (s.2.2.1 46 1).toInt.toNat a (s.2.2.1 46 4).toInt.toNat c V (s144.2.2.1 46 2).toInt.toNat ∧ dkC (gvC s) c V ∧ gvC s144 = opC (gvC s) c V := by first | (intro h; exact absurd rfl h) | (intro h; exfalso; revert h; first | (unfold In at i39; omega) | (unfold In at i104; omega) | (unfold In at i144; omega))
              have n147e : (z144).toInt = 0 → ∀ a : Nat, TKN (s.1 47) (s.2.2.1 46 1).toInt.toNat a (s.2.2.1 46 4).toInt.toNat (s.2.2.1 46 2).toInt.toNat (s.2.2.1 46 3).toInt (s.2.2.1 46 5).toInt → CMX (s.1 47) (s.2.2.1 46 1).toInt.toNat a (s144.2.2.1 46 6).toInt (s144.2.2.1 46 7).toInt.toNat ∨ ∃ c V e, CMP (s.1 47) (s.2.2.1 46 1).toInt.toNat a (s144.2.2.1 46 7).toInt.toNat c V e ∧ ¬ dkC (gvC s) c V ∧ (s144.2.2.1 46 6).toInt = 4 := by intro _ a ha; obtain ⟨h1, p1, k1, v1, h2⟩ := g46_6 a ha; have hk9 := p129b; rw [show sc46.1 47 = s.1 47 from g46_2.1 47 rfl, show sc46.2.2.1 46 1 = s.2.2.1 46 1 from g46_2.2.2.1 46 1 rfl, ← v46_46_2] at hk9; have h5 : y46_5.toInt.toNat = cmA y46_3.toInt := (by have h9 := shq_n g46_3; have h8 := p50; rw [h9] at h8; have h7 := (shq_5 g46_3).1; have h6 := g46_5; exact (have a0 := in_u ro_46_1; have a1 := in_u ((inv_F hIc46 448 28000 rfl v46_30_0)); have a2 := in_u ((inv_F hIc46 0 32 rfl v46_2_1)); have a3 := in_u ((inv_F hIc46 0 4000 rfl v46_2_0)); have a4 := in_u ((inv_F hIc46 0 1000 rfl v46_46_2)); have a5 := in_u j46_5; have a6 := in_u j46_4; have a7 := in_u j46_3; have a8 := in_u j46_2; have a9 := in_u i135x5; have a10 := in_u i129b; have a11 := in_u i129a; have oc := oc_136_1_46; by omega)); refine Or.inl (Or.inr ⟨_, _, _, shq_i g46_3, by have h9 := ha; rw [g46_4.1, g46_4.2.1] at h9; exact h9, cmA y46_3.toInt, Nat.le_refl _, fun j hj => by obtain ⟨q, f, h9⟩ := h1 j (by omega); exact ⟨q, f, _, h9⟩, (s129.2.2.1 46 2).toInt.toNat, (s129.2.2.1 46 3).toInt, (s129.2.2.1 46 5).toInt, ?_, ?_, p144.1⟩); (rw [p144.2, ← h5]; exact ⟨p1, w46_46_2.toInt.toNat, k1, v1, h2, hk9⟩); (intro h9; unfold cmK at h9; rw [if_pos rfl] at h9; have h8 := tkn_v3 hk9 h9; first | (rw [← e135x1] at h9; exact (have a0 := in_u ro_46_1; have a1 := in_u ((inv_F hIc46 448 28000 rfl v46_30_0)); have a2 := in_u ((inv_F hIc46 0 32 rfl v46_2_1)); have a3 := in_u ((inv_F hIc46 0 4000 rfl v46_2_0)); have a4 := in_u ((inv_F hIc46 0 1000 rfl v46_46_2)); have a5 := in_u j46_5; have a6 := in_u j46_4; have a7 := in_u j46_3; have a8 := in_u j46_2; have a9 := in_u i135x5; have a10 := in_u i129b; have a11 := in_u i129a; have oc := oc_136_1_46; by omega)) | (rw [← e135x9] at h8; exact (have a0 := in_u ro_46_1; have a1 := in_u ((inv_F hIc46 448 28000 rfl v46_30_0)); have a2 := in_u ((inv_F hIc46 0 32 rfl v46_2_1)); have a3 := in_u ((inv_F hIc46 0 4000 rfl v46_2_0)); have a4 := in_u ((inv_F hIc46 0 1000 rfl v46_46_2)); have a5 := in_u j46_5; have a6 := in_u j46_4; have a7 := in_u j46_3; have a8 := in_u j46_2; have a9 := in_u i135x5; have a10 := in_u i129b; have a11 := in_u i129a; have oc := oc_136_1_46; by omega)))
              have n147f : (z144).toInt ≠ 0 → TQ s144 := by first | (intro h; exact absurd rfl h) | (intro h; exfalso; revert h; first | (unfold In at i39; omega) | (unfold In at i104; omega) | (unfold In at i144; omega))
              have n147g : (z144).toInt ≠ 0 → s144.2.2.1 46 6 = s.2.2.1 46 6 ∧ s144.2.2.1 46 7 = s.2.2.1 46 7 := by first | (intro h; exact absurd rfl h) | (intro h; exfalso; revert h; first | (unfold In at i39; omega) | (unfold In at i104; omega) | (unfold In at i144; omega))
              have n147h : (z144).toInt = 0 → 0 ≤ (s144.2.2.1 46 7).toInt := by intro _; rw [p144.2, ← e129a]; exact (have a0 := in_u ro_46_1; have a1 := in_u ((inv_F hIc46 448 28000 rfl v46_30_0)); have a2 := in_u ((inv_F hIc46 0 32 rfl v46_2_1)); have a3 := in_u ((inv_F hIc46 0 4000 rfl v46_2_0)); have a4 := in_u ((inv_F hIc46 0 1000 rfl v46_46_2)); have a5 := in_u j46_5; have a6 := in_u j46_4; have a7 := in_u j46_3; have a8 := in_u j46_2; have a9 := in_u i135x5; have a10 := in_u i129b; have a11 := in_u i129a; have oc := oc_136_1_46; by omega)
              have n147i : (z144).toInt ≠ 0 → LGC s s144 := by first | (intro h; exact absurd rfl h) | (intro h; exfalso; revert h; first | (unfold In at i39; omega) | (unfold In at i104; omega) | (unfold In at i144; omega))
              have n147j : (z129a).toInt ≤ (u_46_1).toInt := by exact (have a0 := in_u ro_46_1; have a1 := in_u ((inv_F hIc46 448 28000 rfl v46_30_0)); have a2 := in_u ((inv_F hIc46 0 32 rfl v46_2_1)); have a3 := in_u ((inv_F hIc46 0 4000 rfl v46_2_0)); have a4 := in_u ((inv_F hIc46 0 1000 rfl v46_46_2)); have a5 := in_u j46_5; have a6 := in_u j46_4; have a7 := in_u j46_3; have a8 := in_u j46_2; have a9 := in_u i135x5; have a10 := in_u i129b; have a11 := in_u i129a; have oc := oc_136_1_46; by omega)
              have n147k : (s144.2.2.1 46 2).toInt ≤ (s144.2.2.1 46 1).toInt := by have b0 : z129a = s144.2.2.1 46 2 := fr_F (e129) hF144 rfl; have b1 : u_46_1 = s144.2.2.1 46 1 := fr_F (fr_F (fr_F e_46_1 hFc46 rfl) hF129 rfl) hF144 rfl; rw [← b0, ← b1]; exact n147j
              have n147l : (u_2_0).toInt ≤ (w46_2_0).toInt := by first | exact n46_1 | (exact (have a0 := in_u ro_46_1; have a1 := in_u ((inv_F hIc46 448 28000 rfl v46_30_0)); have a2 := in_u ((inv_F hIc46 0 32 rfl v46_2_1)); have a3 := in_u ((inv_F hIc46 0 4000 rfl v46_2_0)); have a4 := in_u ((inv_F hIc46 0 1000 rfl v46_46_2)); have a5 := in_u j46_5; have a6 := in_u j46_4; have a7 := in_u j46_3; have a8 := in_u j46_2; have a9 := in_u i135x5; have a10 := in_u i129b; have a11 := in_u i129a; have oc := oc_136_1_46; by omega))
              have n147m : (s.2.2.1 2 0).toInt ≤ (s144.2.2.1 2 0).toInt := by have b0 : w46_2_0 = s144.2.2.1 2 0 := fr_F (fr_F (v46_2_0) hF129 rfl) hF144 rfl; first | (rw [← b0, ← e_2_0]; exact n147l) | (rw [← b0]; exact n147l)
              exact g_ireturn (gd rfl) rfl (nb01 (in_w 0 1 i144 rfl)) (hP _ _ ⟨(A 30), s144, hI144, (fr_tr rfl (fr_tr rfl hFc46 hF129) hF144), n147k, n147m, z144, rfl, (by rw [ax_id]), in_w 0 1 i144 rfl, n147, n147a, n147b, n147c, n147d, n147e, n147f, n147g, n147h, n147i⟩)
          · skip
            have i135x13 := r_eq1 59 59 c135x13 (i_rng z135x9) (in_c 59 rfl) rfl
            refine g_iconst 1 17 (gd rfl) rfl rfl ?_
            refine g_goto 21 (gd rfl) rfl ?_
            refine g_ireturn (gd rfl) rfl (nb01 (in_w 0 1 (in_c 1 rfl) rfl)) (hp135 _ _ ?_)
            show GG _ _ _ _ _ _ _ _ [.int (Int32.ofInt 1)] _ _ _
            refine g_if_ne 141 148 (gd rfl) rfl rfl (fun c138 => ?_) (fun c138 => ?_)
            · skip
              refine g_aload_n 149 (gd rfl) rfl rfl ?_
              refine g_iload_n 150 (gd rfl) rfl rfl ?_
              have hL : Fr ([31], [], [(46, 2), (46, 3), (46, 4), (46, 5), (46, 6), (46, 7)], []) s s129 := (fr_tr rfl g46_2 hF129)
              have v150 : w46_2_0 = s129.2.2.1 2 0 := fr_F (v46_2_0) hF129 rfl
              have v150a : w46_2_1 = s129.2.2.1 2 1 := fr_F (v46_2_1) hF129 rfl
              have v150b : w46_30_0 = s129.2.2.1 30 0 := fr_F (v46_30_0) hF129 rfl
              have p150 : KL s129 := by exact kl_fr q_0 hL rfl
              have p150a : (y46_3).toInt = 13 → In (s129.1 31 0) 0 25 := by intro h13; rw [hF129.1 31 rfl]; exact g46_1 (g46_0 h13) (by have hz1 := zn_1 (g46_0 h13); have h9 := p50; exact (have a0 := in_u ro_46_1; have a1 := in_u ((inv_F hIc46 448 28000 rfl v46_30_0)); have a2 := in_u ((inv_F hIc46 0 32 rfl v46_2_1)); have a3 := in_u ((inv_F hIc46 0 4000 rfl v46_2_0)); have a4 := in_u ((inv_F hIc46 0 1000 rfl v46_46_2)); have a5 := in_u j46_5; have a6 := in_u j46_4; have a7 := in_u j46_3; have a8 := in_u j46_2; have a9 := in_u i135x13; have a10 := in_u i135x5; have a11 := in_u i129b; have a12 := in_u i129a; have oc := oc_136_1_46; by omega))
              have p150b : cmI (y46_3).toInt := by exact shq_i g46_3
              have p150c : TQ s129 := by exact tq_fr q_3 hL rfl
              have p150d : (y46_3).toInt = 0 → In (s129.1 31 4) 0 25 := by intro h0; obtain ⟨a, ha⟩ := q_2; obtain ⟨q, f, h5⟩ := (g46_6 a ha).1 4 (by have h9 := shq_n g46_3; have h8 := p50; rw [h9, h0] at h8; have h7 : (cmA 0 : Int) = 5 := rfl; exact (have a0 := in_u ro_46_1; have a1 := in_u ((inv_F hIc46 448 28000 rfl v46_30_0)); have a2 := in_u ((inv_F hIc46 0 32 rfl v46_2_1)); have a3 := in_u ((inv_F hIc46 0 4000 rfl v46_2_0)); have a4 := in_u ((inv_F hIc46 0 1000 rfl v46_46_2)); have a5 := in_u j46_5; have a6 := in_u j46_4; have a7 := in_u j46_3; have a8 := in_u j46_2; have a9 := in_u i135x13; have a10 := in_u i135x5; have a11 := in_u i129b; have a12 := in_u i129a; have oc := oc_136_1_46; by omega)); rw [hF129.1 31 rfl]; rw [h0] at h5; obtain ⟨p8, e8, k8, v8, -, h6⟩ := h5; exact tkn_v1 h6 rfl
              refine g_callv (X := _) (As := [.int y46_3]) (r := []) (b := A 1) (q := 1) 153 (gd rfl) rfl rfl rfl rfl rfl (ww_o rfl) (Nat.le_of_ble_eq_true rfl) (Nat.le_of_eq (lc_cg ((show Fr ([31], [], [(46, 2), (46, 3), (46, 4), (46, 5), (46, 6), (46, 7)], []) s s129 from (fr_tr rfl g46_2 hF129)).2.2.1 30 0 rfl) ((show Fr ([31], [], [(46, 2), (46, 3), (46, 4), (46, 5), (46, 6), (46, 7)], []) s s129 from (fr_tr rfl g46_2 hF129)).2.2.1 2 0 rfl)).1) (Nat.le_of_eq (lc_cg ((show Fr ([31], [], [(46, 2), (46, 3), (46, 4), (46, 5), (46, 6), (46, 7)], []) s s129 from (fr_tr rfl g46_2 hF129)).2.2.1 30 0 rfl) ((show Fr ([31], [], [(46, 2), (46, 3), (46, 4), (46, 5), (46, 6), (46, 7)], []) s s129 from (fr_tr rfl g46_2 hF129)).2.2.1 2 0 rfl)).2.1) (f_138_1 (by first | exact dq1 hd rfl | exact dq0 hd rfl | exact dq2 hd rfl | exact dq3 hd rfl | omega) hI129 (in_w (-1) 25 j46_3 rfl) v150 v150a v150b rfl p150 p150a p150b p150c p150d) (fun e u h => h) (fun v u h => ?_)
              obtain ⟨a150, s150, hI150, hF150, n150, z150, rfl, rfl, i150, p150e, p150f, p150g, p150h, p150i, p150j, p150k⟩ := h
              obtain ⟨z150a, e150⟩ : ∃ w, w = s150.2.2.1 2 0 := ⟨_, rfl⟩
              have i150a := inv_F hI150 0 4000 rfl e150
              rw [← (show w46_2_0 = s129.2.2.1 2 0 from fr_F (v46_2_0) hF129 rfl)] at n150
              rw [← (show z150a = s150.2.2.1 2 0 from e150)] at n150
              show GG _ _ _ _ _ _ _ _ [.int z150] _ _ _
              refine g_if_ne 156 165 (gd rfl) rfl rfl (fun c153 => ?_) (fun c153 => ?_)
              · skip
                have i153 := z_ne 1 1 c153 i150 rfl
                refine g_iconst 1 166 (gd rfl) rfl rfl ?_
                refine g_goto 170 (gd rfl) rfl ?_
                have n170 : KL s150 := by exact p150e
                have n170a : ((Int32.ofInt 1)).toInt ≠ 0 → (s150.2.2.1 30 0).toInt = nln s := by first | (intro h; exact absurd rfl h) | (intro _; rw [← (lc_cg (s := s) (hL.2.2.1 30 0 rfl) (hL.2.2.1 2 0 rfl)).2.2]; exact p150f c153)
                have n170b : ((Int32.ofInt 1)).toInt ≠ 0 → (s.2.2.1 2 0).toInt ≤ 3999 := by first | (intro h; exact absurd rfl h) | (intro _; rw [← hL.2.2.1 2 0 rfl]; exact p150g c153)
                have n170c : ∀ k : Nat, (k : Int) < 7 * (s.2.2.1 2 0).toInt → s150.1 30 k = s.1 30 k := by exact fun k hk => by rw [p150h k (by rw [hL.2.2.1 2 0 rfl]; exact hk), hL.1 30 rfl]
                have n170d : ((Int32.ofInt 1)).toInt ≠ 0 → ∀ a : Nat, TKN (s.1 47) (s.2.2.1 46 1).toInt.toNat a (s.2.2.1 46 4).toInt.toNat (s.2.2.1 46 2).toInt.toNat (s.2.2.1 46 3).toInt (s.2.2.1 46 5).toInt → ∃ c V, CMP (s.1 47) (s.2.2.1 46 1).toInt.toNat a (s.2.2.1 46 4).toInt.toNat c V (s150.2.2.1 46 2).toInt.toNat ∧ dkC (gvC s) c V ∧ gvC s150 = opC (gvC s) c V := by first | (intro h; exact absurd rfl h) | (intro _ a ha; obtain ⟨h1, p1, k1, v1, h2⟩ := g46_6 a ha; have hk9 := p129b; rw [show sc46.1 47 = s.1 47 from g46_2.1 47 rfl, show sc46.2.2.1 46 1 = s.2.2.1 46 1 from g46_2.2.2.1 46 1 rfl, ← v46_46_2] at hk9; have h5 : y46_5.toInt.toNat = cmA y46_3.toInt := (by have h9 := shq_n g46_3; have h8 := p50; rw [h9] at h8; have h7 := (shq_5 g46_3).1; have h6 := g46_5; exact (have a0 := in_u ro_46_1; have a1 := in_u ((inv_F hIc46 448 28000 rfl v46_30_0)); have a2 := in_u ((inv_F hIc46 0 32 rfl v46_2_1)); have a3 := in_u ((inv_F hIc46 0 4000 rfl v46_2_0)); have a4 := in_u ((inv_F hIc46 0 1000 rfl v46_46_2)); have a5 := in_u j46_5; have a6 := in_u j46_4; have a7 := in_u j46_3; have a8 := in_u j46_2; have a9 := in_u i150a; have a10 := in_u i135x13; have a11 := in_u i135x5; have a12 := in_u i129b; have a13 := in_u i129a; have oc := oc_136_1_46; by omega)); have hcm : CMP (s.1 47) (s.2.2.1 46 1).toInt.toNat a (s.2.2.1 46 4).toInt.toNat y46_3.toInt (V31 s129) (s129.2.2.1 46 2).toInt.toNat := ⟨shq_i g46_3, ⟨_, by have h9 := ha; rw [g46_4.1, g46_4.2.1] at h9; exact h9⟩, fun i hi => by show ∃ q f, TSQ _ _ _ _ q f _ (s129.1 31 i).toInt; rw [hF129.1 31 rfl]; exact h1 i (by omega), (s129.2.2.1 46 4).toInt.toNat, (s129.2.2.1 46 5).toInt, by rw [← h5]; exact ⟨p1, w46_46_2.toInt.toNat, k1, v1, h2, by have h9 := hk9; rw [show (s129.2.2.1 46 3).toInt = 3 from (by rw [← e135x1]; exact (have a0 := in_u ro_46_1; have a1 := in_u ((inv_F hIc46 448 28000 rfl v46_30_0)); have a2 := in_u ((inv_F hIc46 0 32 rfl v46_2_1)); have a3 := in_u ((inv_F hIc46 0 4000 rfl v46_2_0)); have a4 := in_u ((inv_F hIc46 0 1000 rfl v46_46_2)); have a5 := in_u j46_5; have a6 := in_u j46_4; have a7 := in_u j46_3; have a8 := in_u j46_2; have a9 := in_u i150a; have a10 := in_u i135x13; have a11 := in_u i135x5; have a12 := in_u i129b; have a13 := in_u i129a; have oc := oc_136_1_46; by omega))] at h9; exact h9⟩⟩; have h3 := p150i c153; rw [gvC_cg hL rfl] at h3; exact ⟨_, _, by rw [hF150.2.2.1 46 2 rfl]; exact hcm, h3.1, h3.2.1⟩)
                have n170e : ((Int32.ofInt 1)).toInt = 0 → ∀ a : Nat, TKN (s.1 47) (s.2.2.1 46 1).toInt.toNat a (s.2.2.1 46 4).toInt.toNat (s.2.2.1 46 2).toInt.toNat (s.2.2.1 46 3).toInt (s.2.2.1 46 5).toInt → CMX (s.1 47) (s.2.2.1 46 1).toInt.toNat a (s150.2.2.1 46 6).toInt (s150.2.2.1 46 7).toInt.toNat ∨ ∃ c V e, CMP (s.1 47) (s.2.2.1 46 1).toInt.toNat a (s150.2.2.1 46 7).toInt.toNat c V e ∧ ¬ dkC (gvC s) c V ∧ (s150.2.2.1 46 6).toInt = 4 := by intro h; exact absurd h (by decide)
                have n170f : ((Int32.ofInt 1)).toInt ≠ 0 → TQ s150 := by first | (intro h; exact absurd rfl h) | (intro _; exact (p150i c153).2.2)
                have n170g : ((Int32.ofInt 1)).toInt ≠ 0 → s150.2.2.1 46 6 = s.2.2.1 46 6 ∧ s150.2.2.1 46 7 = s.2.2.1 46 7 := by first | (intro h; exact absurd rfl h) | (intro _; exact ⟨(hF150.2.2.1 46 6 rfl).trans ((hF129.2.2.1 46 6 rfl).trans g46_7.1), (hF150.2.2.1 46 7 rfl).trans ((hF129.2.2.1 46 7 rfl).trans g46_7.2)⟩)
                have n170h : ((Int32.ofInt 1)).toInt = 0 → 0 ≤ (s150.2.2.1 46 7).toInt := by intro h; exact absurd h (by decide)
                have n170i : ((Int32.ofInt 1)).toInt ≠ 0 → LGC s s150 := by first | (intro h; exact absurd rfl h) | (intro _; exact lgc_fr (p150k c153) hL rfl)
                have n170j : (z129a).toInt ≤ (u_46_1).toInt := by exact (have a0 := in_u ro_46_1; have a1 := in_u ((inv_F hIc46 448 28000 rfl v46_30_0)); have a2 := in_u ((inv_F hIc46 0 32 rfl v46_2_1)); have a3 := in_u ((inv_F hIc46 0 4000 rfl v46_2_0)); have a4 := in_u ((inv_F hIc46 0 1000 rfl v46_46_2)); have a5 := in_u j46_5; have a6 := in_u j46_4; have a7 := in_u j46_3; have a8 := in_u j46_2; have a9 := in_u i150a; have a10 := in_u i135x13; have a11 := in_u i135x5; have a12 := in_u i129b; have a13 := in_u i129a; have oc := oc_136_1_46; by omega)
                have n170k : (s150.2.2.1 46 2).toInt ≤ (s150.2.2.1 46 1).toInt := by have b0 : z129a = s150.2.2.1 46 2 := fr_F (e129) hF150 rfl; have b1 : u_46_1 = s150.2.2.1 46 1 := fr_F (fr_F (fr_F e_46_1 hFc46 rfl) hF129 rfl) hF150 rfl; rw [← b0, ← b1]; exact n170j
                have n170l : (u_2_0).toInt ≤ (z150a).toInt := by exact (have a0 := in_u ro_46_1; have a1 := in_u ((inv_F hIc46 448 28000 rfl v46_30_0)); have a2 := in_u ((inv_F hIc46 0 32 rfl v46_2_1)); have a3 := in_u ((inv_F hIc46 0 4000 rfl v46_2_0)); have a4 := in_u ((inv_F hIc46 0 1000 rfl v46_46_2)); have a5 := in_u j46_5; have a6 := in_u j46_4; have a7 := in_u j46_3; have a8 := in_u j46_2; have a9 := in_u i150a; have a10 := in_u i135x13; have a11 := in_u i135x5; have a12 := in_u i129b; have a13 := in_u i129a; have oc := oc_136_1_46; by omega)
                have n170m : (s.2.2.1 2 0).toInt ≤ (s150.2.2.1 2 0).toInt := by have b0 : z150a = s150.2.2.1 2 0 := e150; first | (rw [← b0, ← e_2_0]; exact n170l) | (rw [← b0]; exact n170l)
                exact g_ireturn (gd rfl) rfl (nb01 (in_w 0 1 (in_c 1 rfl) rfl)) (hP _ _ ⟨a150, s150, hI150, (fr_tr rfl (fr_tr rfl hFc46 hF129) hF150), n170k, n170m, (Int32.ofInt 1), rfl, rfl, in_w 0 1 (in_c 1 rfl) rfl, n170, n170a, n170b, n170c, n170d, n170e, n170f, n170g, n170h, n170i⟩)
              · skip
                have i153 := z_eq 0 0 c153 i150 rfl
                refine g_aload_n 157 (gd rfl) rfl rfl ?_
                refine g_iconst 4 158 (gd rfl) rfl rfl ?_
                refine g_iload_n 159 (gd rfl) rfl rfl ?_
                refine g_callv (X := _) (As := [.int (Int32.ofInt 4), .int y46_2]) (r := []) (b := A 46) (q := 46) 162 (gd rfl) rfl rfl rfl rfl rfl (ww_o rfl) (Nat.le_of_ble_eq_true rfl) (Nat.zero_le _) (Nat.zero_le _) (f_168_46 (A := (ax A 30 a150)) (by omega) hI150 (in_w 1 5 (in_c 4 rfl) rfl) (in_w 0 1000 j46_2 rfl)) (fun e u h => h) (fun v u h => ?_)
                obtain ⟨s159, hI159, hF159, z159, rfl, rfl, i159, p159⟩ := h
                show GG _ _ _ _ _ _ _ _ [.int z159] _ _ _
                refine g_if_eq 165 169 (gd rfl) rfl rfl (fun c162 => ?_) (fun c162 => ?_)
                · skip
                  refine g_iconst 0 170 (gd rfl) rfl rfl ?_
                  have n170 : KL s159 := by exact kl_fr p150e hF159 rfl
                  have n170a : ((Int32.ofInt 0)).toInt ≠ 0 → (s159.2.2.1 30 0).toInt = nln s := by intro h; exact absurd rfl h
                  have n170b : ((Int32.ofInt 0)).toInt ≠ 0 → (s.2.2.1 2 0).toInt ≤ 3999 := by intro h; exact absurd rfl h
                  have n170c : ∀ k : Nat, (k : Int) < 7 * (s.2.2.1 2 0).toInt → s159.1 30 k = s.1 30 k := by exact fun k hk => by rw [hF159.1 30 rfl, p150h k (by rw [hL.2.2.1 2 0 rfl]; exact hk), hL.1 30 rfl]
                  have n170d : ((Int32.ofInt 0)).toInt ≠ 0 → ∀ a : Nat, TKN (s.1 47) (s.2.2.1 46 1).toInt.toNat a (s.2.2.1 46 4).toInt.toNat (s.2.2.1 46 2).toInt.toNat (s.2.2.1 46 3).toInt (s.2.2.1 46 5).toInt → ∃ c V, CMP (s.1 47) (s.2.2.1 46 1).toInt.toNat a (s.2.2.1 46 4).toInt.toNat c V (s159.2.2.1 46 2).toInt.toNat ∧ dkC (gvC s) c V ∧ gvC s159 = opC (gvC s) c V := by first | (intro h; exact absurd rfl h) | (intro _ a ha; obtain ⟨h1, p1, k1, v1, h2⟩ := g46_6 a ha; have hk9 := p129b; rw [show sc46.1 47 = s.1 47 from g46_2.1 47 rfl, show sc46.2.2.1 46 1 = s.2.2.1 46 1 from g46_2.2.2.1 46 1 rfl, ← v46_46_2] at hk9; have h5 : y46_5.toInt.toNat = cmA y46_3.toInt := (by have h9 := shq_n g46_3; have h8 := p50; rw [h9] at h8; have h7 := (shq_5 g46_3).1; have h6 := g46_5; exact (have a0 := in_u ro_46_1; have a1 := in_u ((inv_F hIc46 448 28000 rfl v46_30_0)); have a2 := in_u ((inv_F hIc46 0 32 rfl v46_2_1)); have a3 := in_u ((inv_F hIc46 0 4000 rfl v46_2_0)); have a4 := in_u ((inv_F hIc46 0 1000 rfl v46_46_2)); have a5 := in_u j46_5; have a6 := in_u j46_4; have a7 := in_u j46_3; have a8 := in_u j46_2; have a9 := in_u i150a; have a10 := in_u i135x13; have a11 := in_u i135x5; have a12 := in_u i129b; have a13 := in_u i129a; have oc := oc_136_1_46; by omega)); have hcm : CMP (s.1 47) (s.2.2.1 46 1).toInt.toNat a (s.2.2.1 46 4).toInt.toNat y46_3.toInt (V31 s129) (s129.2.2.1 46 2).toInt.toNat := ⟨shq_i g46_3, ⟨_, by have h9 := ha; rw [g46_4.1, g46_4.2.1] at h9; exact h9⟩, fun i hi => by show ∃ q f, TSQ _ _ _ _ q f _ (s129.1 31 i).toInt; rw [hF129.1 31 rfl]; exact h1 i (by omega), (s129.2.2.1 46 4).toInt.toNat, (s129.2.2.1 46 5).toInt, by rw [← h5]; exact ⟨p1, w46_46_2.toInt.toNat, k1, v1, h2, by have h9 := hk9; rw [show (s129.2.2.1 46 3).toInt = 3 from (by rw [← e135x1]; exact (have a0 := in_u ro_46_1; have a1 := in_u ((inv_F hIc46 448 28000 rfl v46_30_0)); have a2 := in_u ((inv_F hIc46 0 32 rfl v46_2_1)); have a3 := in_u ((inv_F hIc46 0 4000 rfl v46_2_0)); have a4 := in_u ((inv_F hIc46 0 1000 rfl v46_46_2)); have a5 := in_u j46_5; have a6 := in_u j46_4; have a7 := in_u j46_3; have a8 := in_u j46_2; have a9 := in_u i150a; have a10 := in_u i135x13; have a11 := in_u i135x5; have a12 := in_u i129b; have a13 := in_u i129a; have oc := oc_136_1_46; by omega))] at h9; exact h9⟩⟩; have h3 := p150i c153; rw [gvC_cg hL rfl] at h3; exact ⟨_, _, by rw [hF150.2.2.1 46 2 rfl]; exact hcm, h3.1, h3.2.1⟩)
                  have n170e : ((Int32.ofInt 0)).toInt = 0 → ∀ a : Nat, TKN (s.1 47) (s.2.2.1 46 1).toInt.toNat a (s.2.2.1 46 4).toInt.toNat (s.2.2.1 46 2).toInt.toNat (s.2.2.1 46 3).toInt (s.2.2.1 46 5).toInt → CMX (s.1 47) (s.2.2.1 46 1).toInt.toNat a (s159.2.2.1 46 6).toInt (s159.2.2.1 46 7).toInt.toNat ∨ ∃ c V e, CMP (s.1 47) (s.2.2.1 46 1).toInt.toNat a (s159.2.2.1 46 7).toInt.toNat c V e ∧ ¬ dkC (gvC s) c V ∧ (s159.2.2.1 46 6).toInt = 4 := by first | (intro h; exact absurd h (by decide)) | (intro _ a ha; obtain ⟨h1, p1, k1, v1, h2⟩ := g46_6 a ha; have hk9 := p129b; rw [show sc46.1 47 = s.1 47 from g46_2.1 47 rfl, show sc46.2.2.1 46 1 = s.2.2.1 46 1 from g46_2.2.2.1 46 1 rfl, ← v46_46_2] at hk9; have h5 : y46_5.toInt.toNat = cmA y46_3.toInt := (by have h9 := shq_n g46_3; have h8 := p50; rw [h9] at h8; have h7 := (shq_5 g46_3).1; have h6 := g46_5; exact (have a0 := in_u ro_46_1; have a1 := in_u ((inv_F hIc46 448 28000 rfl v46_30_0)); have a2 := in_u ((inv_F hIc46 0 32 rfl v46_2_1)); have a3 := in_u ((inv_F hIc46 0 4000 rfl v46_2_0)); have a4 := in_u ((inv_F hIc46 0 1000 rfl v46_46_2)); have a5 := in_u j46_5; have a6 := in_u j46_4; have a7 := in_u j46_3; have a8 := in_u j46_2; have a9 := in_u i150a; have a10 := in_u i135x13; have a11 := in_u i135x5; have a12 := in_u i129b; have a13 := in_u i129a; have oc := oc_136_1_46; by omega)); have hcm : CMP (s.1 47) (s.2.2.1 46 1).toInt.toNat a (s.2.2.1 46 4).toInt.toNat y46_3.toInt (V31 s129) (s129.2.2.1 46 2).toInt.toNat := ⟨shq_i g46_3, ⟨_, by have h9 := ha; rw [g46_4.1, g46_4.2.1] at h9; exact h9⟩, fun i hi => by show ∃ q f, TSQ _ _ _ _ q f _ (s129.1 31 i).toInt; rw [hF129.1 31 rfl]; exact h1 i (by omega), (s129.2.2.1 46 4).toInt.toNat, (s129.2.2.1 46 5).toInt, by rw [← h5]; exact ⟨p1, w46_46_2.toInt.toNat, k1, v1, h2, by have h9 := hk9; rw [show (s129.2.2.1 46 3).toInt = 3 from (by rw [← e135x1]; exact (have a0 := in_u ro_46_1; have a1 := in_u ((inv_F hIc46 448 28000 rfl v46_30_0)); have a2 := in_u ((inv_F hIc46 0 32 rfl v46_2_1)); have a3 := in_u ((inv_F hIc46 0 4000 rfl v46_2_0)); have a4 := in_u ((inv_F hIc46 0 1000 rfl v46_46_2)); have a5 := in_u j46_5; have a6 := in_u j46_4; have a7 := in_u j46_3; have a8 := in_u j46_2; have a9 := in_u i150a; have a10 := in_u i135x13; have a11 := in_u i135x5; have a12 := in_u i129b; have a13 := in_u i129a; have oc := oc_136_1_46; by omega))] at h9; exact h9⟩⟩; have h3 := p150j (by exact (have a0 := in_u ro_46_1; have a1 := in_u ((inv_F hIc46 448 28000 rfl v46_30_0)); have a2 := in_u ((inv_F hIc46 0 32 rfl v46_2_1)); have a3 := in_u ((inv_F hIc46 0 4000 rfl v46_2_0)); have a4 := in_u ((inv_F hIc46 0 1000 rfl v46_46_2)); have a5 := in_u j46_5; have a6 := in_u j46_4; have a7 := in_u j46_3; have a8 := in_u j46_2; have a9 := in_u i150a; have a10 := in_u i135x13; have a11 := in_u i135x5; have a12 := in_u i129b; have a13 := in_u i129a; have oc := oc_136_1_46; by omega)); rw [gvC_cg hL rfl] at h3; refine Or.inr ⟨y46_3.toInt, V31 s129, (s129.2.2.1 46 2).toInt.toNat, ?_, h3, by rw [p159.1]; rfl⟩; rw [p159.2, g46_4.2.2]; exact hcm)
                  have n170f : ((Int32.ofInt 0)).toInt ≠ 0 → TQ s159 := by first | (intro h; exact absurd rfl h) | (intro _; exact (p150i c153).2.2)
                  have n170g : ((Int32.ofInt 0)).toInt ≠ 0 → s159.2.2.1 46 6 = s.2.2.1 46 6 ∧ s159.2.2.1 46 7 = s.2.2.1 46 7 := by first | (intro h; exact absurd rfl h) | (intro h; exfalso; revert h; first | (unfold In at i39; omega) | (unfold In at i104; omega) | (unfold In at i144; omega))
                  have n170h : ((Int32.ofInt 0)).toInt = 0 → 0 ≤ (s159.2.2.1 46 7).toInt := by first | (intro h; exact absurd h (by decide)) | (intro _; rw [p159.2]; exact (have a0 := in_u ro_46_1; have a1 := in_u ((inv_F hIc46 448 28000 rfl v46_30_0)); have a2 := in_u ((inv_F hIc46 0 32 rfl v46_2_1)); have a3 := in_u ((inv_F hIc46 0 4000 rfl v46_2_0)); have a4 := in_u ((inv_F hIc46 0 1000 rfl v46_46_2)); have a5 := in_u j46_5; have a6 := in_u j46_4; have a7 := in_u j46_3; have a8 := in_u j46_2; have a9 := in_u i150a; have a10 := in_u i135x13; have a11 := in_u i135x5; have a12 := in_u i129b; have a13 := in_u i129a; have oc := oc_136_1_46; by omega))
                  have n170i : ((Int32.ofInt 0)).toInt ≠ 0 → LGC s s159 := by first | (intro h; exact absurd rfl h) | (intro h; exfalso; revert h; first | (unfold In at i39; omega) | (unfold In at i104; omega) | (unfold In at i144; omega))
                  have n170j : (z129a).toInt ≤ (u_46_1).toInt := by exact (have a0 := in_u ro_46_1; have a1 := in_u ((inv_F hIc46 448 28000 rfl v46_30_0)); have a2 := in_u ((inv_F hIc46 0 32 rfl v46_2_1)); have a3 := in_u ((inv_F hIc46 0 4000 rfl v46_2_0)); have a4 := in_u ((inv_F hIc46 0 1000 rfl v46_46_2)); have a5 := in_u j46_5; have a6 := in_u j46_4; have a7 := in_u j46_3; have a8 := in_u j46_2; have a9 := in_u i150a; have a10 := in_u i135x13; have a11 := in_u i135x5; have a12 := in_u i129b; have a13 := in_u i129a; have oc := oc_136_1_46; by omega)
                  have n170k : (s159.2.2.1 46 2).toInt ≤ (s159.2.2.1 46 1).toInt := by have b0 : z129a = s159.2.2.1 46 2 := fr_F (fr_F (e129) hF150 rfl) hF159 rfl; have b1 : u_46_1 = s159.2.2.1 46 1 := fr_F (fr_F (fr_F (fr_F e_46_1 hFc46 rfl) hF129 rfl) hF150 rfl) hF159 rfl; rw [← b0, ← b1]; exact n170j
                  have n170l : (u_2_0).toInt ≤ (z150a).toInt := by exact (have a0 := in_u ro_46_1; have a1 := in_u ((inv_F hIc46 448 28000 rfl v46_30_0)); have a2 := in_u ((inv_F hIc46 0 32 rfl v46_2_1)); have a3 := in_u ((inv_F hIc46 0 4000 rfl v46_2_0)); have a4 := in_u ((inv_F hIc46 0 1000 rfl v46_46_2)); have a5 := in_u j46_5; have a6 := in_u j46_4; have a7 := in_u j46_3; have a8 := in_u j46_2; have a9 := in_u i150a; have a10 := in_u i135x13; have a11 := in_u i135x5; have a12 := in_u i129b; have a13 := in_u i129a; have oc := oc_136_1_46; by omega)
                  have n170m : (s.2.2.1 2 0).toInt ≤ (s159.2.2.1 2 0).toInt := by have b0 : z150a = s159.2.2.1 2 0 := fr_F (e150) hF159 rfl; first | (rw [← b0, ← e_2_0]; exact n170l) | (rw [← b0]; exact n170l)
                  exact g_ireturn (gd rfl) rfl (nb01 (in_w 0 1 (in_c 0 rfl) rfl)) (hP _ _ ⟨a150, s159, hI159, (fr_tr rfl (fr_tr rfl (fr_tr rfl hFc46 hF129) hF150) hF159), n170k, n170m, (Int32.ofInt 0), rfl, rfl, in_w 0 1 (in_c 0 rfl) rfl, n170, n170a, n170b, n170c, n170d, n170e, n170f, n170g, n170h, n170i⟩)
                · skip
                  exact zn_ne c162 i159 rfl
            · skip
              exact zn_eq c138 (in_c 1 rfl) rfl
      · skip
        have i53 := r_lt2 1 9 c53 j46_5 i50a rfl
        refine g_iload 58 (gd rfl) rfl rfl ?_
        refine g_aload_n 59 (gd rfl) rfl rfl ?_
        refine g_getA (q2 := 31) 62 (gd rfl) rfl rfl rfl rfl ?_
        refine g_alen (n := 5) (t := 0) 5 63 (gd rfl) rfl rfl (Nat.le_of_ble_eq_true rfl) rfl ?_
        refine g_cmp_ge 66 125 (gd rfl) rfl rfl (fun c63 => ?_) (fun c63 => ?_)
        · skip
          have i63 := r_le2 5 5 c63 (in_c 5 rfl) j46_5 rfl
          refine g_aload_n 126 (gd rfl) rfl rfl ?_
          refine g_bipush 7 128 (gd rfl) rfl rfl ?_
          refine g_iconst 1 129 (gd rfl) rfl rfl ?_
          have v129 : u_46_1 = sc46.2.2.1 46 1 := fr_F e_46_1 hFc46 rfl
          have n129 : (w46_46_2).toInt ≤ (u_46_1).toInt := by first | exact n46_0 | (exact (have a0 := in_u ro_46_1; have a1 := in_u ((inv_F hIc46 448 28000 rfl v46_30_0)); have a2 := in_u ((inv_F hIc46 0 32 rfl v46_2_1)); have a3 := in_u ((inv_F hIc46 0 4000 rfl v46_2_0)); have a4 := in_u ((inv_F hIc46 0 1000 rfl v46_46_2)); have a5 := in_u i63; have a6 := in_u j46_4; have a7 := in_u j46_3; have a8 := in_u j46_2; have oc := oc_136_1_46; by omega))
          refine g_callv (X := _) (As := [.int (Int32.ofInt 7), .int (Int32.ofInt 1)]) (r := []) (b := A 46) (q := 46) 132 (gd rfl) rfl rfl rfl rfl rfl (ww_o rfl) (Nat.le_of_ble_eq_true rfl) (Nat.zero_le _) (Nat.zero_le _) (f_171_46 (by first | exact dq1 hd rfl | exact dq0 hd rfl | exact dq2 hd rfl | exact dq3 hd rfl | omega) hIc46 (in_w 7 7 (in_c 7 rfl) rfl) (in_w 1 1 (in_c 1 rfl) rfl) v46_46_2 v129 n129) (fun e u h => h) (fun v u h => ?_)
          obtain ⟨s129, hI129, hF129, n129a, n129b, n129c, rfl, rfl, p129, p129a, p129b⟩ := h
          obtain ⟨z129a, e129⟩ : ∃ w, w = s129.2.2.1 46 2 := ⟨_, rfl⟩
          have i129a := inv_F hI129 0 1000 rfl e129
          obtain ⟨z129b, e129a⟩ : ∃ w, w = s129.2.2.1 46 4 := ⟨_, rfl⟩
          have i129b := inv_F hI129 0 1000 rfl e129a
          rw [← (show z129a = s129.2.2.1 46 2 from e129)] at n129a
          rw [← (show u_46_1 = s129.2.2.1 46 1 from fr_F (fr_F e_46_1 hFc46 rfl) hF129 rfl)] at n129a
          rw [← (show z129a = s129.2.2.1 46 2 from e129)] at n129b
          rw [← (show z129b = s129.2.2.1 46 4 from e129a)] at n129b
          rw [← (show w46_46_2 = sc46.2.2.1 46 2 from v46_46_2)] at n129c
          rw [← (show z129b = s129.2.2.1 46 4 from e129a)] at n129c
          show GG _ _ _ _ _ _ _ _ [] _ _ _
          refine g_aload_n 133 (gd rfl) rfl rfl ?_
          refine g_bipush 59 135 (gd rfl) rfl rfl ?_
          refine g_callv (X := _) (As := [.int (Int32.ofInt 59)]) (r := []) (b := A 46) (q := 46) 138 (gd rfl) rfl rfl rfl rfl rfl (ww_o rfl) (Nat.le_of_ble_eq_true rfl) (mc := 0) (ms := 0) (Nat.zero_le _) (Nat.zero_le _) (P := fun v u => _) ?_ (fun e u h => h) (fun v u h => h)
          intro po135 xx135 hp135 hx135
          refine g_enter2 (k := 170) (N := 300) (by first | exact dq1 hd rfl | exact dq0 hd rfl | exact dq2 hd rfl | exact dq3 hd rfl | omega) rfl (Nat.le_of_ble_eq_true rfl) ?_
          refine g_aload_n 1 (gd rfl) rfl rfl ?_
          refine g_getI 4 (gd rfl) rfl rfl rfl (fun z135x1 e135x1 => ?_)
          have i135x1 := inv_F hI129 0 5 rfl e135x1
          refine g_iconst 3 5 (gd rfl) rfl rfl ?_
          refine g_cmp_ne 8 20 (gd rfl) rfl rfl (fun c135x5 => ?_) (fun c135x5 => ?_)
          · skip
            refine g_iconst 0 21 (gd rfl) rfl rfl ?_
            refine g_ireturn (gd rfl) rfl (nb01 (in_w 0 1 (in_c 0 rfl) rfl)) (hp135 _ _ ?_)
            show GG _ _ _ _ _ _ _ _ [.int (Int32.ofInt 0)] _ _ _
            refine g_if_ne 141 148 (gd rfl) rfl rfl (fun c138 => ?_) (fun c138 => ?_)
            · skip
              exact zn_ne c138 (in_c 0 rfl) rfl
            · skip
              refine g_aload_n 142 (gd rfl) rfl rfl ?_
              refine g_iconst 2 143 (gd rfl) rfl rfl ?_
              refine g_iconst 3 144 (gd rfl) rfl rfl ?_
              refine g_callv (X := _) (As := [.int (Int32.ofInt 2), .int (Int32.ofInt 3)]) (r := []) (b := A 46) (q := 46) 147 (gd rfl) rfl rfl rfl rfl rfl (ww_o rfl) (Nat.le_of_ble_eq_true rfl) (Nat.zero_le _) (Nat.zero_le _) (f_169_46 (by first | exact dq1 hd rfl | exact dq0 hd rfl | exact dq2 hd rfl | exact dq3 hd rfl | omega) hI129 (in_w 2 2 (in_c 2 rfl) rfl) (in_w 3 3 (in_c 3 rfl) rfl) e135x1 e129a) (fun e u h => h) (fun v u h => ?_)
              obtain ⟨s144, hI144, hF144, z144, rfl, rfl, i144, p144⟩ := h
              show GG _ _ _ _ _ _ _ _ [.int z144] _ _ _
              have n147 : KL s144 := by have hL9 : Fr ([31], [], [(46, 2), (46, 3), (46, 4), (46, 5), (46, 6), (46, 7)], []) s s144 := (fr_tr rfl (fr_tr rfl g46_2 hF129) hF144); exact kl_fr q_0 hL9 rfl
              have n147a : (z144).toInt ≠ 0 → (s144.2.2.1 30 0).toInt = nln s := by first | (intro h; exact absurd rfl h) | (intro h; exfalso; revert h; first | (unfold In at i39; omega) | (unfold In at i104; omega) | (unfold In at i144; omega))
              have n147b : (z144).toInt ≠ 0 → (s.2.2.1 2 0).toInt ≤ 3999 := by first | (intro h; exact absurd rfl h) | (intro h; exfalso; revert h; first | (unfold In at i39; omega) | (unfold In at i104; omega) | (unfold In at i144; omega))
              have n147c : ∀ k : Nat, (k : Int) < 7 * (s.2.2.1 2 0).toInt → s144.1 30 k = s.1 30 k := by have hL9 : Fr ([31], [], [(46, 2), (46, 3), (46, 4), (46, 5), (46, 6), (46, 7)], []) s s144 := (fr_tr rfl (fr_tr rfl g46_2 hF129) hF144); exact fun k _ => by rw [hL9.1 30 rfl]
              have n147d : (z144).toInt ≠ 0 → ∀ a : Nat, TKN (s.1 47) (s.2.2.1 46 1).toInt.toNat a (s.2.2.1 46 4).toInt.toNat (s.2.2.1 46 2).toInt.toNat (s.2.2.1 46 3).toInt (s.2.2.1 46 5).toInt → ∃ c V, CMP (s.1 47) (s.2.2.1 46 1).toInt.toNat a (s.2.2.1 46 4).toInt.toNat c V (s144.2.2.1 46 2).toInt.toNat ∧ dkC (gvC s) c V ∧ gvC s144 = opC (gvC s) c V := by first | (intro h; exact absurd rfl h) | (intro h; exfalso; revert h; first | (unfold In at i39; omega) | (unfold In at i104; omega) | (unfold In at i144; omega))
              have n147e : (z144).toInt = 0 → ∀ a : Nat, TKN (s.1 47) (s.2.2.1 46 1).toInt.toNat a (s.2.2.1 46 4).toInt.toNat (s.2.2.1 46 2).toInt.toNat (s.2.2.1 46 3).toInt (s.2.2.1 46 5).toInt → CMX (s.1 47) (s.2.2.1 46 1).toInt.toNat a (s144.2.2.1 46 6).toInt (s144.2.2.1 46 7).toInt.toNat ∨ ∃ c V e, CMP (s.1 47) (s.2.2.1 46 1).toInt.toNat a (s144.2.2.1 46 7).toInt.toNat c V e ∧ ¬ dkC (gvC s) c V ∧ (s144.2.2.1 46 6).toInt = 4 := by intro _ a ha; obtain ⟨h1, p1, k1, v1, h2⟩ := g46_6 a ha; have hk9 := p129b; rw [show sc46.1 47 = s.1 47 from g46_2.1 47 rfl, show sc46.2.2.1 46 1 = s.2.2.1 46 1 from g46_2.2.2.1 46 1 rfl, ← v46_46_2] at hk9; have h5 : y46_5.toInt.toNat = cmA y46_3.toInt := (by have h9 := shq_n g46_3; have h8 := p50; rw [h9] at h8; have h7 := (shq_5 g46_3).1; have h6 := g46_5; exact (have a0 := in_u ro_46_1; have a1 := in_u ((inv_F hIc46 448 28000 rfl v46_30_0)); have a2 := in_u ((inv_F hIc46 0 32 rfl v46_2_1)); have a3 := in_u ((inv_F hIc46 0 4000 rfl v46_2_0)); have a4 := in_u ((inv_F hIc46 0 1000 rfl v46_46_2)); have a5 := in_u i63; have a6 := in_u j46_4; have a7 := in_u j46_3; have a8 := in_u j46_2; have a9 := in_u i135x1; have a10 := in_u i129b; have a11 := in_u i129a; have oc := oc_136_1_46; by omega)); refine Or.inl (Or.inr ⟨_, _, _, shq_i g46_3, by have h9 := ha; rw [g46_4.1, g46_4.2.1] at h9; exact h9, cmA y46_3.toInt, Nat.le_refl _, fun j hj => by obtain ⟨q, f, h9⟩ := h1 j (by omega); exact ⟨q, f, _, h9⟩, (s129.2.2.1 46 2).toInt.toNat, (s129.2.2.1 46 3).toInt, (s129.2.2.1 46 5).toInt, ?_, ?_, p144.1⟩); (rw [p144.2, ← h5]; exact ⟨p1, w46_46_2.toInt.toNat, k1, v1, h2, hk9⟩); (intro h9; unfold cmK at h9; rw [if_pos rfl] at h9; have h8 := tkn_v3 hk9 h9; first | (rw [← e135x1] at h9; exact (have a0 := in_u ro_46_1; have a1 := in_u ((inv_F hIc46 448 28000 rfl v46_30_0)); have a2 := in_u ((inv_F hIc46 0 32 rfl v46_2_1)); have a3 := in_u ((inv_F hIc46 0 4000 rfl v46_2_0)); have a4 := in_u ((inv_F hIc46 0 1000 rfl v46_46_2)); have a5 := in_u i63; have a6 := in_u j46_4; have a7 := in_u j46_3; have a8 := in_u j46_2; have a9 := in_u i135x1; have a10 := in_u i129b; have a11 := in_u i129a; have oc := oc_136_1_46; by omega)) | (rw [← e135x9] at h8; exact (have a0 := in_u ro_46_1; have a1 := in_u ((inv_F hIc46 448 28000 rfl v46_30_0)); have a2 := in_u ((inv_F hIc46 0 32 rfl v46_2_1)); have a3 := in_u ((inv_F hIc46 0 4000 rfl v46_2_0)); have a4 := in_u ((inv_F hIc46 0 1000 rfl v46_46_2)); have a5 := in_u i63; have a6 := in_u j46_4; have a7 := in_u j46_3; have a8 := in_u j46_2; have a9 := in_u i135x1; have a10 := in_u i129b; have a11 := in_u i129a; have oc := oc_136_1_46; by omega)))
              have n147f : (z144).toInt ≠ 0 → TQ s144 := by first | (intro h; exact absurd rfl h) | (intro h; exfalso; revert h; first | (unfold In at i39; omega) | (unfold In at i104; omega) | (unfold In at i144; omega))
              have n147g : (z144).toInt ≠ 0 → s144.2.2.1 46 6 = s.2.2.1 46 6 ∧ s144.2.2.1 46 7 = s.2.2.1 46 7 := by first | (intro h; exact absurd rfl h) | (intro h; exfalso; revert h; first | (unfold In at i39; omega) | (unfold In at i104; omega) | (unfold In at i144; omega))
              have n147h : (z144).toInt = 0 → 0 ≤ (s144.2.2.1 46 7).toInt := by intro _; rw [p144.2, ← e129a]; exact (have a0 := in_u ro_46_1; have a1 := in_u ((inv_F hIc46 448 28000 rfl v46_30_0)); have a2 := in_u ((inv_F hIc46 0 32 rfl v46_2_1)); have a3 := in_u ((inv_F hIc46 0 4000 rfl v46_2_0)); have a4 := in_u ((inv_F hIc46 0 1000 rfl v46_46_2)); have a5 := in_u i63; have a6 := in_u j46_4; have a7 := in_u j46_3; have a8 := in_u j46_2; have a9 := in_u i135x1; have a10 := in_u i129b; have a11 := in_u i129a; have oc := oc_136_1_46; by omega)
              have n147i : (z144).toInt ≠ 0 → LGC s s144 := by first | (intro h; exact absurd rfl h) | (intro h; exfalso; revert h; first | (unfold In at i39; omega) | (unfold In at i104; omega) | (unfold In at i144; omega))
              have n147j : (z129a).toInt ≤ (u_46_1).toInt := by exact (have a0 := in_u ro_46_1; have a1 := in_u ((inv_F hIc46 448 28000 rfl v46_30_0)); have a2 := in_u ((inv_F hIc46 0 32 rfl v46_2_1)); have a3 := in_u ((inv_F hIc46 0 4000 rfl v46_2_0)); have a4 := in_u ((inv_F hIc46 0 1000 rfl v46_46_2)); have a5 := in_u i63; have a6 := in_u j46_4; have a7 := in_u j46_3; have a8 := in_u j46_2; have a9 := in_u i135x1; have a10 := in_u i129b; have a11 := in_u i129a; have oc := oc_136_1_46; by omega)
              have n147k : (s144.2.2.1 46 2).toInt ≤ (s144.2.2.1 46 1).toInt := by have b0 : z129a = s144.2.2.1 46 2 := fr_F (e129) hF144 rfl; have b1 : u_46_1 = s144.2.2.1 46 1 := fr_F (fr_F (fr_F e_46_1 hFc46 rfl) hF129 rfl) hF144 rfl; rw [← b0, ← b1]; exact n147j
              have n147l : (u_2_0).toInt ≤ (w46_2_0).toInt := by first | exact n46_1 | (exact (have a0 := in_u ro_46_1; have a1 := in_u ((inv_F hIc46 448 28000 rfl v46_30_0)); have a2 := in_u ((inv_F hIc46 0 32 rfl v46_2_1)); have a3 := in_u ((inv_F hIc46 0 4000 rfl v46_2_0)); have a4 := in_u ((inv_F hIc46 0 1000 rfl v46_46_2)); have a5 := in_u i63; have a6 := in_u j46_4; have a7 := in_u j46_3; have a8 := in_u j46_2; have a9 := in_u i135x1; have a10 := in_u i129b; have a11 := in_u i129a; have oc := oc_136_1_46; by omega))
              have n147m : (s.2.2.1 2 0).toInt ≤ (s144.2.2.1 2 0).toInt := by have b0 : w46_2_0 = s144.2.2.1 2 0 := fr_F (fr_F (v46_2_0) hF129 rfl) hF144 rfl; first | (rw [← b0, ← e_2_0]; exact n147l) | (rw [← b0]; exact n147l)
              exact g_ireturn (gd rfl) rfl (nb01 (in_w 0 1 i144 rfl)) (hP _ _ ⟨(A 30), s144, hI144, (fr_tr rfl (fr_tr rfl hFc46 hF129) hF144), n147k, n147m, z144, rfl, (by rw [ax_id]), in_w 0 1 i144 rfl, n147, n147a, n147b, n147c, n147d, n147e, n147f, n147g, n147h, n147i⟩)
          · skip
            have i135x5 := r_eq1 3 3 c135x5 i135x1 (in_c 3 rfl) rfl
            refine g_aload_n 9 (gd rfl) rfl rfl ?_
            refine g_getI 12 (gd rfl) rfl rfl rfl (fun z135x9 e135x9 => ?_)
            refine g_iload_n 13 (gd rfl) rfl rfl ?_
            refine g_cmp_ne 16 20 (gd rfl) rfl rfl (fun c135x13 => ?_) (fun c135x13 => ?_)
            · skip
              refine g_iconst 0 21 (gd rfl) rfl rfl ?_
              refine g_ireturn (gd rfl) rfl (nb01 (in_w 0 1 (in_c 0 rfl) rfl)) (hp135 _ _ ?_)
              show GG _ _ _ _ _ _ _ _ [.int (Int32.ofInt 0)] _ _ _
              refine g_if_ne 141 148 (gd rfl) rfl rfl (fun c138 => ?_) (fun c138 => ?_)
              · skip
                exact zn_ne c138 (in_c 0 rfl) rfl
              · skip
                refine g_aload_n 142 (gd rfl) rfl rfl ?_
                refine g_iconst 2 143 (gd rfl) rfl rfl ?_
                refine g_iconst 3 144 (gd rfl) rfl rfl ?_
                refine g_callv (X := _) (As := [.int (Int32.ofInt 2), .int (Int32.ofInt 3)]) (r := []) (b := A 46) (q := 46) 147 (gd rfl) rfl rfl rfl rfl rfl (ww_o rfl) (Nat.le_of_ble_eq_true rfl) (Nat.zero_le _) (Nat.zero_le _) (f_169_46 (by first | exact dq1 hd rfl | exact dq0 hd rfl | exact dq2 hd rfl | exact dq3 hd rfl | omega) hI129 (in_w 2 2 (in_c 2 rfl) rfl) (in_w 3 3 (in_c 3 rfl) rfl) e135x1 e129a) (fun e u h => h) (fun v u h => ?_)
                obtain ⟨s144, hI144, hF144, z144, rfl, rfl, i144, p144⟩ := h
                show GG _ _ _ _ _ _ _ _ [.int z144] _ _ _
                have n147 : KL s144 := by have hL9 : Fr ([31], [], [(46, 2), (46, 3), (46, 4), (46, 5), (46, 6), (46, 7)], []) s s144 := (fr_tr rfl (fr_tr rfl g46_2 hF129) hF144); exact kl_fr q_0 hL9 rfl
                have n147a : (z144).toInt ≠ 0 → (s144.2.2.1 30 0).toInt = nln s := by first | (intro h; exact absurd rfl h) | (intro h; exfalso; revert h; first | (unfold In at i39; omega) | (unfold In at i104; omega) | (unfold In at i144; omega))
                have n147b : (z144).toInt ≠ 0 → (s.2.2.1 2 0).toInt ≤ 3999 := by first | (intro h; exact absurd rfl h) | (intro h; exfalso; revert h; first | (unfold In at i39; omega) | (unfold In at i104; omega) | (unfold In at i144; omega))
                have n147c : ∀ k : Nat, (k : Int) < 7 * (s.2.2.1 2 0).toInt → s144.1 30 k = s.1 30 k := by have hL9 : Fr ([31], [], [(46, 2), (46, 3), (46, 4), (46, 5), (46, 6), (46, 7)], []) s s144 := (fr_tr rfl (fr_tr rfl g46_2 hF129) hF144); exact fun k _ => by rw [hL9.1 30 rfl]
                have n147d : (z144).toInt ≠ 0 → ∀ a : Nat, TKN (s.1 47) (s.2.2.1 46 1).toInt.toNat a (s.2.2.1 46 4).toInt.toNat (s.2.2.1 46 2).toInt.toNat (s.2.2.1 46 3).toInt (s.2.2.1 46 5).toInt → ∃ c V, CMP (s.1 47) (s.2.2.1 46 1).toInt.toNat a (s.2.2.1 46 4).toInt.toNat c V (s144.2.2.1 46 2).toInt.toNat ∧ dkC (gvC s) c V ∧ gvC s144 = opC (gvC s) c V := by first | (intro h; exact absurd rfl h) | (intro h; exfalso; revert h; first | (unfold In at i39; omega) | (unfold In at i104; omega) | (unfold In at i144; omega))
                have n147e : (z144).toInt = 0 → ∀ a : Nat, TKN (s.1 47) (s.2.2.1 46 1).toInt.toNat a (s.2.2.1 46 4).toInt.toNat (s.2.2.1 46 2).toInt.toNat (s.2.2.1 46 3).toInt (s.2.2.1 46 5).toInt → CMX (s.1 47) (s.2.2.1 46 1).toInt.toNat a (s144.2.2.1 46 6).toInt (s144.2.2.1 46 7).toInt.toNat ∨ ∃ c V e, CMP (s.1 47) (s.2.2.1 46 1).toInt.toNat a (s144.2.2.1 46 7).toInt.toNat c V e ∧ ¬ dkC (gvC s) c V ∧ (s144.2.2.1 46 6).toInt = 4 := by intro _ a ha; obtain ⟨h1, p1, k1, v1, h2⟩ := g46_6 a ha; have hk9 := p129b; rw [show sc46.1 47 = s.1 47 from g46_2.1 47 rfl, show sc46.2.2.1 46 1 = s.2.2.1 46 1 from g46_2.2.2.1 46 1 rfl, ← v46_46_2] at hk9; have h5 : y46_5.toInt.toNat = cmA y46_3.toInt := (by have h9 := shq_n g46_3; have h8 := p50; rw [h9] at h8; have h7 := (shq_5 g46_3).1; have h6 := g46_5; exact (have a0 := in_u ro_46_1; have a1 := in_u ((inv_F hIc46 448 28000 rfl v46_30_0)); have a2 := in_u ((inv_F hIc46 0 32 rfl v46_2_1)); have a3 := in_u ((inv_F hIc46 0 4000 rfl v46_2_0)); have a4 := in_u ((inv_F hIc46 0 1000 rfl v46_46_2)); have a5 := in_u i63; have a6 := in_u j46_4; have a7 := in_u j46_3; have a8 := in_u j46_2; have a9 := in_u i135x5; have a10 := in_u i129b; have a11 := in_u i129a; have oc := oc_136_1_46; by omega)); refine Or.inl (Or.inr ⟨_, _, _, shq_i g46_3, by have h9 := ha; rw [g46_4.1, g46_4.2.1] at h9; exact h9, cmA y46_3.toInt, Nat.le_refl _, fun j hj => by obtain ⟨q, f, h9⟩ := h1 j (by omega); exact ⟨q, f, _, h9⟩, (s129.2.2.1 46 2).toInt.toNat, (s129.2.2.1 46 3).toInt, (s129.2.2.1 46 5).toInt, ?_, ?_, p144.1⟩); (rw [p144.2, ← h5]; exact ⟨p1, w46_46_2.toInt.toNat, k1, v1, h2, hk9⟩); (intro h9; unfold cmK at h9; rw [if_pos rfl] at h9; have h8 := tkn_v3 hk9 h9; first | (rw [← e135x1] at h9; exact (have a0 := in_u ro_46_1; have a1 := in_u ((inv_F hIc46 448 28000 rfl v46_30_0)); have a2 := in_u ((inv_F hIc46 0 32 rfl v46_2_1)); have a3 := in_u ((inv_F hIc46 0 4000 rfl v46_2_0)); have a4 := in_u ((inv_F hIc46 0 1000 rfl v46_46_2)); have a5 := in_u i63; have a6 := in_u j46_4; have a7 := in_u j46_3; have a8 := in_u j46_2; have a9 := in_u i135x5; have a10 := in_u i129b; have a11 := in_u i129a; have oc := oc_136_1_46; by omega)) | (rw [← e135x9] at h8; exact (have a0 := in_u ro_46_1; have a1 := in_u ((inv_F hIc46 448 28000 rfl v46_30_0)); have a2 := in_u ((inv_F hIc46 0 32 rfl v46_2_1)); have a3 := in_u ((inv_F hIc46 0 4000 rfl v46_2_0)); have a4 := in_u ((inv_F hIc46 0 1000 rfl v46_46_2)); have a5 := in_u i63; have a6 := in_u j46_4; have a7 := in_u j46_3; have a8 := in_u j46_2; have a9 := in_u i135x5; have a10 := in_u i129b; have a11 := in_u i129a; have oc := oc_136_1_46; by omega)))
                have n147f : (z144).toInt ≠ 0 → TQ s144 := by first | (intro h; exact absurd rfl h) | (intro h; exfalso; revert h; first | (unfold In at i39; omega) | (unfold In at i104; omega) | (unfold In at i144; omega))
                have n147g : (z144).toInt ≠ 0 → s144.2.2.1 46 6 = s.2.2.1 46 6 ∧ s144.2.2.1 46 7 = s.2.2.1 46 7 := by first | (intro h; exact absurd rfl h) | (intro h; exfalso; revert h; first | (unfold In at i39; omega) | (unfold In at i104; omega) | (unfold In at i144; omega))
                have n147h : (z144).toInt = 0 → 0 ≤ (s144.2.2.1 46 7).toInt := by intro _; rw [p144.2, ← e129a]; exact (have a0 := in_u ro_46_1; have a1 := in_u ((inv_F hIc46 448 28000 rfl v46_30_0)); have a2 := in_u ((inv_F hIc46 0 32 rfl v46_2_1)); have a3 := in_u ((inv_F hIc46 0 4000 rfl v46_2_0)); have a4 := in_u ((inv_F hIc46 0 1000 rfl v46_46_2)); have a5 := in_u i63; have a6 := in_u j46_4; have a7 := in_u j46_3; have a8 := in_u j46_2; have a9 := in_u i135x5; have a10 := in_u i129b; have a11 := in_u i129a; have oc := oc_136_1_46; by omega)
                have n147i : (z144).toInt ≠ 0 → LGC s s144 := by first | (intro h; exact absurd rfl h) | (intro h; exfalso; revert h; first | (unfold In at i39; omega) | (unfold In at i104; omega) | (unfold In at i144; omega))
                have n147j : (z129a).toInt ≤ (u_46_1).toInt := by exact (have a0 := in_u ro_46_1; have a1 := in_u ((inv_F hIc46 448 28000 rfl v46_30_0)); have a2 := in_u ((inv_F hIc46 0 32 rfl v46_2_1)); have a3 := in_u ((inv_F hIc46 0 4000 rfl v46_2_0)); have a4 := in_u ((inv_F hIc46 0 1000 rfl v46_46_2)); have a5 := in_u i63; have a6 := in_u j46_4; have a7 := in_u j46_3; have a8 := in_u j46_2; have a9 := in_u i135x5; have a10 := in_u i129b; have a11 := in_u i129a; have oc := oc_136_1_46; by omega)
                have n147k : (s144.2.2.1 46 2).toInt ≤ (s144.2.2.1 46 1).toInt := by have b0 : z129a = s144.2.2.1 46 2 := fr_F (e129) hF144 rfl; have b1 : u_46_1 = s144.2.2.1 46 1 := fr_F (fr_F (fr_F e_46_1 hFc46 rfl) hF129 rfl) hF144 rfl; rw [← b0, ← b1]; exact n147j
                have n147l : (u_2_0).toInt ≤ (w46_2_0).toInt := by first | exact n46_1 | (exact (have a0 := in_u ro_46_1; have a1 := in_u ((inv_F hIc46 448 28000 rfl v46_30_0)); have a2 := in_u ((inv_F hIc46 0 32 rfl v46_2_1)); have a3 := in_u ((inv_F hIc46 0 4000 rfl v46_2_0)); have a4 := in_u ((inv_F hIc46 0 1000 rfl v46_46_2)); have a5 := in_u i63; have a6 := in_u j46_4; have a7 := in_u j46_3; have a8 := in_u j46_2; have a9 := in_u i135x5; have a10 := in_u i129b; have a11 := in_u i129a; have oc := oc_136_1_46; by omega))
                have n147m : (s.2.2.1 2 0).toInt ≤ (s144.2.2.1 2 0).toInt := by have b0 : w46_2_0 = s144.2.2.1 2 0 := fr_F (fr_F (v46_2_0) hF129 rfl) hF144 rfl; first | (rw [← b0, ← e_2_0]; exact n147l) | (rw [← b0]; exact n147l)
                exact g_ireturn (gd rfl) rfl (nb01 (in_w 0 1 i144 rfl)) (hP _ _ ⟨(A 30), s144, hI144, (fr_tr rfl (fr_tr rfl hFc46 hF129) hF144), n147k, n147m, z144, rfl, (by rw [ax_id]), in_w 0 1 i144 rfl, n147, n147a, n147b, n147c, n147d, n147e, n147f, n147g, n147h, n147i⟩)
            · skip
              have i135x13 := r_eq1 59 59 c135x13 (i_rng z135x9) (in_c 59 rfl) rfl
              refine g_iconst 1 17 (gd rfl) rfl rfl ?_
              refine g_goto 21 (gd rfl) rfl ?_
              refine g_ireturn (gd rfl) rfl (nb01 (in_w 0 1 (in_c 1 rfl) rfl)) (hp135 _ _ ?_)
              show GG _ _ _ _ _ _ _ _ [.int (Int32.ofInt 1)] _ _ _
              refine g_if_ne 141 148 (gd rfl) rfl rfl (fun c138 => ?_) (fun c138 => ?_)
              · skip
                refine g_aload_n 149 (gd rfl) rfl rfl ?_
                refine g_iload_n 150 (gd rfl) rfl rfl ?_
                have hL : Fr ([31], [], [(46, 2), (46, 3), (46, 4), (46, 5), (46, 6), (46, 7)], []) s s129 := (fr_tr rfl g46_2 hF129)
                have v150 : w46_2_0 = s129.2.2.1 2 0 := fr_F (v46_2_0) hF129 rfl
                have v150a : w46_2_1 = s129.2.2.1 2 1 := fr_F (v46_2_1) hF129 rfl
                have v150b : w46_30_0 = s129.2.2.1 30 0 := fr_F (v46_30_0) hF129 rfl
                have p150 : KL s129 := by exact kl_fr q_0 hL rfl
                have p150a : (y46_3).toInt = 13 → In (s129.1 31 0) 0 25 := by intro h13; rw [hF129.1 31 rfl]; exact g46_1 (g46_0 h13) (by have hz1 := zn_1 (g46_0 h13); have h9 := p50; exact (have a0 := in_u ro_46_1; have a1 := in_u ((inv_F hIc46 448 28000 rfl v46_30_0)); have a2 := in_u ((inv_F hIc46 0 32 rfl v46_2_1)); have a3 := in_u ((inv_F hIc46 0 4000 rfl v46_2_0)); have a4 := in_u ((inv_F hIc46 0 1000 rfl v46_46_2)); have a5 := in_u i63; have a6 := in_u j46_4; have a7 := in_u j46_3; have a8 := in_u j46_2; have a9 := in_u i135x13; have a10 := in_u i135x5; have a11 := in_u i129b; have a12 := in_u i129a; have oc := oc_136_1_46; by omega))
                have p150b : cmI (y46_3).toInt := by exact shq_i g46_3
                have p150c : TQ s129 := by exact tq_fr q_3 hL rfl
                have p150d : (y46_3).toInt = 0 → In (s129.1 31 4) 0 25 := by intro h0; obtain ⟨a, ha⟩ := q_2; obtain ⟨q, f, h5⟩ := (g46_6 a ha).1 4 (by have h9 := shq_n g46_3; have h8 := p50; rw [h9, h0] at h8; have h7 : (cmA 0 : Int) = 5 := rfl; exact (have a0 := in_u ro_46_1; have a1 := in_u ((inv_F hIc46 448 28000 rfl v46_30_0)); have a2 := in_u ((inv_F hIc46 0 32 rfl v46_2_1)); have a3 := in_u ((inv_F hIc46 0 4000 rfl v46_2_0)); have a4 := in_u ((inv_F hIc46 0 1000 rfl v46_46_2)); have a5 := in_u i63; have a6 := in_u j46_4; have a7 := in_u j46_3; have a8 := in_u j46_2; have a9 := in_u i135x13; have a10 := in_u i135x5; have a11 := in_u i129b; have a12 := in_u i129a; have oc := oc_136_1_46; by omega)); rw [hF129.1 31 rfl]; rw [h0] at h5; obtain ⟨p8, e8, k8, v8, -, h6⟩ := h5; exact tkn_v1 h6 rfl
                refine g_callv (X := _) (As := [.int y46_3]) (r := []) (b := A 1) (q := 1) 153 (gd rfl) rfl rfl rfl rfl rfl (ww_o rfl) (Nat.le_of_ble_eq_true rfl) (Nat.le_of_eq (lc_cg ((show Fr ([31], [], [(46, 2), (46, 3), (46, 4), (46, 5), (46, 6), (46, 7)], []) s s129 from (fr_tr rfl g46_2 hF129)).2.2.1 30 0 rfl) ((show Fr ([31], [], [(46, 2), (46, 3), (46, 4), (46, 5), (46, 6), (46, 7)], []) s s129 from (fr_tr rfl g46_2 hF129)).2.2.1 2 0 rfl)).1) (Nat.le_of_eq (lc_cg ((show Fr ([31], [], [(46, 2), (46, 3), (46, 4), (46, 5), (46, 6), (46, 7)], []) s s129 from (fr_tr rfl g46_2 hF129)).2.2.1 30 0 rfl) ((show Fr ([31], [], [(46, 2), (46, 3), (46, 4), (46, 5), (46, 6), (46, 7)], []) s s129 from (fr_tr rfl g46_2 hF129)).2.2.1 2 0 rfl)).2.1) (f_138_1 (by first | exact dq1 hd rfl | exact dq0 hd rfl | exact dq2 hd rfl | exact dq3 hd rfl | omega) hI129 (in_w (-1) 25 j46_3 rfl) v150 v150a v150b rfl p150 p150a p150b p150c p150d) (fun e u h => h) (fun v u h => ?_)
                obtain ⟨a150, s150, hI150, hF150, n150, z150, rfl, rfl, i150, p150e, p150f, p150g, p150h, p150i, p150j, p150k⟩ := h
                obtain ⟨z150a, e150⟩ : ∃ w, w = s150.2.2.1 2 0 := ⟨_, rfl⟩
                have i150a := inv_F hI150 0 4000 rfl e150
                rw [← (show w46_2_0 = s129.2.2.1 2 0 from fr_F (v46_2_0) hF129 rfl)] at n150
                rw [← (show z150a = s150.2.2.1 2 0 from e150)] at n150
                show GG _ _ _ _ _ _ _ _ [.int z150] _ _ _
                refine g_if_ne 156 165 (gd rfl) rfl rfl (fun c153 => ?_) (fun c153 => ?_)
                · skip
                  have i153 := z_ne 1 1 c153 i150 rfl
                  refine g_iconst 1 166 (gd rfl) rfl rfl ?_
                  refine g_goto 170 (gd rfl) rfl ?_
                  have n170 : KL s150 := by exact p150e
                  have n170a : ((Int32.ofInt 1)).toInt ≠ 0 → (s150.2.2.1 30 0).toInt = nln s := by first | (intro h; exact absurd rfl h) | (intro _; rw [← (lc_cg (s := s) (hL.2.2.1 30 0 rfl) (hL.2.2.1 2 0 rfl)).2.2]; exact p150f c153)
                  have n170b : ((Int32.ofInt 1)).toInt ≠ 0 → (s.2.2.1 2 0).toInt ≤ 3999 := by first | (intro h; exact absurd rfl h) | (intro _; rw [← hL.2.2.1 2 0 rfl]; exact p150g c153)
                  have n170c : ∀ k : Nat, (k : Int) < 7 * (s.2.2.1 2 0).toInt → s150.1 30 k = s.1 30 k := by exact fun k hk => by rw [p150h k (by rw [hL.2.2.1 2 0 rfl]; exact hk), hL.1 30 rfl]
                  have n170d : ((Int32.ofInt 1)).toInt ≠ 0 → ∀ a : Nat, TKN (s.1 47) (s.2.2.1 46 1).toInt.toNat a (s.2.2.1 46 4).toInt.toNat (s.2.2.1 46 2).toInt.toNat (s.2.2.1 46 3).toInt (s.2.2.1 46 5).toInt → ∃ c V, CMP (s.1 47) (s.2.2.1 46 1).toInt.toNat a (s.2.2.1 46 4).toInt.toNat c V (s150.2.2.1 46 2).toInt.toNat ∧ dkC (gvC s) c V ∧ gvC s150 = opC (gvC s) c V := by first | (intro h; exact absurd rfl h) | (intro _ a ha; obtain ⟨h1, p1, k1, v1, h2⟩ := g46_6 a ha; have hk9 := p129b; rw [show sc46.1 47 = s.1 47 from g46_2.1 47 rfl, show sc46.2.2.1 46 1 = s.2.2.1 46 1 from g46_2.2.2.1 46 1 rfl, ← v46_46_2] at hk9; have h5 : y46_5.toInt.toNat = cmA y46_3.toInt := (by have h9 := shq_n g46_3; have h8 := p50; rw [h9] at h8; have h7 := (shq_5 g46_3).1; have h6 := g46_5; exact (have a0 := in_u ro_46_1; have a1 := in_u ((inv_F hIc46 448 28000 rfl v46_30_0)); have a2 := in_u ((inv_F hIc46 0 32 rfl v46_2_1)); have a3 := in_u ((inv_F hIc46 0 4000 rfl v46_2_0)); have a4 := in_u ((inv_F hIc46 0 1000 rfl v46_46_2)); have a5 := in_u i63; have a6 := in_u j46_4; have a7 := in_u j46_3; have a8 := in_u j46_2; have a9 := in_u i150a; have a10 := in_u i135x13; have a11 := in_u i135x5; have a12 := in_u i129b; have a13 := in_u i129a; have oc := oc_136_1_46; by omega)); have hcm : CMP (s.1 47) (s.2.2.1 46 1).toInt.toNat a (s.2.2.1 46 4).toInt.toNat y46_3.toInt (V31 s129) (s129.2.2.1 46 2).toInt.toNat := ⟨shq_i g46_3, ⟨_, by have h9 := ha; rw [g46_4.1, g46_4.2.1] at h9; exact h9⟩, fun i hi => by show ∃ q f, TSQ _ _ _ _ q f _ (s129.1 31 i).toInt; rw [hF129.1 31 rfl]; exact h1 i (by omega), (s129.2.2.1 46 4).toInt.toNat, (s129.2.2.1 46 5).toInt, by rw [← h5]; exact ⟨p1, w46_46_2.toInt.toNat, k1, v1, h2, by have h9 := hk9; rw [show (s129.2.2.1 46 3).toInt = 3 from (by rw [← e135x1]; exact (have a0 := in_u ro_46_1; have a1 := in_u ((inv_F hIc46 448 28000 rfl v46_30_0)); have a2 := in_u ((inv_F hIc46 0 32 rfl v46_2_1)); have a3 := in_u ((inv_F hIc46 0 4000 rfl v46_2_0)); have a4 := in_u ((inv_F hIc46 0 1000 rfl v46_46_2)); have a5 := in_u i63; have a6 := in_u j46_4; have a7 := in_u j46_3; have a8 := in_u j46_2; have a9 := in_u i150a; have a10 := in_u i135x13; have a11 := in_u i135x5; have a12 := in_u i129b; have a13 := in_u i129a; have oc := oc_136_1_46; by omega))] at h9; exact h9⟩⟩; have h3 := p150i c153; rw [gvC_cg hL rfl] at h3; exact ⟨_, _, by rw [hF150.2.2.1 46 2 rfl]; exact hcm, h3.1, h3.2.1⟩)
                  have n170e : ((Int32.ofInt 1)).toInt = 0 → ∀ a : Nat, TKN (s.1 47) (s.2.2.1 46 1).toInt.toNat a (s.2.2.1 46 4).toInt.toNat (s.2.2.1 46 2).toInt.toNat (s.2.2.1 46 3).toInt (s.2.2.1 46 5).toInt → CMX (s.1 47) (s.2.2.1 46 1).toInt.toNat a (s150.2.2.1 46 6).toInt (s150.2.2.1 46 7).toInt.toNat ∨ ∃ c V e, CMP (s.1 47) (s.2.2.1 46 1).toInt.toNat a (s150.2.2.1 46 7).toInt.toNat c V e ∧ ¬ dkC (gvC s) c V ∧ (s150.2.2.1 46 6).toInt = 4 := by intro h; exact absurd h (by decide)
                  have n170f : ((Int32.ofInt 1)).toInt ≠ 0 → TQ s150 := by first | (intro h; exact absurd rfl h) | (intro _; exact (p150i c153).2.2)
                  have n170g : ((Int32.ofInt 1)).toInt ≠ 0 → s150.2.2.1 46 6 = s.2.2.1 46 6 ∧ s150.2.2.1 46 7 = s.2.2.1 46 7 := by first | (intro h; exact absurd rfl h) | (intro _; exact ⟨(hF150.2.2.1 46 6 rfl).trans ((hF129.2.2.1 46 6 rfl).trans g46_7.1), (hF150.2.2.1 46 7 rfl).trans ((hF129.2.2.1 46 7 rfl).trans g46_7.2)⟩)
                  have n170h : ((Int32.ofInt 1)).toInt = 0 → 0 ≤ (s150.2.2.1 46 7).toInt := by intro h; exact absurd h (by decide)
                  have n170i : ((Int32.ofInt 1)).toInt ≠ 0 → LGC s s150 := by first | (intro h; exact absurd rfl h) | (intro _; exact lgc_fr (p150k c153) hL rfl)
                  have n170j : (z129a).toInt ≤ (u_46_1).toInt := by exact (have a0 := in_u ro_46_1; have a1 := in_u ((inv_F hIc46 448 28000 rfl v46_30_0)); have a2 := in_u ((inv_F hIc46 0 32 rfl v46_2_1)); have a3 := in_u ((inv_F hIc46 0 4000 rfl v46_2_0)); have a4 := in_u ((inv_F hIc46 0 1000 rfl v46_46_2)); have a5 := in_u i63; have a6 := in_u j46_4; have a7 := in_u j46_3; have a8 := in_u j46_2; have a9 := in_u i150a; have a10 := in_u i135x13; have a11 := in_u i135x5; have a12 := in_u i129b; have a13 := in_u i129a; have oc := oc_136_1_46; by omega)
                  have n170k : (s150.2.2.1 46 2).toInt ≤ (s150.2.2.1 46 1).toInt := by have b0 : z129a = s150.2.2.1 46 2 := fr_F (e129) hF150 rfl; have b1 : u_46_1 = s150.2.2.1 46 1 := fr_F (fr_F (fr_F e_46_1 hFc46 rfl) hF129 rfl) hF150 rfl; rw [← b0, ← b1]; exact n170j
                  have n170l : (u_2_0).toInt ≤ (z150a).toInt := by exact (have a0 := in_u ro_46_1; have a1 := in_u ((inv_F hIc46 448 28000 rfl v46_30_0)); have a2 := in_u ((inv_F hIc46 0 32 rfl v46_2_1)); have a3 := in_u ((inv_F hIc46 0 4000 rfl v46_2_0)); have a4 := in_u ((inv_F hIc46 0 1000 rfl v46_46_2)); have a5 := in_u i63; have a6 := in_u j46_4; have a7 := in_u j46_3; have a8 := in_u j46_2; have a9 := in_u i150a; have a10 := in_u i135x13; have a11 := in_u i135x5; have a12 := in_u i129b; have a13 := in_u i129a; have oc := oc_136_1_46; by omega)
                  have n170m : (s.2.2.1 2 0).toInt ≤ (s150.2.2.1 2 0).toInt := by have b0 : z150a = s150.2.2.1 2 0 := e150; first | (rw [← b0, ← e_2_0]; exact n170l) | (rw [← b0]; exact n170l)
                  exact g_ireturn (gd rfl) rfl (nb01 (in_w 0 1 (in_c 1 rfl) rfl)) (hP _ _ ⟨a150, s150, hI150, (fr_tr rfl (fr_tr rfl hFc46 hF129) hF150), n170k, n170m, (Int32.ofInt 1), rfl, rfl, in_w 0 1 (in_c 1 rfl) rfl, n170, n170a, n170b, n170c, n170d, n170e, n170f, n170g, n170h, n170i⟩)
                · skip
                  have i153 := z_eq 0 0 c153 i150 rfl
                  refine g_aload_n 157 (gd rfl) rfl rfl ?_
                  refine g_iconst 4 158 (gd rfl) rfl rfl ?_
                  refine g_iload_n 159 (gd rfl) rfl rfl ?_
                  refine g_callv (X := _) (As := [.int (Int32.ofInt 4), .int y46_2]) (r := []) (b := A 46) (q := 46) 162 (gd rfl) rfl rfl rfl rfl rfl (ww_o rfl) (Nat.le_of_ble_eq_true rfl) (Nat.zero_le _) (Nat.zero_le _) (f_168_46 (A := (ax A 30 a150)) (by omega) hI150 (in_w 1 5 (in_c 4 rfl) rfl) (in_w 0 1000 j46_2 rfl)) (fun e u h => h) (fun v u h => ?_)
                  obtain ⟨s159, hI159, hF159, z159, rfl, rfl, i159, p159⟩ := h
                  show GG _ _ _ _ _ _ _ _ [.int z159] _ _ _
                  refine g_if_eq 165 169 (gd rfl) rfl rfl (fun c162 => ?_) (fun c162 => ?_)
                  · skip
                    refine g_iconst 0 170 (gd rfl) rfl rfl ?_
                    have n170 : KL s159 := by exact kl_fr p150e hF159 rfl
                    have n170a : ((Int32.ofInt 0)).toInt ≠ 0 → (s159.2.2.1 30 0).toInt = nln s := by intro h; exact absurd rfl h
                    have n170b : ((Int32.ofInt 0)).toInt ≠ 0 → (s.2.2.1 2 0).toInt ≤ 3999 := by intro h; exact absurd rfl h
                    have n170c : ∀ k : Nat, (k : Int) < 7 * (s.2.2.1 2 0).toInt → s159.1 30 k = s.1 30 k := by exact fun k hk => by rw [hF159.1 30 rfl, p150h k (by rw [hL.2.2.1 2 0 rfl]; exact hk), hL.1 30 rfl]
                    have n170d : ((Int32.ofInt 0)).toInt ≠ 0 → ∀ a : Nat, TKN (s.1 47) (s.2.2.1 46 1).toInt.toNat a (s.2.2.1 46 4).toInt.toNat (s.2.2.1 46 2).toInt.toNat (s.2.2.1 46 3).toInt (s.2.2.1 46 5).toInt → ∃ c V, CMP (s.1 47) (s.2.2.1 46 1).toInt.toNat a (s.2.2.1 46 4).toInt.toNat c V (s159.2.2.1 46 2).toInt.toNat ∧ dkC (gvC s) c V ∧ gvC s159 = opC (gvC s) c V := by first | (intro h; exact absurd rfl h) | (intro _ a ha; obtain ⟨h1, p1, k1, v1, h2⟩ := g46_6 a ha; have hk9 := p129b; rw [show sc46.1 47 = s.1 47 from g46_2.1 47 rfl, show sc46.2.2.1 46 1 = s.2.2.1 46 1 from g46_2.2.2.1 46 1 rfl, ← v46_46_2] at hk9; have h5 : y46_5.toInt.toNat = cmA y46_3.toInt := (by have h9 := shq_n g46_3; have h8 := p50; rw [h9] at h8; have h7 := (shq_5 g46_3).1; have h6 := g46_5; exact (have a0 := in_u ro_46_1; have a1 := in_u ((inv_F hIc46 448 28000 rfl v46_30_0)); have a2 := in_u ((inv_F hIc46 0 32 rfl v46_2_1)); have a3 := in_u ((inv_F hIc46 0 4000 rfl v46_2_0)); have a4 := in_u ((inv_F hIc46 0 1000 rfl v46_46_2)); have a5 := in_u i63; have a6 := in_u j46_4; have a7 := in_u j46_3; have a8 := in_u j46_2; have a9 := in_u i150a; have a10 := in_u i135x13; have a11 := in_u i135x5; have a12 := in_u i129b; have a13 := in_u i129a; have oc := oc_136_1_46; by omega)); have hcm : CMP (s.1 47) (s.2.2.1 46 1).toInt.toNat a (s.2.2.1 46 4).toInt.toNat y46_3.toInt (V31 s129) (s129.2.2.1 46 2).toInt.toNat := ⟨shq_i g46_3, ⟨_, by have h9 := ha; rw [g46_4.1, g46_4.2.1] at h9; exact h9⟩, fun i hi => by show ∃ q f, TSQ _ _ _ _ q f _ (s129.1 31 i).toInt; rw [hF129.1 31 rfl]; exact h1 i (by omega), (s129.2.2.1 46 4).toInt.toNat, (s129.2.2.1 46 5).toInt, by rw [← h5]; exact ⟨p1, w46_46_2.toInt.toNat, k1, v1, h2, by have h9 := hk9; rw [show (s129.2.2.1 46 3).toInt = 3 from (by rw [← e135x1]; exact (have a0 := in_u ro_46_1; have a1 := in_u ((inv_F hIc46 448 28000 rfl v46_30_0)); have a2 := in_u ((inv_F hIc46 0 32 rfl v46_2_1)); have a3 := in_u ((inv_F hIc46 0 4000 rfl v46_2_0)); have a4 := in_u ((inv_F hIc46 0 1000 rfl v46_46_2)); have a5 := in_u i63; have a6 := in_u j46_4; have a7 := in_u j46_3; have a8 := in_u j46_2; have a9 := in_u i150a; have a10 := in_u i135x13; have a11 := in_u i135x5; have a12 := in_u i129b; have a13 := in_u i129a; have oc := oc_136_1_46; by omega))] at h9; exact h9⟩⟩; have h3 := p150i c153; rw [gvC_cg hL rfl] at h3; exact ⟨_, _, by rw [hF150.2.2.1 46 2 rfl]; exact hcm, h3.1, h3.2.1⟩)
                    have n170e : ((Int32.ofInt 0)).toInt = 0 → ∀ a : Nat, TKN (s.1 47) (s.2.2.1 46 1).toInt.toNat a (s.2.2.1 46 4).toInt.toNat (s.2.2.1 46 2).toInt.toNat (s.2.2.1 46 3).toInt (s.2.2.1 46 5).toInt → CMX (s.1 47) (s.2.2.1 46 1).toInt.toNat a (s159.2.2.1 46 6).toInt (s159.2.2.1 46 7).toInt.toNat ∨ ∃ c V e, CMP (s.1 47) (s.2.2.1 46 1).toInt.toNat a (s159.2.2.1 46 7).toInt.toNat c V e ∧ ¬ dkC (gvC s) c V ∧ (s159.2.2.1 46 6).toInt = 4 := by first | (intro h; exact absurd h (by decide)) | (intro _ a ha; obtain ⟨h1, p1, k1, v1, h2⟩ := g46_6 a ha; have hk9 := p129b; rw [show sc46.1 47 = s.1 47 from g46_2.1 47 rfl, show sc46.2.2.1 46 1 = s.2.2.1 46 1 from g46_2.2.2.1 46 1 rfl, ← v46_46_2] at hk9; have h5 : y46_5.toInt.toNat = cmA y46_3.toInt := (by have h9 := shq_n g46_3; have h8 := p50; rw [h9] at h8; have h7 := (shq_5 g46_3).1; have h6 := g46_5; exact (have a0 := in_u ro_46_1; have a1 := in_u ((inv_F hIc46 448 28000 rfl v46_30_0)); have a2 := in_u ((inv_F hIc46 0 32 rfl v46_2_1)); have a3 := in_u ((inv_F hIc46 0 4000 rfl v46_2_0)); have a4 := in_u ((inv_F hIc46 0 1000 rfl v46_46_2)); have a5 := in_u i63; have a6 := in_u j46_4; have a7 := in_u j46_3; have a8 := in_u j46_2; have a9 := in_u i150a; have a10 := in_u i135x13; have a11 := in_u i135x5; have a12 := in_u i129b; have a13 := in_u i129a; have oc := oc_136_1_46; by omega)); have hcm : CMP (s.1 47) (s.2.2.1 46 1).toInt.toNat a (s.2.2.1 46 4).toInt.toNat y46_3.toInt (V31 s129) (s129.2.2.1 46 2).toInt.toNat := ⟨shq_i g46_3, ⟨_, by have h9 := ha; rw [g46_4.1, g46_4.2.1] at h9; exact h9⟩, fun i hi => by show ∃ q f, TSQ _ _ _ _ q f _ (s129.1 31 i).toInt; rw [hF129.1 31 rfl]; exact h1 i (by omega), (s129.2.2.1 46 4).toInt.toNat, (s129.2.2.1 46 5).toInt, by rw [← h5]; exact ⟨p1, w46_46_2.toInt.toNat, k1, v1, h2, by have h9 := hk9; rw [show (s129.2.2.1 46 3).toInt = 3 from (by rw [← e135x1]; exact (have a0 := in_u ro_46_1; have a1 := in_u ((inv_F hIc46 448 28000 rfl v46_30_0)); have a2 := in_u ((inv_F hIc46 0 32 rfl v46_2_1)); have a3 := in_u ((inv_F hIc46 0 4000 rfl v46_2_0)); have a4 := in_u ((inv_F hIc46 0 1000 rfl v46_46_2)); have a5 := in_u i63; have a6 := in_u j46_4; have a7 := in_u j46_3; have a8 := in_u j46_2; have a9 := in_u i150a; have a10 := in_u i135x13; have a11 := in_u i135x5; have a12 := in_u i129b; have a13 := in_u i129a; have oc := oc_136_1_46; by omega))] at h9; exact h9⟩⟩; have h3 := p150j (by exact (have a0 := in_u ro_46_1; have a1 := in_u ((inv_F hIc46 448 28000 rfl v46_30_0)); have a2 := in_u ((inv_F hIc46 0 32 rfl v46_2_1)); have a3 := in_u ((inv_F hIc46 0 4000 rfl v46_2_0)); have a4 := in_u ((inv_F hIc46 0 1000 rfl v46_46_2)); have a5 := in_u i63; have a6 := in_u j46_4; have a7 := in_u j46_3; have a8 := in_u j46_2; have a9 := in_u i150a; have a10 := in_u i135x13; have a11 := in_u i135x5; have a12 := in_u i129b; have a13 := in_u i129a; have oc := oc_136_1_46; by omega)); rw [gvC_cg hL rfl] at h3; refine Or.inr ⟨y46_3.toInt, V31 s129, (s129.2.2.1 46 2).toInt.toNat, ?_, h3, by rw [p159.1]; rfl⟩; rw [p159.2, g46_4.2.2]; exact hcm)
                    have n170f : ((Int32.ofInt 0)).toInt ≠ 0 → TQ s159 := by first | (intro h; exact absurd rfl h) | (intro _; exact (p150i c153).2.2)
                    have n170g : ((Int32.ofInt 0)).toInt ≠ 0 → s159.2.2.1 46 6 = s.2.2.1 46 6 ∧ s159.2.2.1 46 7 = s.2.2.1 46 7 := by first | (intro h; exact absurd rfl h) | (intro h; exfalso; revert h; first | (unfold In at i39; omega) | (unfold In at i104; omega) | (unfold In at i144; omega))
                    have n170h : ((Int32.ofInt 0)).toInt = 0 → 0 ≤ (s159.2.2.1 46 7).toInt := by first | (intro h; exact absurd h (by decide)) | (intro _; rw [p159.2]; exact (have a0 := in_u ro_46_1; have a1 := in_u ((inv_F hIc46 448 28000 rfl v46_30_0)); have a2 := in_u ((inv_F hIc46 0 32 rfl v46_2_1)); have a3 := in_u ((inv_F hIc46 0 4000 rfl v46_2_0)); have a4 := in_u ((inv_F hIc46 0 1000 rfl v46_46_2)); have a5 := in_u i63; have a6 := in_u j46_4; have a7 := in_u j46_3; have a8 := in_u j46_2; have a9 := in_u i150a; have a10 := in_u i135x13; have a11 := in_u i135x5; have a12 := in_u i129b; have a13 := in_u i129a; have oc := oc_136_1_46; by omega))
                    have n170i : ((Int32.ofInt 0)).toInt ≠ 0 → LGC s s159 := by first | (intro h; exact absurd rfl h) | (intro h; exfalso; revert h; first | (unfold In at i39; omega) | (unfold In at i104; omega) | (unfold In at i144; omega))
                    have n170j : (z129a).toInt ≤ (u_46_1).toInt := by exact (have a0 := in_u ro_46_1; have a1 := in_u ((inv_F hIc46 448 28000 rfl v46_30_0)); have a2 := in_u ((inv_F hIc46 0 32 rfl v46_2_1)); have a3 := in_u ((inv_F hIc46 0 4000 rfl v46_2_0)); have a4 := in_u ((inv_F hIc46 0 1000 rfl v46_46_2)); have a5 := in_u i63; have a6 := in_u j46_4; have a7 := in_u j46_3; have a8 := in_u j46_2; have a9 := in_u i150a; have a10 := in_u i135x13; have a11 := in_u i135x5; have a12 := in_u i129b; have a13 := in_u i129a; have oc := oc_136_1_46; by omega)
                    have n170k : (s159.2.2.1 46 2).toInt ≤ (s159.2.2.1 46 1).toInt := by have b0 : z129a = s159.2.2.1 46 2 := fr_F (fr_F (e129) hF150 rfl) hF159 rfl; have b1 : u_46_1 = s159.2.2.1 46 1 := fr_F (fr_F (fr_F (fr_F e_46_1 hFc46 rfl) hF129 rfl) hF150 rfl) hF159 rfl; rw [← b0, ← b1]; exact n170j
                    have n170l : (u_2_0).toInt ≤ (z150a).toInt := by exact (have a0 := in_u ro_46_1; have a1 := in_u ((inv_F hIc46 448 28000 rfl v46_30_0)); have a2 := in_u ((inv_F hIc46 0 32 rfl v46_2_1)); have a3 := in_u ((inv_F hIc46 0 4000 rfl v46_2_0)); have a4 := in_u ((inv_F hIc46 0 1000 rfl v46_46_2)); have a5 := in_u i63; have a6 := in_u j46_4; have a7 := in_u j46_3; have a8 := in_u j46_2; have a9 := in_u i150a; have a10 := in_u i135x13; have a11 := in_u i135x5; have a12 := in_u i129b; have a13 := in_u i129a; have oc := oc_136_1_46; by omega)
                    have n170m : (s.2.2.1 2 0).toInt ≤ (s159.2.2.1 2 0).toInt := by have b0 : z150a = s159.2.2.1 2 0 := fr_F (e150) hF159 rfl; first | (rw [← b0, ← e_2_0]; exact n170l) | (rw [← b0]; exact n170l)
                    exact g_ireturn (gd rfl) rfl (nb01 (in_w 0 1 (in_c 0 rfl) rfl)) (hP _ _ ⟨a150, s159, hI159, (fr_tr rfl (fr_tr rfl (fr_tr rfl hFc46 hF129) hF150) hF159), n170k, n170m, (Int32.ofInt 0), rfl, rfl, in_w 0 1 (in_c 0 rfl) rfl, n170, n170a, n170b, n170c, n170d, n170e, n170f, n170g, n170h, n170i⟩)
                  · skip
                    exact zn_ne c162 i159 rfl
              · skip
                exact zn_eq c138 (in_c 1 rfl) rfl
        · skip
          have i63 := r_lt1 0 4 c63 j46_5 (in_c 5 rfl) rfl
          refine g_aload_n 67 (gd rfl) rfl rfl ?_
          refine g_bipush 7 69 (gd rfl) rfl rfl ?_
          refine g_iconst 1 70 (gd rfl) rfl rfl ?_
          have v70 : u_46_1 = sc46.2.2.1 46 1 := fr_F e_46_1 hFc46 rfl
          have n70 : (w46_46_2).toInt ≤ (u_46_1).toInt := by first | exact n46_0 | (exact (have a0 := in_u ro_46_1; have a1 := in_u ((inv_F hIc46 448 28000 rfl v46_30_0)); have a2 := in_u ((inv_F hIc46 0 32 rfl v46_2_1)); have a3 := in_u ((inv_F hIc46 0 4000 rfl v46_2_0)); have a4 := in_u ((inv_F hIc46 0 1000 rfl v46_46_2)); have a5 := in_u i63; have a6 := in_u j46_4; have a7 := in_u j46_3; have a8 := in_u j46_2; have oc := oc_136_1_46; by omega))
          refine g_callv (X := _) (As := [.int (Int32.ofInt 7), .int (Int32.ofInt 1)]) (r := []) (b := A 46) (q := 46) 73 (gd rfl) rfl rfl rfl rfl rfl (ww_o rfl) (Nat.le_of_ble_eq_true rfl) (Nat.zero_le _) (Nat.zero_le _) (f_171_46 (by first | exact dq1 hd rfl | exact dq0 hd rfl | exact dq2 hd rfl | exact dq3 hd rfl | omega) hIc46 (in_w 7 7 (in_c 7 rfl) rfl) (in_w 1 1 (in_c 1 rfl) rfl) v46_46_2 v70 n70) (fun e u h => h) (fun v u h => ?_)
          obtain ⟨s70, hI70, hF70, n70a, n70b, n70c, rfl, rfl, p70, p70a, p70b⟩ := h
          obtain ⟨z70a, e70⟩ : ∃ w, w = s70.2.2.1 46 2 := ⟨_, rfl⟩
          have i70a := inv_F hI70 0 1000 rfl e70
          obtain ⟨z70b, e70a⟩ : ∃ w, w = s70.2.2.1 46 4 := ⟨_, rfl⟩
          have i70b := inv_F hI70 0 1000 rfl e70a
          rw [← (show z70a = s70.2.2.1 46 2 from e70)] at n70a
          rw [← (show u_46_1 = s70.2.2.1 46 1 from fr_F (fr_F e_46_1 hFc46 rfl) hF70 rfl)] at n70a
          rw [← (show z70a = s70.2.2.1 46 2 from e70)] at n70b
          rw [← (show z70b = s70.2.2.1 46 4 from e70a)] at n70b
          rw [← (show w46_46_2 = sc46.2.2.1 46 2 from v46_46_2)] at n70c
          rw [← (show z70b = s70.2.2.1 46 4 from e70a)] at n70c
          show GG _ _ _ _ _ _ _ _ [] _ _ _
          refine g_aload 75 (gd rfl) rfl rfl ?_
          refine g_iload 77 (gd rfl) rfl rfl ?_
          have i77 : In y46_4 0 6 := in_w 0 6 j46_4 rfl
          have n77 : 0 ≤ (y46_5).toInt := by have a := i63; unfold In at a; omega
          have n77a : (y46_5).toInt < (zn y46_4 : Int) := by have h9 := p50; exact (have a0 := in_u ro_46_1; have a1 := in_u ((inv_F hIc46 448 28000 rfl v46_30_0)); have a2 := in_u ((inv_F hIc46 0 32 rfl v46_2_1)); have a3 := in_u ((inv_F hIc46 0 4000 rfl v46_2_0)); have a4 := in_u ((inv_F hIc46 0 1000 rfl v46_46_2)); have a5 := in_u i63; have a6 := in_u j46_4; have a7 := in_u j46_3; have a8 := in_u j46_2; have a9 := in_u i70b; have a10 := in_u i70a; have oc := oc_136_1_46; by omega)
          refine g_callS (X := _) (As := [.int y46_5]) (r := []) (x := y46_4) 80 (gd rfl) rfl rfl rfl zm_429 rfl rfl rfl i77 (Nat.le_of_ble_eq_true rfl) (f_429 i77 n77 n77a (by omega)) (fun e u h => h) (fun v u h => ?_)
          obtain ⟨z77, rfl, rfl, i77a, p77, p77a⟩ := h
          show GG _ _ _ _ _ _ _ _ [.int z77] _ _ _
          refine g_bipush 108 82 (gd rfl) rfl rfl ?_
          refine g_cmp_ne 85 89 (gd rfl) rfl rfl (fun c82 => ?_) (fun c82 => ?_)
          · skip
            refine g_iconst 2 90 (gd rfl) rfl rfl ?_
            refine g_istore 92 (gd rfl) rfl (Nat.le_of_ble_eq_true rfl) ?_
            refine g_aload_n 93 (gd rfl) rfl rfl ?_
            refine g_getI 96 (gd rfl) rfl rfl rfl (fun z93 e93 => ?_)
            have i93 := inv_F hI70 0 5 rfl e93
            refine g_iload 98 (gd rfl) rfl rfl ?_
            refine g_cmp_eq 101 108 (gd rfl) rfl rfl (fun c98 => ?_) (fun c98 => ?_)
            · skip
              have i98 := r_eq1 2 2 c98 i93 (in_c 2 rfl) rfl
              refine g_aload_n 109 (gd rfl) rfl rfl ?_
              refine g_getA (q2 := 31) 112 (gd rfl) rfl rfl rfl rfl ?_
              refine g_iload 114 (gd rfl) rfl rfl ?_
              refine g_aload_n 115 (gd rfl) rfl rfl ?_
              refine g_getI 118 (gd rfl) rfl rfl rfl (fun z115 e115 => ?_)
              refine g_iastore 119 (gd rfl) rfl (n := 5) rfl (in_ix i63 rfl) ?_
              have hI118 := inv_sI (q := 31) (j := y46_5.toNatClampNeg) hI70 rfl (in_w (-2147483648) 2147483647 (i_rng z115) rfl)
              refine g_iinc 122 (gd rfl) rfl rfl (Nat.le_of_ble_eq_true rfl) (fun z119 e119 => ?_)
              have i119 := in_add 1 5 e119 i63 (in_c 1 rfl) rfl rfl
              refine g_goto 46 (gd rfl) rfl ?_
              have v46 : z70a = (sI s70 31 y46_5.toNatClampNeg z115).2.2.1 46 2 := sI_F (e70)
              have v46a : w46_2_0 = (sI s70 31 y46_5.toNatClampNeg z115).2.2.1 2 0 := sI_F (fr_F (v46_2_0) hF70 rfl)
              have v46b : w46_2_1 = (sI s70 31 y46_5.toNatClampNeg z115).2.2.1 2 1 := sI_F (fr_F (v46_2_1) hF70 rfl)
              have v46c : w46_30_0 = (sI s70 31 y46_5.toNatClampNeg z115).2.2.1 30 0 := sI_F (fr_F (v46_30_0) hF70 rfl)
              have n46 : (z70a).toInt ≤ (u_46_1).toInt := by exact (have a0 := in_u ro_46_1; have a1 := in_u ((inv_F hIc46 448 28000 rfl v46_30_0)); have a2 := in_u ((inv_F hIc46 0 32 rfl v46_2_1)); have a3 := in_u ((inv_F hIc46 0 4000 rfl v46_2_0)); have a4 := in_u ((inv_F hIc46 0 1000 rfl v46_46_2)); have a5 := in_u i63; have a6 := in_u j46_4; have a7 := in_u j46_3; have a8 := in_u j46_2; have a9 := in_u ((in_c 2 rfl)); have a10 := in_u i119; have a11 := t_add e119 i63 (in_c 1 rfl) rfl; have a12 := in_u ((in_c 1 rfl)); have a13 := in_u i98; have a14 := in_u i70b; have a15 := in_u i70a; have oc := oc_136_1_46; by omega)
              have n46a : (u_2_0).toInt ≤ (w46_2_0).toInt := by first | exact n46_1 | (exact (have a0 := in_u ro_46_1; have a1 := in_u ((inv_F hIc46 448 28000 rfl v46_30_0)); have a2 := in_u ((inv_F hIc46 0 32 rfl v46_2_1)); have a3 := in_u ((inv_F hIc46 0 4000 rfl v46_2_0)); have a4 := in_u ((inv_F hIc46 0 1000 rfl v46_46_2)); have a5 := in_u i63; have a6 := in_u j46_4; have a7 := in_u j46_3; have a8 := in_u j46_2; have a9 := in_u ((in_c 2 rfl)); have a10 := in_u i119; have a11 := t_add e119 i63 (in_c 1 rfl) rfl; have a12 := in_u ((in_c 1 rfl)); have a13 := in_u i98; have a14 := in_u i70b; have a15 := in_u i70a; have oc := oc_136_1_46; by omega))
              have n46b : (y46_3).toInt = 13 → (y46_4).toInt = 1 := by exact g46_0
              have n46c : (y46_4).toInt = 1 → 1 ≤ (z119).toInt → In ((sI s70 31 y46_5.toNatClampNeg z115).1 31 0) 0 25 := by intro h4 _; first | (exfalso; have h9 := p77 h4; have c8 : (Int32.ofInt 108).toInt = 108 := (by decide); omega) | (have hz1 := zn_1 h4; have hi0 : y46_5.toInt = 0 := (by have h9 := p50; exact (have a0 := in_u ro_46_1; have a1 := in_u ((inv_F hIc46 448 28000 rfl v46_30_0)); have a2 := in_u ((inv_F hIc46 0 32 rfl v46_2_1)); have a3 := in_u ((inv_F hIc46 0 4000 rfl v46_2_0)); have a4 := in_u ((inv_F hIc46 0 1000 rfl v46_46_2)); have a5 := in_u i63; have a6 := in_u j46_4; have a7 := in_u j46_3; have a8 := in_u j46_2; have a9 := in_u ((in_c 2 rfl)); have a10 := in_u i119; have a11 := t_add e119 i63 (in_c 1 rfl) rfl; have a12 := in_u ((in_c 1 rfl)); have a13 := in_u i98; have a14 := in_u i70b; have a15 := in_u i70a; have oc := oc_136_1_46; by omega)); rw [sI_q, show y46_5.toNatClampNeg = 0 from (by show y46_5.toInt.toNat = 0; omega), ug_at, e115]; exact p70a (by rw [← e93]; exact c98.trans (by decide)))
              have n46d : Fr ([31], [], [(46, 2), (46, 3), (46, 4), (46, 5), (46, 6), (46, 7)], []) s (sI s70 31 y46_5.toNatClampNeg z115) := by exact fr_sI rfl (fr_tr rfl g46_2 hF70)
              have n46e : SHQ (y46_3).toInt (y46_4).toInt := by exact g46_3
              have n46f : (s.2.2.1 46 3).toInt = 1 ∧ (s.2.2.1 46 5).toInt = (y46_3).toInt ∧ (y46_2) = s.2.2.1 46 4 := by exact g46_4
              have n46g : (z119).toInt ≤ (cmA (y46_3).toInt : Int) := by have h9 := shq_n g46_3; have h8 := p50; rw [h9] at h8; exact (have a0 := in_u ro_46_1; have a1 := in_u ((inv_F hIc46 448 28000 rfl v46_30_0)); have a2 := in_u ((inv_F hIc46 0 32 rfl v46_2_1)); have a3 := in_u ((inv_F hIc46 0 4000 rfl v46_2_0)); have a4 := in_u ((inv_F hIc46 0 1000 rfl v46_46_2)); have a5 := in_u i63; have a6 := in_u j46_4; have a7 := in_u j46_3; have a8 := in_u j46_2; have a9 := in_u ((in_c 2 rfl)); have a10 := in_u i119; have a11 := t_add e119 i63 (in_c 1 rfl) rfl; have a12 := in_u ((in_c 1 rfl)); have a13 := in_u i98; have a14 := in_u i70b; have a15 := in_u i70a; have oc := oc_136_1_46; by omega)
              have n46h : ∀ a : Nat, TKN (s.1 47) (s.2.2.1 46 1).toInt.toNat a (s.2.2.1 46 4).toInt.toNat (s.2.2.1 46 2).toInt.toNat (s.2.2.1 46 3).toInt (s.2.2.1 46 5).toInt → (∀ j, j < (z119).toInt.toNat → ∃ q f, TSQ (s.1 47) (s.2.2.1 46 1).toInt.toNat a (j + 1) q f (cmK (y46_3).toInt (j + 1)) ((sI s70 31 y46_5.toNatClampNeg z115).1 31 j).toInt) ∧ ∃ p k v, TSQ (s.1 47) (s.2.2.1 46 1).toInt.toNat a (z119).toInt.toNat p (z70a).toInt.toNat k v := by intro a ha; obtain ⟨h1, p1, k1, v1, h2⟩ := g46_6 a ha; have hk9 := p70b; rw [show sc46.1 47 = s.1 47 from g46_2.1 47 rfl, show sc46.2.2.1 46 1 = s.2.2.1 46 1 from g46_2.2.2.1 46 1 rfl, ← v46_46_2] at hk9; have hq9 := shq_k g46_3 (j := y46_5.toNatClampNeg) (by have h9 := shq_n g46_3; have h8 := p50; rw [h9] at h8; show y46_5.toInt.toNat < _; exact (have a0 := in_u ro_46_1; have a1 := in_u ((inv_F hIc46 448 28000 rfl v46_30_0)); have a2 := in_u ((inv_F hIc46 0 32 rfl v46_2_1)); have a3 := in_u ((inv_F hIc46 0 4000 rfl v46_2_0)); have a4 := in_u ((inv_F hIc46 0 1000 rfl v46_46_2)); have a5 := in_u i63; have a6 := in_u j46_4; have a7 := in_u j46_3; have a8 := in_u j46_2; have a9 := in_u ((in_c 2 rfl)); have a10 := in_u i119; have a11 := t_add e119 i63 (in_c 1 rfl) rfl; have a12 := in_u ((in_c 1 rfl)); have a13 := in_u i98; have a14 := in_u i70b; have a15 := in_u i70a; have oc := oc_136_1_46; by omega)); rw [← p77a] at hq9; have hn9 : TSQ (s.1 47) (s.2.2.1 46 1).toInt.toNat a (y46_5.toInt.toNat + 1) (s70.2.2.1 46 4).toInt.toNat (s70.2.2.1 46 2).toInt.toNat (s70.2.2.1 46 3).toInt (s70.2.2.1 46 5).toInt := ⟨p1, w46_46_2.toInt.toNat, k1, v1, h2, hk9⟩; rw [show z119.toInt.toNat = y46_5.toInt.toNat + 1 from (by exact (have a0 := in_u ro_46_1; have a1 := in_u ((inv_F hIc46 448 28000 rfl v46_30_0)); have a2 := in_u ((inv_F hIc46 0 32 rfl v46_2_1)); have a3 := in_u ((inv_F hIc46 0 4000 rfl v46_2_0)); have a4 := in_u ((inv_F hIc46 0 1000 rfl v46_46_2)); have a5 := in_u i63; have a6 := in_u j46_4; have a7 := in_u j46_3; have a8 := in_u j46_2; have a9 := in_u ((in_c 2 rfl)); have a10 := in_u i119; have a11 := t_add e119 i63 (in_c 1 rfl) rfl; have a12 := in_u ((in_c 1 rfl)); have a13 := in_u i98; have a14 := in_u i70b; have a15 := in_u i70a; have oc := oc_136_1_46; by omega))]; refine ⟨fun j hj => ?_, _, _, _, by rw [← (show z70a = (sI s70 31 y46_5.toNatClampNeg z115).2.2.1 46 2 from sI_F (e70)), ← e70] at *; exact hn9⟩; rw [sI_q]; by_cases hc : j = y46_5.toNatClampNeg; (rw [hc, ug_at, show y46_5.toNatClampNeg = y46_5.toInt.toNat from rfl, show cmK y46_3.toInt (y46_5.toInt.toNat + 1) = (s70.2.2.1 46 3).toInt from (by rw [← e93]; first | (rw [show cmK y46_3.toInt (y46_5.toInt.toNat + 1) = 1 from hq9.1 (by exact (have a0 := in_u ro_46_1; have a1 := in_u ((inv_F hIc46 448 28000 rfl v46_30_0)); have a2 := in_u ((inv_F hIc46 0 32 rfl v46_2_1)); have a3 := in_u ((inv_F hIc46 0 4000 rfl v46_2_0)); have a4 := in_u ((inv_F hIc46 0 1000 rfl v46_46_2)); have a5 := in_u i63; have a6 := in_u j46_4; have a7 := in_u j46_3; have a8 := in_u j46_2; have a9 := in_u ((in_c 2 rfl)); have a10 := in_u i119; have a11 := t_add e119 i63 (in_c 1 rfl) rfl; have a12 := in_u ((in_c 1 rfl)); have a13 := in_u i98; have a14 := in_u i70b; have a15 := in_u i70a; have oc := oc_136_1_46; by omega))]; exact (have a0 := in_u ro_46_1; have a1 := in_u ((inv_F hIc46 448 28000 rfl v46_30_0)); have a2 := in_u ((inv_F hIc46 0 32 rfl v46_2_1)); have a3 := in_u ((inv_F hIc46 0 4000 rfl v46_2_0)); have a4 := in_u ((inv_F hIc46 0 1000 rfl v46_46_2)); have a5 := in_u i63; have a6 := in_u j46_4; have a7 := in_u j46_3; have a8 := in_u j46_2; have a9 := in_u ((in_c 2 rfl)); have a10 := in_u i119; have a11 := t_add e119 i63 (in_c 1 rfl) rfl; have a12 := in_u ((in_c 1 rfl)); have a13 := in_u i98; have a14 := in_u i70b; have a15 := in_u i70a; have oc := oc_136_1_46; by omega)) | (rw [show cmK y46_3.toInt (y46_5.toInt.toNat + 1) = 2 from hq9.2 (by exact (have a0 := in_u ro_46_1; have a1 := in_u ((inv_F hIc46 448 28000 rfl v46_30_0)); have a2 := in_u ((inv_F hIc46 0 32 rfl v46_2_1)); have a3 := in_u ((inv_F hIc46 0 4000 rfl v46_2_0)); have a4 := in_u ((inv_F hIc46 0 1000 rfl v46_46_2)); have a5 := in_u i63; have a6 := in_u j46_4; have a7 := in_u j46_3; have a8 := in_u j46_2; have a9 := in_u ((in_c 2 rfl)); have a10 := in_u i119; have a11 := t_add e119 i63 (in_c 1 rfl) rfl; have a12 := in_u ((in_c 1 rfl)); have a13 := in_u i98; have a14 := in_u i70b; have a15 := in_u i70a; have oc := oc_136_1_46; by omega))]; exact (have a0 := in_u ro_46_1; have a1 := in_u ((inv_F hIc46 448 28000 rfl v46_30_0)); have a2 := in_u ((inv_F hIc46 0 32 rfl v46_2_1)); have a3 := in_u ((inv_F hIc46 0 4000 rfl v46_2_0)); have a4 := in_u ((inv_F hIc46 0 1000 rfl v46_46_2)); have a5 := in_u i63; have a6 := in_u j46_4; have a7 := in_u j46_3; have a8 := in_u j46_2; have a9 := in_u ((in_c 2 rfl)); have a10 := in_u i119; have a11 := t_add e119 i63 (in_c 1 rfl) rfl; have a12 := in_u ((in_c 1 rfl)); have a13 := in_u i98; have a14 := in_u i70b; have a15 := in_u i70a; have oc := oc_136_1_46; by omega))), e115]; exact ⟨_, _, hn9⟩); (rw [ug_ne hc, hF70.1 31 rfl]; exact h1 j (by have h9 : y46_5.toNatClampNeg = y46_5.toInt.toNat := rfl; omega))
              have n46i : (sI s70 31 y46_5.toNatClampNeg z115).2.2.1 46 6 = s.2.2.1 46 6 ∧ (sI s70 31 y46_5.toNatClampNeg z115).2.2.1 46 7 = s.2.2.1 46 7 := by exact ⟨(hF70.2.2.1 46 6 rfl).trans g46_7.1, (hF70.2.2.1 46 7 rfl).trans g46_7.2⟩
              exact gg_w (by first | exact Nat.le_add_right _ _ | exact gw2 | exact gw3 | exact gwe rfl | exact gwf rfl | exact gwg rfl | exact gwh rfl | omega) (gg_f (gf_cons rfl (gf_cons rfl (gf_cons rfl (gf_cons rfl (gf_cons rfl (gf_cons rfl gf_nil)))))) (ih46 (sI s70 31 y46_5.toNatClampNeg z115) y46_2 y46_3 y46_4 z119 z70a w46_2_0 w46_2_1 w46_30_0 hI118 (fr_sI rfl (fr_tr rfl hFc46 hF70)) (in_w 0 1000 j46_2 rfl) (in_w (-1) 25 j46_3 rfl) (in_w 1 5 j46_4 rfl) (in_w 0 5 i119 rfl) v46 v46a v46b v46c n46 n46a n46b n46c n46d n46e n46f n46g n46h n46i (m_up mm46 (t_add e119 i63 (in_c 1 rfl) rfl) (in_w 1 1 (in_c 1 rfl) rfl))))
            · skip
              refine g_aload_n 102 (gd rfl) rfl rfl ?_
              refine g_iconst 2 103 (gd rfl) rfl rfl ?_
              refine g_iconst 3 104 (gd rfl) rfl rfl ?_
              refine g_callv (X := _) (As := [.int (Int32.ofInt 2), .int (Int32.ofInt 3)]) (r := []) (b := A 46) (q := 46) 107 (gd rfl) rfl rfl rfl rfl rfl (ww_o rfl) (Nat.le_of_ble_eq_true rfl) (Nat.zero_le _) (Nat.zero_le _) (f_169_46 (by first | exact dq1 hd rfl | exact dq0 hd rfl | exact dq2 hd rfl | exact dq3 hd rfl | omega) hI70 (in_w 2 2 (in_c 2 rfl) rfl) (in_w 3 3 (in_c 3 rfl) rfl) e93 e70a) (fun e u h => h) (fun v u h => ?_)
              obtain ⟨s104, hI104, hF104, z104, rfl, rfl, i104, p104⟩ := h
              show GG _ _ _ _ _ _ _ _ [.int z104] _ _ _
              have n107 : KL s104 := by have hL9 : Fr ([31], [], [(46, 2), (46, 3), (46, 4), (46, 5), (46, 6), (46, 7)], []) s s104 := (fr_tr rfl (fr_tr rfl g46_2 hF70) hF104); exact kl_fr q_0 hL9 rfl
              have n107a : (z104).toInt ≠ 0 → (s104.2.2.1 30 0).toInt = nln s := by first | (intro h; exact absurd rfl h) | (intro h; exfalso; revert h; first | (unfold In at i39; omega) | (unfold In at i104; omega) | (unfold In at i144; omega))
              have n107b : (z104).toInt ≠ 0 → (s.2.2.1 2 0).toInt ≤ 3999 := by first | (intro h; exact absurd rfl h) | (intro h; exfalso; revert h; first | (unfold In at i39; omega) | (unfold In at i104; omega) | (unfold In at i144; omega))
              have n107c : ∀ k : Nat, (k : Int) < 7 * (s.2.2.1 2 0).toInt → s104.1 30 k = s.1 30 k := by have hL9 : Fr ([31], [], [(46, 2), (46, 3), (46, 4), (46, 5), (46, 6), (46, 7)], []) s s104 := (fr_tr rfl (fr_tr rfl g46_2 hF70) hF104); exact fun k _ => by rw [hL9.1 30 rfl]
              have n107d : (z104).toInt ≠ 0 → ∀ a : Nat, TKN (s.1 47) (s.2.2.1 46 1).toInt.toNat a (s.2.2.1 46 4).toInt.toNat (s.2.2.1 46 2).toInt.toNat (s.2.2.1 46 3).toInt (s.2.2.1 46 5).toInt → ∃ c V, CMP (s.1 47) (s.2.2.1 46 1).toInt.toNat a (s.2.2.1 46 4).toInt.toNat c V (s104.2.2.1 46 2).toInt.toNat ∧ dkC (gvC s) c V ∧ gvC s104 = opC (gvC s) c V := by first | (intro h; exact absurd rfl h) | (intro h; exfalso; revert h; first | (unfold In at i39; omega) | (unfold In at i104; omega) | (unfold In at i144; omega))
              have n107e : (z104).toInt = 0 → ∀ a : Nat, TKN (s.1 47) (s.2.2.1 46 1).toInt.toNat a (s.2.2.1 46 4).toInt.toNat (s.2.2.1 46 2).toInt.toNat (s.2.2.1 46 3).toInt (s.2.2.1 46 5).toInt → CMX (s.1 47) (s.2.2.1 46 1).toInt.toNat a (s104.2.2.1 46 6).toInt (s104.2.2.1 46 7).toInt.toNat ∨ ∃ c V e, CMP (s.1 47) (s.2.2.1 46 1).toInt.toNat a (s104.2.2.1 46 7).toInt.toNat c V e ∧ ¬ dkC (gvC s) c V ∧ (s104.2.2.1 46 6).toInt = 4 := by intro _ a ha; obtain ⟨h1, p1, k1, v1, h2⟩ := g46_6 a ha; have hk9 := p70b; rw [show sc46.1 47 = s.1 47 from g46_2.1 47 rfl, show sc46.2.2.1 46 1 = s.2.2.1 46 1 from g46_2.2.2.1 46 1 rfl, ← v46_46_2] at hk9; have hq9 := shq_k g46_3 (j := y46_5.toNatClampNeg) (by have h9 := shq_n g46_3; have h8 := p50; rw [h9] at h8; show y46_5.toInt.toNat < _; exact (have a0 := in_u ro_46_1; have a1 := in_u ((inv_F hIc46 448 28000 rfl v46_30_0)); have a2 := in_u ((inv_F hIc46 0 32 rfl v46_2_1)); have a3 := in_u ((inv_F hIc46 0 4000 rfl v46_2_0)); have a4 := in_u ((inv_F hIc46 0 1000 rfl v46_46_2)); have a5 := in_u i63; have a6 := in_u j46_4; have a7 := in_u j46_3; have a8 := in_u j46_2; have a9 := in_u ((in_c 2 rfl)); have a10 := in_u i93; have a11 := in_u i70b; have a12 := in_u i70a; have oc := oc_136_1_46; by omega)); rw [← p77a] at hq9; refine Or.inl (Or.inr ⟨_, _, _, shq_i g46_3, by have h9 := ha; rw [g46_4.1, g46_4.2.1] at h9; exact h9, y46_5.toInt.toNat, by have h9 := g46_5; omega, fun j hj => by obtain ⟨q, f, h9⟩ := h1 j hj; exact ⟨q, f, _, h9⟩, (s70.2.2.1 46 2).toInt.toNat, (s70.2.2.1 46 3).toInt, (s70.2.2.1 46 5).toInt, ?_, ?_, p104.1⟩); (rw [p104.2]; exact ⟨p1, w46_46_2.toInt.toNat, k1, v1, h2, hk9⟩); (rw [← e93]; first | (rw [show cmK y46_3.toInt (y46_5.toInt.toNat + 1) = 1 from hq9.1 (by exact (have a0 := in_u ro_46_1; have a1 := in_u ((inv_F hIc46 448 28000 rfl v46_30_0)); have a2 := in_u ((inv_F hIc46 0 32 rfl v46_2_1)); have a3 := in_u ((inv_F hIc46 0 4000 rfl v46_2_0)); have a4 := in_u ((inv_F hIc46 0 1000 rfl v46_46_2)); have a5 := in_u i63; have a6 := in_u j46_4; have a7 := in_u j46_3; have a8 := in_u j46_2; have a9 := in_u ((in_c 2 rfl)); have a10 := in_u i93; have a11 := in_u i70b; have a12 := in_u i70a; have oc := oc_136_1_46; by omega))]; exact (have a0 := in_u ro_46_1; have a1 := in_u ((inv_F hIc46 448 28000 rfl v46_30_0)); have a2 := in_u ((inv_F hIc46 0 32 rfl v46_2_1)); have a3 := in_u ((inv_F hIc46 0 4000 rfl v46_2_0)); have a4 := in_u ((inv_F hIc46 0 1000 rfl v46_46_2)); have a5 := in_u i63; have a6 := in_u j46_4; have a7 := in_u j46_3; have a8 := in_u j46_2; have a9 := in_u ((in_c 2 rfl)); have a10 := in_u i93; have a11 := in_u i70b; have a12 := in_u i70a; have oc := oc_136_1_46; by omega)) | (rw [show cmK y46_3.toInt (y46_5.toInt.toNat + 1) = 2 from hq9.2 (by exact (have a0 := in_u ro_46_1; have a1 := in_u ((inv_F hIc46 448 28000 rfl v46_30_0)); have a2 := in_u ((inv_F hIc46 0 32 rfl v46_2_1)); have a3 := in_u ((inv_F hIc46 0 4000 rfl v46_2_0)); have a4 := in_u ((inv_F hIc46 0 1000 rfl v46_46_2)); have a5 := in_u i63; have a6 := in_u j46_4; have a7 := in_u j46_3; have a8 := in_u j46_2; have a9 := in_u ((in_c 2 rfl)); have a10 := in_u i93; have a11 := in_u i70b; have a12 := in_u i70a; have oc := oc_136_1_46; by omega))]; exact (have a0 := in_u ro_46_1; have a1 := in_u ((inv_F hIc46 448 28000 rfl v46_30_0)); have a2 := in_u ((inv_F hIc46 0 32 rfl v46_2_1)); have a3 := in_u ((inv_F hIc46 0 4000 rfl v46_2_0)); have a4 := in_u ((inv_F hIc46 0 1000 rfl v46_46_2)); have a5 := in_u i63; have a6 := in_u j46_4; have a7 := in_u j46_3; have a8 := in_u j46_2; have a9 := in_u ((in_c 2 rfl)); have a10 := in_u i93; have a11 := in_u i70b; have a12 := in_u i70a; have oc := oc_136_1_46; by omega)))
              have n107f : (z104).toInt ≠ 0 → TQ s104 := by first | (intro h; exact absurd rfl h) | (intro h; exfalso; revert h; first | (unfold In at i39; omega) | (unfold In at i104; omega) | (unfold In at i144; omega))
              have n107g : (z104).toInt ≠ 0 → s104.2.2.1 46 6 = s.2.2.1 46 6 ∧ s104.2.2.1 46 7 = s.2.2.1 46 7 := by first | (intro h; exact absurd rfl h) | (intro h; exfalso; revert h; first | (unfold In at i39; omega) | (unfold In at i104; omega) | (unfold In at i144; omega))
              have n107h : (z104).toInt = 0 → 0 ≤ (s104.2.2.1 46 7).toInt := by intro _; rw [p104.2, ← e70a]; exact (have a0 := in_u ro_46_1; have a1 := in_u ((inv_F hIc46 448 28000 rfl v46_30_0)); have a2 := in_u ((inv_F hIc46 0 32 rfl v46_2_1)); have a3 := in_u ((inv_F hIc46 0 4000 rfl v46_2_0)); have a4 := in_u ((inv_F hIc46 0 1000 rfl v46_46_2)); have a5 := in_u i63; have a6 := in_u j46_4; have a7 := in_u j46_3; have a8 := in_u j46_2; have a9 := in_u ((in_c 2 rfl)); have a10 := in_u i93; have a11 := in_u i70b; have a12 := in_u i70a; have oc := oc_136_1_46; by omega)
              have n107i : (z104).toInt ≠ 0 → LGC s s104 := by first | (intro h; exact absurd rfl h) | (intro h; exfalso; revert h; first | (unfold In at i39; omega) | (unfold In at i104; omega) | (unfold In at i144; omega))
              have n107j : (z70a).toInt ≤ (u_46_1).toInt := by exact (have a0 := in_u ro_46_1; have a1 := in_u ((inv_F hIc46 448 28000 rfl v46_30_0)); have a2 := in_u ((inv_F hIc46 0 32 rfl v46_2_1)); have a3 := in_u ((inv_F hIc46 0 4000 rfl v46_2_0)); have a4 := in_u ((inv_F hIc46 0 1000 rfl v46_46_2)); have a5 := in_u i63; have a6 := in_u j46_4; have a7 := in_u j46_3; have a8 := in_u j46_2; have a9 := in_u ((in_c 2 rfl)); have a10 := in_u i93; have a11 := in_u i70b; have a12 := in_u i70a; have oc := oc_136_1_46; by omega)
              have n107k : (s104.2.2.1 46 2).toInt ≤ (s104.2.2.1 46 1).toInt := by have b0 : z70a = s104.2.2.1 46 2 := fr_F (e70) hF104 rfl; have b1 : u_46_1 = s104.2.2.1 46 1 := fr_F (fr_F (fr_F e_46_1 hFc46 rfl) hF70 rfl) hF104 rfl; rw [← b0, ← b1]; exact n107j
              have n107l : (u_2_0).toInt ≤ (w46_2_0).toInt := by first | exact n46_1 | (exact (have a0 := in_u ro_46_1; have a1 := in_u ((inv_F hIc46 448 28000 rfl v46_30_0)); have a2 := in_u ((inv_F hIc46 0 32 rfl v46_2_1)); have a3 := in_u ((inv_F hIc46 0 4000 rfl v46_2_0)); have a4 := in_u ((inv_F hIc46 0 1000 rfl v46_46_2)); have a5 := in_u i63; have a6 := in_u j46_4; have a7 := in_u j46_3; have a8 := in_u j46_2; have a9 := in_u ((in_c 2 rfl)); have a10 := in_u i93; have a11 := in_u i70b; have a12 := in_u i70a; have oc := oc_136_1_46; by omega))
              have n107m : (s.2.2.1 2 0).toInt ≤ (s104.2.2.1 2 0).toInt := by have b0 : w46_2_0 = s104.2.2.1 2 0 := fr_F (fr_F (v46_2_0) hF70 rfl) hF104 rfl; first | (rw [← b0, ← e_2_0]; exact n107l) | (rw [← b0]; exact n107l)
              exact g_ireturn (gd rfl) rfl (nb01 (in_w 0 1 i104 rfl)) (hP _ _ ⟨(A 30), s104, hI104, (fr_tr rfl (fr_tr rfl hFc46 hF70) hF104), n107k, n107m, z104, rfl, (by rw [ax_id]), in_w 0 1 i104 rfl, n107, n107a, n107b, n107c, n107d, n107e, n107f, n107g, n107h, n107i⟩)
          · skip
            have i82 := r_eq1 108 108 c82 i77a (in_c 108 rfl) rfl
            refine g_iconst 1 86 (gd rfl) rfl rfl ?_
            refine g_goto 90 (gd rfl) rfl ?_
            refine g_istore 92 (gd rfl) rfl (Nat.le_of_ble_eq_true rfl) ?_
            refine g_aload_n 93 (gd rfl) rfl rfl ?_
            refine g_getI 96 (gd rfl) rfl rfl rfl (fun z93 e93 => ?_)
            have i93 := inv_F hI70 0 5 rfl e93
            refine g_iload 98 (gd rfl) rfl rfl ?_
            refine g_cmp_eq 101 108 (gd rfl) rfl rfl (fun c98 => ?_) (fun c98 => ?_)
            · skip
              have i98 := r_eq1 1 1 c98 i93 (in_c 1 rfl) rfl
              refine g_aload_n 109 (gd rfl) rfl rfl ?_
              refine g_getA (q2 := 31) 112 (gd rfl) rfl rfl rfl rfl ?_
              refine g_iload 114 (gd rfl) rfl rfl ?_
              refine g_aload_n 115 (gd rfl) rfl rfl ?_
              refine g_getI 118 (gd rfl) rfl rfl rfl (fun z115 e115 => ?_)
              refine g_iastore 119 (gd rfl) rfl (n := 5) rfl (in_ix i63 rfl) ?_
              have hI118 := inv_sI (q := 31) (j := y46_5.toNatClampNeg) hI70 rfl (in_w (-2147483648) 2147483647 (i_rng z115) rfl)
              refine g_iinc 122 (gd rfl) rfl rfl (Nat.le_of_ble_eq_true rfl) (fun z119 e119 => ?_)
              have i119 := in_add 1 5 e119 i63 (in_c 1 rfl) rfl rfl
              refine g_goto 46 (gd rfl) rfl ?_
              have v46 : z70a = (sI s70 31 y46_5.toNatClampNeg z115).2.2.1 46 2 := sI_F (e70)
              have v46a : w46_2_0 = (sI s70 31 y46_5.toNatClampNeg z115).2.2.1 2 0 := sI_F (fr_F (v46_2_0) hF70 rfl)
              have v46b : w46_2_1 = (sI s70 31 y46_5.toNatClampNeg z115).2.2.1 2 1 := sI_F (fr_F (v46_2_1) hF70 rfl)
              have v46c : w46_30_0 = (sI s70 31 y46_5.toNatClampNeg z115).2.2.1 30 0 := sI_F (fr_F (v46_30_0) hF70 rfl)
              have n46 : (z70a).toInt ≤ (u_46_1).toInt := by exact (have a0 := in_u ro_46_1; have a1 := in_u ((inv_F hIc46 448 28000 rfl v46_30_0)); have a2 := in_u ((inv_F hIc46 0 32 rfl v46_2_1)); have a3 := in_u ((inv_F hIc46 0 4000 rfl v46_2_0)); have a4 := in_u ((inv_F hIc46 0 1000 rfl v46_46_2)); have a5 := in_u i63; have a6 := in_u j46_4; have a7 := in_u j46_3; have a8 := in_u j46_2; have a9 := in_u ((in_c 1 rfl)); have a10 := in_u i119; have a11 := t_add e119 i63 (in_c 1 rfl) rfl; have a12 := in_u i98; have a13 := in_u i70b; have a14 := in_u i70a; have oc := oc_136_1_46; by omega)
              have n46a : (u_2_0).toInt ≤ (w46_2_0).toInt := by first | exact n46_1 | (exact (have a0 := in_u ro_46_1; have a1 := in_u ((inv_F hIc46 448 28000 rfl v46_30_0)); have a2 := in_u ((inv_F hIc46 0 32 rfl v46_2_1)); have a3 := in_u ((inv_F hIc46 0 4000 rfl v46_2_0)); have a4 := in_u ((inv_F hIc46 0 1000 rfl v46_46_2)); have a5 := in_u i63; have a6 := in_u j46_4; have a7 := in_u j46_3; have a8 := in_u j46_2; have a9 := in_u ((in_c 1 rfl)); have a10 := in_u i119; have a11 := t_add e119 i63 (in_c 1 rfl) rfl; have a12 := in_u i98; have a13 := in_u i70b; have a14 := in_u i70a; have oc := oc_136_1_46; by omega))
              have n46b : (y46_3).toInt = 13 → (y46_4).toInt = 1 := by exact g46_0
              have n46c : (y46_4).toInt = 1 → 1 ≤ (z119).toInt → In ((sI s70 31 y46_5.toNatClampNeg z115).1 31 0) 0 25 := by intro h4 _; first | (exfalso; have h9 := p77 h4; have c8 : (Int32.ofInt 108).toInt = 108 := (by decide); omega) | (have hz1 := zn_1 h4; have hi0 : y46_5.toInt = 0 := (by have h9 := p50; exact (have a0 := in_u ro_46_1; have a1 := in_u ((inv_F hIc46 448 28000 rfl v46_30_0)); have a2 := in_u ((inv_F hIc46 0 32 rfl v46_2_1)); have a3 := in_u ((inv_F hIc46 0 4000 rfl v46_2_0)); have a4 := in_u ((inv_F hIc46 0 1000 rfl v46_46_2)); have a5 := in_u i63; have a6 := in_u j46_4; have a7 := in_u j46_3; have a8 := in_u j46_2; have a9 := in_u ((in_c 1 rfl)); have a10 := in_u i119; have a11 := t_add e119 i63 (in_c 1 rfl) rfl; have a12 := in_u i98; have a13 := in_u i70b; have a14 := in_u i70a; have oc := oc_136_1_46; by omega)); rw [sI_q, show y46_5.toNatClampNeg = 0 from (by show y46_5.toInt.toNat = 0; omega), ug_at, e115]; exact p70a (by rw [← e93]; exact c98.trans (by decide)))
              have n46d : Fr ([31], [], [(46, 2), (46, 3), (46, 4), (46, 5), (46, 6), (46, 7)], []) s (sI s70 31 y46_5.toNatClampNeg z115) := by exact fr_sI rfl (fr_tr rfl g46_2 hF70)
              have n46e : SHQ (y46_3).toInt (y46_4).toInt := by exact g46_3
              have n46f : (s.2.2.1 46 3).toInt = 1 ∧ (s.2.2.1 46 5).toInt = (y46_3).toInt ∧ (y46_2) = s.2.2.1 46 4 := by exact g46_4
              have n46g : (z119).toInt ≤ (cmA (y46_3).toInt : Int) := by have h9 := shq_n g46_3; have h8 := p50; rw [h9] at h8; exact (have a0 := in_u ro_46_1; have a1 := in_u ((inv_F hIc46 448 28000 rfl v46_30_0)); have a2 := in_u ((inv_F hIc46 0 32 rfl v46_2_1)); have a3 := in_u ((inv_F hIc46 0 4000 rfl v46_2_0)); have a4 := in_u ((inv_F hIc46 0 1000 rfl v46_46_2)); have a5 := in_u i63; have a6 := in_u j46_4; have a7 := in_u j46_3; have a8 := in_u j46_2; have a9 := in_u ((in_c 1 rfl)); have a10 := in_u i119; have a11 := t_add e119 i63 (in_c 1 rfl) rfl; have a12 := in_u i98; have a13 := in_u i70b; have a14 := in_u i70a; have oc := oc_136_1_46; by omega)
              have n46h : ∀ a : Nat, TKN (s.1 47) (s.2.2.1 46 1).toInt.toNat a (s.2.2.1 46 4).toInt.toNat (s.2.2.1 46 2).toInt.toNat (s.2.2.1 46 3).toInt (s.2.2.1 46 5).toInt → (∀ j, j < (z119).toInt.toNat → ∃ q f, TSQ (s.1 47) (s.2.2.1 46 1).toInt.toNat a (j + 1) q f (cmK (y46_3).toInt (j + 1)) ((sI s70 31 y46_5.toNatClampNeg z115).1 31 j).toInt) ∧ ∃ p k v, TSQ (s.1 47) (s.2.2.1 46 1).toInt.toNat a (z119).toInt.toNat p (z70a).toInt.toNat k v := by intro a ha; obtain ⟨h1, p1, k1, v1, h2⟩ := g46_6 a ha; have hk9 := p70b; rw [show sc46.1 47 = s.1 47 from g46_2.1 47 rfl, show sc46.2.2.1 46 1 = s.2.2.1 46 1 from g46_2.2.2.1 46 1 rfl, ← v46_46_2] at hk9; have hq9 := shq_k g46_3 (j := y46_5.toNatClampNeg) (by have h9 := shq_n g46_3; have h8 := p50; rw [h9] at h8; show y46_5.toInt.toNat < _; exact (have a0 := in_u ro_46_1; have a1 := in_u ((inv_F hIc46 448 28000 rfl v46_30_0)); have a2 := in_u ((inv_F hIc46 0 32 rfl v46_2_1)); have a3 := in_u ((inv_F hIc46 0 4000 rfl v46_2_0)); have a4 := in_u ((inv_F hIc46 0 1000 rfl v46_46_2)); have a5 := in_u i63; have a6 := in_u j46_4; have a7 := in_u j46_3; have a8 := in_u j46_2; have a9 := in_u ((in_c 1 rfl)); have a10 := in_u i119; have a11 := t_add e119 i63 (in_c 1 rfl) rfl; have a12 := in_u i98; have a13 := in_u i70b; have a14 := in_u i70a; have oc := oc_136_1_46; by omega)); rw [← p77a] at hq9; have hn9 : TSQ (s.1 47) (s.2.2.1 46 1).toInt.toNat a (y46_5.toInt.toNat + 1) (s70.2.2.1 46 4).toInt.toNat (s70.2.2.1 46 2).toInt.toNat (s70.2.2.1 46 3).toInt (s70.2.2.1 46 5).toInt := ⟨p1, w46_46_2.toInt.toNat, k1, v1, h2, hk9⟩; rw [show z119.toInt.toNat = y46_5.toInt.toNat + 1 from (by exact (have a0 := in_u ro_46_1; have a1 := in_u ((inv_F hIc46 448 28000 rfl v46_30_0)); have a2 := in_u ((inv_F hIc46 0 32 rfl v46_2_1)); have a3 := in_u ((inv_F hIc46 0 4000 rfl v46_2_0)); have a4 := in_u ((inv_F hIc46 0 1000 rfl v46_46_2)); have a5 := in_u i63; have a6 := in_u j46_4; have a7 := in_u j46_3; have a8 := in_u j46_2; have a9 := in_u ((in_c 1 rfl)); have a10 := in_u i119; have a11 := t_add e119 i63 (in_c 1 rfl) rfl; have a12 := in_u i98; have a13 := in_u i70b; have a14 := in_u i70a; have oc := oc_136_1_46; by omega))]; refine ⟨fun j hj => ?_, _, _, _, by rw [← (show z70a = (sI s70 31 y46_5.toNatClampNeg z115).2.2.1 46 2 from sI_F (e70)), ← e70] at *; exact hn9⟩; rw [sI_q]; by_cases hc : j = y46_5.toNatClampNeg; (rw [hc, ug_at, show y46_5.toNatClampNeg = y46_5.toInt.toNat from rfl, show cmK y46_3.toInt (y46_5.toInt.toNat + 1) = (s70.2.2.1 46 3).toInt from (by rw [← e93]; first | (rw [show cmK y46_3.toInt (y46_5.toInt.toNat + 1) = 1 from hq9.1 (by exact (have a0 := in_u ro_46_1; have a1 := in_u ((inv_F hIc46 448 28000 rfl v46_30_0)); have a2 := in_u ((inv_F hIc46 0 32 rfl v46_2_1)); have a3 := in_u ((inv_F hIc46 0 4000 rfl v46_2_0)); have a4 := in_u ((inv_F hIc46 0 1000 rfl v46_46_2)); have a5 := in_u i63; have a6 := in_u j46_4; have a7 := in_u j46_3; have a8 := in_u j46_2; have a9 := in_u ((in_c 1 rfl)); have a10 := in_u i119; have a11 := t_add e119 i63 (in_c 1 rfl) rfl; have a12 := in_u i98; have a13 := in_u i70b; have a14 := in_u i70a; have oc := oc_136_1_46; by omega))]; exact (have a0 := in_u ro_46_1; have a1 := in_u ((inv_F hIc46 448 28000 rfl v46_30_0)); have a2 := in_u ((inv_F hIc46 0 32 rfl v46_2_1)); have a3 := in_u ((inv_F hIc46 0 4000 rfl v46_2_0)); have a4 := in_u ((inv_F hIc46 0 1000 rfl v46_46_2)); have a5 := in_u i63; have a6 := in_u j46_4; have a7 := in_u j46_3; have a8 := in_u j46_2; have a9 := in_u ((in_c 1 rfl)); have a10 := in_u i119; have a11 := t_add e119 i63 (in_c 1 rfl) rfl; have a12 := in_u i98; have a13 := in_u i70b; have a14 := in_u i70a; have oc := oc_136_1_46; by omega)) | (rw [show cmK y46_3.toInt (y46_5.toInt.toNat + 1) = 2 from hq9.2 (by exact (have a0 := in_u ro_46_1; have a1 := in_u ((inv_F hIc46 448 28000 rfl v46_30_0)); have a2 := in_u ((inv_F hIc46 0 32 rfl v46_2_1)); have a3 := in_u ((inv_F hIc46 0 4000 rfl v46_2_0)); have a4 := in_u ((inv_F hIc46 0 1000 rfl v46_46_2)); have a5 := in_u i63; have a6 := in_u j46_4; have a7 := in_u j46_3; have a8 := in_u j46_2; have a9 := in_u ((in_c 1 rfl)); have a10 := in_u i119; have a11 := t_add e119 i63 (in_c 1 rfl) rfl; have a12 := in_u i98; have a13 := in_u i70b; have a14 := in_u i70a; have oc := oc_136_1_46; by omega))]; exact (have a0 := in_u ro_46_1; have a1 := in_u ((inv_F hIc46 448 28000 rfl v46_30_0)); have a2 := in_u ((inv_F hIc46 0 32 rfl v46_2_1)); have a3 := in_u ((inv_F hIc46 0 4000 rfl v46_2_0)); have a4 := in_u ((inv_F hIc46 0 1000 rfl v46_46_2)); have a5 := in_u i63; have a6 := in_u j46_4; have a7 := in_u j46_3; have a8 := in_u j46_2; have a9 := in_u ((in_c 1 rfl)); have a10 := in_u i119; have a11 := t_add e119 i63 (in_c 1 rfl) rfl; have a12 := in_u i98; have a13 := in_u i70b; have a14 := in_u i70a; have oc := oc_136_1_46; by omega))), e115]; exact ⟨_, _, hn9⟩); (rw [ug_ne hc, hF70.1 31 rfl]; exact h1 j (by have h9 : y46_5.toNatClampNeg = y46_5.toInt.toNat := rfl; omega))
              have n46i : (sI s70 31 y46_5.toNatClampNeg z115).2.2.1 46 6 = s.2.2.1 46 6 ∧ (sI s70 31 y46_5.toNatClampNeg z115).2.2.1 46 7 = s.2.2.1 46 7 := by exact ⟨(hF70.2.2.1 46 6 rfl).trans g46_7.1, (hF70.2.2.1 46 7 rfl).trans g46_7.2⟩
              exact gg_w (by first | exact Nat.le_add_right _ _ | exact gw2 | exact gw3 | exact gwe rfl | exact gwf rfl | exact gwg rfl | exact gwh rfl | omega) (gg_f (gf_cons rfl (gf_cons rfl (gf_cons rfl (gf_cons rfl (gf_cons rfl (gf_cons rfl gf_nil)))))) (ih46 (sI s70 31 y46_5.toNatClampNeg z115) y46_2 y46_3 y46_4 z119 z70a w46_2_0 w46_2_1 w46_30_0 hI118 (fr_sI rfl (fr_tr rfl hFc46 hF70)) (in_w 0 1000 j46_2 rfl) (in_w (-1) 25 j46_3 rfl) (in_w 1 5 j46_4 rfl) (in_w 0 5 i119 rfl) v46 v46a v46b v46c n46 n46a n46b n46c n46d n46e n46f n46g n46h n46i (m_up mm46 (t_add e119 i63 (in_c 1 rfl) rfl) (in_w 1 1 (in_c 1 rfl) rfl))))
            · skip
              refine g_aload_n 102 (gd rfl) rfl rfl ?_
              refine g_iconst 2 103 (gd rfl) rfl rfl ?_
              refine g_iconst 3 104 (gd rfl) rfl rfl ?_
              refine g_callv (X := _) (As := [.int (Int32.ofInt 2), .int (Int32.ofInt 3)]) (r := []) (b := A 46) (q := 46) 107 (gd rfl) rfl rfl rfl rfl rfl (ww_o rfl) (Nat.le_of_ble_eq_true rfl) (Nat.zero_le _) (Nat.zero_le _) (f_169_46 (by first | exact dq1 hd rfl | exact dq0 hd rfl | exact dq2 hd rfl | exact dq3 hd rfl | omega) hI70 (in_w 2 2 (in_c 2 rfl) rfl) (in_w 3 3 (in_c 3 rfl) rfl) e93 e70a) (fun e u h => h) (fun v u h => ?_)
              obtain ⟨s104, hI104, hF104, z104, rfl, rfl, i104, p104⟩ := h
              show GG _ _ _ _ _ _ _ _ [.int z104] _ _ _
              have n107 : KL s104 := by have hL9 : Fr ([31], [], [(46, 2), (46, 3), (46, 4), (46, 5), (46, 6), (46, 7)], []) s s104 := (fr_tr rfl (fr_tr rfl g46_2 hF70) hF104); exact kl_fr q_0 hL9 rfl
              have n107a : (z104).toInt ≠ 0 → (s104.2.2.1 30 0).toInt = nln s := by first | (intro h; exact absurd rfl h) | (intro h; exfalso; revert h; first | (unfold In at i39; omega) | (unfold In at i104; omega) | (unfold In at i144; omega))
              have n107b : (z104).toInt ≠ 0 → (s.2.2.1 2 0).toInt ≤ 3999 := by first | (intro h; exact absurd rfl h) | (intro h; exfalso; revert h; first | (unfold In at i39; omega) | (unfold In at i104; omega) | (unfold In at i144; omega))
              have n107c : ∀ k : Nat, (k : Int) < 7 * (s.2.2.1 2 0).toInt → s104.1 30 k = s.1 30 k := by have hL9 : Fr ([31], [], [(46, 2), (46, 3), (46, 4), (46, 5), (46, 6), (46, 7)], []) s s104 := (fr_tr rfl (fr_tr rfl g46_2 hF70) hF104); exact fun k _ => by rw [hL9.1 30 rfl]
              have n107d : (z104).toInt ≠ 0 → ∀ a : Nat, TKN (s.1 47) (s.2.2.1 46 1).toInt.toNat a (s.2.2.1 46 4).toInt.toNat (s.2.2.1 46 2).toInt.toNat (s.2.2.1 46 3).toInt (s.2.2.1 46 5).toInt → ∃ c V, CMP (s.1 47) (s.2.2.1 46 1).toInt.toNat a (s.2.2.1 46 4).toInt.toNat c V (s104.2.2.1 46 2).toInt.toNat ∧ dkC (gvC s) c V ∧ gvC s104 = opC (gvC s) c V := by first | (intro h; exact absurd rfl h) | (intro h; exfalso; revert h; first | (unfold In at i39; omega) | (unfold In at i104; omega) | (unfold In at i144; omega))
              have n107e : (z104).toInt = 0 → ∀ a : Nat, TKN (s.1 47) (s.2.2.1 46 1).toInt.toNat a (s.2.2.1 46 4).toInt.toNat (s.2.2.1 46 2).toInt.toNat (s.2.2.1 46 3).toInt (s.2.2.1 46 5).toInt → CMX (s.1 47) (s.2.2.1 46 1).toInt.toNat a (s104.2.2.1 46 6).toInt (s104.2.2.1 46 7).toInt.toNat ∨ ∃ c V e, CMP (s.1 47) (s.2.2.1 46 1).toInt.toNat a (s104.2.2.1 46 7).toInt.toNat c V e ∧ ¬ dkC (gvC s) c V ∧ (s104.2.2.1 46 6).toInt = 4 := by intro _ a ha; obtain ⟨h1, p1, k1, v1, h2⟩ := g46_6 a ha; have hk9 := p70b; rw [show sc46.1 47 = s.1 47 from g46_2.1 47 rfl, show sc46.2.2.1 46 1 = s.2.2.1 46 1 from g46_2.2.2.1 46 1 rfl, ← v46_46_2] at hk9; have hq9 := shq_k g46_3 (j := y46_5.toNatClampNeg) (by have h9 := shq_n g46_3; have h8 := p50; rw [h9] at h8; show y46_5.toInt.toNat < _; exact (have a0 := in_u ro_46_1; have a1 := in_u ((inv_F hIc46 448 28000 rfl v46_30_0)); have a2 := in_u ((inv_F hIc46 0 32 rfl v46_2_1)); have a3 := in_u ((inv_F hIc46 0 4000 rfl v46_2_0)); have a4 := in_u ((inv_F hIc46 0 1000 rfl v46_46_2)); have a5 := in_u i63; have a6 := in_u j46_4; have a7 := in_u j46_3; have a8 := in_u j46_2; have a9 := in_u ((in_c 1 rfl)); have a10 := in_u i93; have a11 := in_u i70b; have a12 := in_u i70a; have oc := oc_136_1_46; by omega)); rw [← p77a] at hq9; refine Or.inl (Or.inr ⟨_, _, _, shq_i g46_3, by have h9 := ha; rw [g46_4.1, g46_4.2.1] at h9; exact h9, y46_5.toInt.toNat, by have h9 := g46_5; omega, fun j hj => by obtain ⟨q, f, h9⟩ := h1 j hj; exact ⟨q, f, _, h9⟩, (s70.2.2.1 46 2).toInt.toNat, (s70.2.2.1 46 3).toInt, (s70.2.2.1 46 5).toInt, ?_, ?_, p104.1⟩); (rw [p104.2]; exact ⟨p1, w46_46_2.toInt.toNat, k1, v1, h2, hk9⟩); (rw [← e93]; first | (rw [show cmK y46_3.toInt (y46_5.toInt.toNat + 1) = 1 from hq9.1 (by exact (have a0 := in_u ro_46_1; have a1 := in_u ((inv_F hIc46 448 28000 rfl v46_30_0)); have a2 := in_u ((inv_F hIc46 0 32 rfl v46_2_1)); have a3 := in_u ((inv_F hIc46 0 4000 rfl v46_2_0)); have a4 := in_u ((inv_F hIc46 0 1000 rfl v46_46_2)); have a5 := in_u i63; have a6 := in_u j46_4; have a7 := in_u j46_3; have a8 := in_u j46_2; have a9 := in_u ((in_c 1 rfl)); have a10 := in_u i93; have a11 := in_u i70b; have a12 := in_u i70a; have oc := oc_136_1_46; by omega))]; exact (have a0 := in_u ro_46_1; have a1 := in_u ((inv_F hIc46 448 28000 rfl v46_30_0)); have a2 := in_u ((inv_F hIc46 0 32 rfl v46_2_1)); have a3 := in_u ((inv_F hIc46 0 4000 rfl v46_2_0)); have a4 := in_u ((inv_F hIc46 0 1000 rfl v46_46_2)); have a5 := in_u i63; have a6 := in_u j46_4; have a7 := in_u j46_3; have a8 := in_u j46_2; have a9 := in_u ((in_c 1 rfl)); have a10 := in_u i93; have a11 := in_u i70b; have a12 := in_u i70a; have oc := oc_136_1_46; by omega)) | (rw [show cmK y46_3.toInt (y46_5.toInt.toNat + 1) = 2 from hq9.2 (by exact (have a0 := in_u ro_46_1; have a1 := in_u ((inv_F hIc46 448 28000 rfl v46_30_0)); have a2 := in_u ((inv_F hIc46 0 32 rfl v46_2_1)); have a3 := in_u ((inv_F hIc46 0 4000 rfl v46_2_0)); have a4 := in_u ((inv_F hIc46 0 1000 rfl v46_46_2)); have a5 := in_u i63; have a6 := in_u j46_4; have a7 := in_u j46_3; have a8 := in_u j46_2; have a9 := in_u ((in_c 1 rfl)); have a10 := in_u i93; have a11 := in_u i70b; have a12 := in_u i70a; have oc := oc_136_1_46; by omega))]; exact (have a0 := in_u ro_46_1; have a1 := in_u ((inv_F hIc46 448 28000 rfl v46_30_0)); have a2 := in_u ((inv_F hIc46 0 32 rfl v46_2_1)); have a3 := in_u ((inv_F hIc46 0 4000 rfl v46_2_0)); have a4 := in_u ((inv_F hIc46 0 1000 rfl v46_46_2)); have a5 := in_u i63; have a6 := in_u j46_4; have a7 := in_u j46_3; have a8 := in_u j46_2; have a9 := in_u ((in_c 1 rfl)); have a10 := in_u i93; have a11 := in_u i70b; have a12 := in_u i70a; have oc := oc_136_1_46; by omega)))
              have n107f : (z104).toInt ≠ 0 → TQ s104 := by first | (intro h; exact absurd rfl h) | (intro h; exfalso; revert h; first | (unfold In at i39; omega) | (unfold In at i104; omega) | (unfold In at i144; omega))
              have n107g : (z104).toInt ≠ 0 → s104.2.2.1 46 6 = s.2.2.1 46 6 ∧ s104.2.2.1 46 7 = s.2.2.1 46 7 := by first | (intro h; exact absurd rfl h) | (intro h; exfalso; revert h; first | (unfold In at i39; omega) | (unfold In at i104; omega) | (unfold In at i144; omega))
              have n107h : (z104).toInt = 0 → 0 ≤ (s104.2.2.1 46 7).toInt := by intro _; rw [p104.2, ← e70a]; exact (have a0 := in_u ro_46_1; have a1 := in_u ((inv_F hIc46 448 28000 rfl v46_30_0)); have a2 := in_u ((inv_F hIc46 0 32 rfl v46_2_1)); have a3 := in_u ((inv_F hIc46 0 4000 rfl v46_2_0)); have a4 := in_u ((inv_F hIc46 0 1000 rfl v46_46_2)); have a5 := in_u i63; have a6 := in_u j46_4; have a7 := in_u j46_3; have a8 := in_u j46_2; have a9 := in_u ((in_c 1 rfl)); have a10 := in_u i93; have a11 := in_u i70b; have a12 := in_u i70a; have oc := oc_136_1_46; by omega)
              have n107i : (z104).toInt ≠ 0 → LGC s s104 := by first | (intro h; exact absurd rfl h) | (intro h; exfalso; revert h; first | (unfold In at i39; omega) | (unfold In at i104; omega) | (unfold In at i144; omega))
              have n107j : (z70a).toInt ≤ (u_46_1).toInt := by exact (have a0 := in_u ro_46_1; have a1 := in_u ((inv_F hIc46 448 28000 rfl v46_30_0)); have a2 := in_u ((inv_F hIc46 0 32 rfl v46_2_1)); have a3 := in_u ((inv_F hIc46 0 4000 rfl v46_2_0)); have a4 := in_u ((inv_F hIc46 0 1000 rfl v46_46_2)); have a5 := in_u i63; have a6 := in_u j46_4; have a7 := in_u j46_3; have a8 := in_u j46_2; have a9 := in_u ((in_c 1 rfl)); have a10 := in_u i93; have a11 := in_u i70b; have a12 := in_u i70a; have oc := oc_136_1_46; by omega)
              have n107k : (s104.2.2.1 46 2).toInt ≤ (s104.2.2.1 46 1).toInt := by have b0 : z70a = s104.2.2.1 46 2 := fr_F (e70) hF104 rfl; have b1 : u_46_1 = s104.2.2.1 46 1 := fr_F (fr_F (fr_F e_46_1 hFc46 rfl) hF70 rfl) hF104 rfl; rw [← b0, ← b1]; exact n107j
              have n107l : (u_2_0).toInt ≤ (w46_2_0).toInt := by first | exact n46_1 | (exact (have a0 := in_u ro_46_1; have a1 := in_u ((inv_F hIc46 448 28000 rfl v46_30_0)); have a2 := in_u ((inv_F hIc46 0 32 rfl v46_2_1)); have a3 := in_u ((inv_F hIc46 0 4000 rfl v46_2_0)); have a4 := in_u ((inv_F hIc46 0 1000 rfl v46_46_2)); have a5 := in_u i63; have a6 := in_u j46_4; have a7 := in_u j46_3; have a8 := in_u j46_2; have a9 := in_u ((in_c 1 rfl)); have a10 := in_u i93; have a11 := in_u i70b; have a12 := in_u i70a; have oc := oc_136_1_46; by omega))
              have n107m : (s.2.2.1 2 0).toInt ≤ (s104.2.2.1 2 0).toInt := by have b0 : w46_2_0 = s104.2.2.1 2 0 := fr_F (fr_F (v46_2_0) hF70 rfl) hF104 rfl; first | (rw [← b0, ← e_2_0]; exact n107l) | (rw [← b0]; exact n107l)
              exact g_ireturn (gd rfl) rfl (nb01 (in_w 0 1 i104 rfl)) (hP _ _ ⟨(A 30), s104, hI104, (fr_tr rfl (fr_tr rfl hFc46 hF70) hF104), n107k, n107m, z104, rfl, (by rw [ax_id]), in_w 0 1 i104 rfl, n107, n107a, n107b, n107c, n107d, n107e, n107f, n107g, n107h, n107i⟩)
  refine g_enter2 (k := 136) (N := 6301) (by first | exact dq1 hd rfl | exact dq0 hd rfl | exact dq2 hd rfl | exact dq3 hd rfl | omega) rfl (Nat.le_of_ble_eq_true rfl) ?_
  refine g_aload_n 1 (gd rfl) rfl rfl ?_
  refine g_getI 4 (gd rfl) rfl rfl rfl (fun z1 e1 => ?_)
  have q1 : u_46_4 = z1 := (e_46_4).trans e1.symm
  subst q1
  refine g_istore_n 5 (gd rfl) rfl (Nat.le_of_ble_eq_true rfl) ?_
  refine g_aload_n 6 (gd rfl) rfl rfl ?_
  refine g_getI 9 (gd rfl) rfl rfl rfl (fun z6 e6 => ?_)
  have q6 : u_46_3 = z6 := (e_46_3).trans e6.symm
  subst q6
  refine g_iconst 1 10 (gd rfl) rfl rfl ?_
  refine g_cmp_ne 13 20 (gd rfl) rfl rfl (fun c10 => ?_) (fun c10 => ?_)
  · skip
    refine g_iconst (-1) 21 (gd rfl) rfl rfl ?_
    refine g_istore_n 22 (gd rfl) rfl (Nat.le_of_ble_eq_true rfl) ?_
    refine g_iload_n 23 (gd rfl) rfl rfl ?_
    refine g_calls (As := [.int (Int32.ofInt (-1))]) (r := []) 26 (gd rfl) rfl rfl rfl rfl rfl (Nat.le_of_ble_eq_true rfl) (mc := 0) (ms := 0) (Nat.zero_le _) (Nat.zero_le _) (P := fun v u => _) ?_ (fun v u h => h)
    intro po23 xx23 hp23 hx23
    refine g_enter2 (k := 137) (N := 300) (by first | exact dq1 hd rfl | exact dq0 hd rfl | exact dq2 hd rfl | exact dq3 hd rfl | omega) rfl (Nat.le_of_ble_eq_true rfl) ?_
    refine g_iload_n 1 (gd rfl) rfl rfl ?_
    refine g_lsw [(0, 47), (13, 44), (19, 50), (22, 53)] 56 (gd rfl) rfl rfl rfl ⟨fun c23x1 => ?_, fun c23x1_0 => ⟨fun c23x1 => ?_, fun c23x1_1 => ⟨fun c23x1 => ?_, fun c23x1_2 => ⟨fun c23x1 => ?_, fun c23x1_3 => ?_⟩⟩⟩⟩
    · skip
      exact sw_ne c23x1 (in_c (-1) rfl) rfl
    · skip
      exact sw_ne c23x1 (in_c (-1) rfl) rfl
    · skip
      exact sw_ne c23x1 (in_c (-1) rfl) rfl
    · skip
      exact sw_ne c23x1 (in_c (-1) rfl) rfl
    · skip
      refine g_ldcs 5 58 (gd rfl) rfl rfl ?_
      refine g_areturn (gd rfl) rfl (hp23 _ _ ?_)
      show GG _ _ _ _ _ _ _ _ [.ref (zq Z (Int32.ofInt 5))] _ _ _
      refine g_astore 28 (gd rfl) rfl (Nat.le_of_ble_eq_true rfl) ?_
      refine g_aload 30 (gd rfl) rfl rfl ?_
      have i30 : In (Int32.ofInt 5) 0 6 := in_w 0 6 (in_c 5 rfl) rfl
      refine g_callS (X := _) (As := []) (r := []) (x := (Int32.ofInt 5)) 33 (gd rfl) rfl rfl rfl zm_428 rfl rfl rfl i30 (Nat.le_of_ble_eq_true rfl) (f_428 i30 (by omega)) (fun e u h => h) (fun v u h => ?_)
      obtain ⟨z30, rfl, rfl, i30a, p30, p30a⟩ := h
      show GG _ _ _ _ _ _ _ _ [.int z30] _ _ _
      refine g_if_eq 36 43 (gd rfl) rfl rfl (fun c33 => ?_) (fun c33 => ?_)
      · skip
        have i33 := z_eq 0 0 c33 i30a rfl
        refine g_iconst 0 44 (gd rfl) rfl rfl ?_
        refine g_istore 46 (gd rfl) rfl (Nat.le_of_ble_eq_true rfl) ?_
        have n46 : (u_46_2).toInt ≤ (u_46_1).toInt := by exact (have a0 := in_u ((inv_F hI 0 1000 rfl e_46_4)); have a1 := in_u ((inv_F hI 0 5 rfl e_46_3)); have a2 := in_u ((inv_F hI 0 1000 rfl e_46_1)); have a3 := in_u ((inv_F hI 0 1000 rfl e_46_2)); have a4 := in_u ((inv_F hI 448 28000 rfl e_30_0)); have a5 := in_u ((inv_F hI 0 32 rfl e_2_1)); have a6 := in_u ((inv_F hI 0 4000 rfl e_2_0)); have a7 := in_u ((in_c 0 rfl)); have a8 := in_u ((in_c (-1) rfl)); have oc := oc_136_1_46; by omega)
        have n46a : (u_2_0).toInt ≤ (u_2_0).toInt := by exact (have a0 := in_u ((inv_F hI 0 1000 rfl e_46_4)); have a1 := in_u ((inv_F hI 0 5 rfl e_46_3)); have a2 := in_u ((inv_F hI 0 1000 rfl e_46_1)); have a3 := in_u ((inv_F hI 0 1000 rfl e_46_2)); have a4 := in_u ((inv_F hI 448 28000 rfl e_30_0)); have a5 := in_u ((inv_F hI 0 32 rfl e_2_1)); have a6 := in_u ((inv_F hI 0 4000 rfl e_2_0)); have a7 := in_u ((in_c 0 rfl)); have a8 := in_u ((in_c (-1) rfl)); have oc := oc_136_1_46; by omega)
        have n46b : ((Int32.ofInt (-1))).toInt = 13 → ((Int32.ofInt 5)).toInt = 1 := by intro h; first | decide | (exfalso; exact (have a0 := in_u ((inv_F hI 0 1000 rfl e_46_4)); have a1 := in_u ((inv_F hI 0 5 rfl e_46_3)); have a2 := in_u ((inv_F hI 0 1000 rfl e_46_1)); have a3 := in_u ((inv_F hI 0 1000 rfl e_46_2)); have a4 := in_u ((inv_F hI 448 28000 rfl e_30_0)); have a5 := in_u ((inv_F hI 0 32 rfl e_2_1)); have a6 := in_u ((inv_F hI 0 4000 rfl e_2_0)); have a7 := in_u ((in_c 0 rfl)); have a8 := in_u ((in_c (-1) rfl)); have oc := oc_136_1_46; by omega))
        have n46c : ((Int32.ofInt 5)).toInt = 1 → 1 ≤ ((Int32.ofInt 0)).toInt → In (s.1 31 0) 0 25 := by intro _ h; exfalso; revert h; decide
        have n46d : Fr ([31], [], [(46, 2), (46, 3), (46, 4), (46, 5), (46, 6), (46, 7)], []) s s := by exact fr_rf
        have n46e : SHQ ((Int32.ofInt (-1))).toInt ((Int32.ofInt 5)).toInt := by first | (exfalso; have h9 := p30 (by exact (have a0 := in_u ((inv_F hI 0 1000 rfl e_46_4)); have a1 := in_u ((inv_F hI 0 5 rfl e_46_3)); have a2 := in_u ((inv_F hI 0 1000 rfl e_46_1)); have a3 := in_u ((inv_F hI 0 1000 rfl e_46_2)); have a4 := in_u ((inv_F hI 448 28000 rfl e_30_0)); have a5 := in_u ((inv_F hI 0 32 rfl e_2_1)); have a6 := in_u ((inv_F hI 0 4000 rfl e_2_0)); have a7 := in_u ((in_c 0 rfl)); have a8 := in_u ((in_c (-1) rfl)); have oc := oc_136_1_46; by omega)); revert h9; decide) | exact Or.inl ⟨by exact (have a0 := in_u ((inv_F hI 0 1000 rfl e_46_4)); have a1 := in_u ((inv_F hI 0 5 rfl e_46_3)); have a2 := in_u ((inv_F hI 0 1000 rfl e_46_1)); have a3 := in_u ((inv_F hI 0 1000 rfl e_46_2)); have a4 := in_u ((inv_F hI 448 28000 rfl e_30_0)); have a5 := in_u ((inv_F hI 0 32 rfl e_2_1)); have a6 := in_u ((inv_F hI 0 4000 rfl e_2_0)); have a7 := in_u ((in_c 0 rfl)); have a8 := in_u ((in_c (-1) rfl)); have oc := oc_136_1_46; by omega), by decide⟩ | exact Or.inr (Or.inl ⟨by exact (have a0 := in_u ((inv_F hI 0 1000 rfl e_46_4)); have a1 := in_u ((inv_F hI 0 5 rfl e_46_3)); have a2 := in_u ((inv_F hI 0 1000 rfl e_46_1)); have a3 := in_u ((inv_F hI 0 1000 rfl e_46_2)); have a4 := in_u ((inv_F hI 448 28000 rfl e_30_0)); have a5 := in_u ((inv_F hI 0 32 rfl e_2_1)); have a6 := in_u ((inv_F hI 0 4000 rfl e_2_0)); have a7 := in_u ((in_c 0 rfl)); have a8 := in_u ((in_c (-1) rfl)); have oc := oc_136_1_46; by omega), by decide⟩) | exact Or.inr (Or.inr (Or.inl ⟨by exact (have a0 := in_u ((inv_F hI 0 1000 rfl e_46_4)); have a1 := in_u ((inv_F hI 0 5 rfl e_46_3)); have a2 := in_u ((inv_F hI 0 1000 rfl e_46_1)); have a3 := in_u ((inv_F hI 0 1000 rfl e_46_2)); have a4 := in_u ((inv_F hI 448 28000 rfl e_30_0)); have a5 := in_u ((inv_F hI 0 32 rfl e_2_1)); have a6 := in_u ((inv_F hI 0 4000 rfl e_2_0)); have a7 := in_u ((in_c 0 rfl)); have a8 := in_u ((in_c (-1) rfl)); have oc := oc_136_1_46; by omega), by decide⟩)) | exact Or.inr (Or.inr (Or.inr ⟨by exact (have a0 := in_u ((inv_F hI 0 1000 rfl e_46_4)); have a1 := in_u ((inv_F hI 0 5 rfl e_46_3)); have a2 := in_u ((inv_F hI 0 1000 rfl e_46_1)); have a3 := in_u ((inv_F hI 0 1000 rfl e_46_2)); have a4 := in_u ((inv_F hI 448 28000 rfl e_30_0)); have a5 := in_u ((inv_F hI 0 32 rfl e_2_1)); have a6 := in_u ((inv_F hI 0 4000 rfl e_2_0)); have a7 := in_u ((in_c 0 rfl)); have a8 := in_u ((in_c (-1) rfl)); have oc := oc_136_1_46; by omega), by decide⟩))
        have n46f : (s.2.2.1 46 3).toInt = 1 ∧ (s.2.2.1 46 5).toInt = ((Int32.ofInt (-1))).toInt ∧ (u_46_4) = s.2.2.1 46 4 := by first | (exfalso; have h9 := p30 (by exact (have a0 := in_u ((inv_F hI 0 1000 rfl e_46_4)); have a1 := in_u ((inv_F hI 0 5 rfl e_46_3)); have a2 := in_u ((inv_F hI 0 1000 rfl e_46_1)); have a3 := in_u ((inv_F hI 0 1000 rfl e_46_2)); have a4 := in_u ((inv_F hI 448 28000 rfl e_30_0)); have a5 := in_u ((inv_F hI 0 32 rfl e_2_1)); have a6 := in_u ((inv_F hI 0 4000 rfl e_2_0)); have a7 := in_u ((in_c 0 rfl)); have a8 := in_u ((in_c (-1) rfl)); have oc := oc_136_1_46; by omega)); revert h9; decide) | exact ⟨by rw [← e_46_3]; exact (have a0 := in_u ((inv_F hI 0 1000 rfl e_46_4)); have a1 := in_u ((inv_F hI 0 5 rfl e_46_3)); have a2 := in_u ((inv_F hI 0 1000 rfl e_46_1)); have a3 := in_u ((inv_F hI 0 1000 rfl e_46_2)); have a4 := in_u ((inv_F hI 448 28000 rfl e_30_0)); have a5 := in_u ((inv_F hI 0 32 rfl e_2_1)); have a6 := in_u ((inv_F hI 0 4000 rfl e_2_0)); have a7 := in_u ((in_c 0 rfl)); have a8 := in_u ((in_c (-1) rfl)); have oc := oc_136_1_46; by omega), by rw [← e_46_5], e_46_4⟩
        have n46g : ((Int32.ofInt 0)).toInt ≤ (cmA ((Int32.ofInt (-1))).toInt : Int) := by exact Int.natCast_nonneg _
        have n46h : ∀ a : Nat, TKN (s.1 47) (s.2.2.1 46 1).toInt.toNat a (s.2.2.1 46 4).toInt.toNat (s.2.2.1 46 2).toInt.toNat (s.2.2.1 46 3).toInt (s.2.2.1 46 5).toInt → (∀ j, j < ((Int32.ofInt 0)).toInt.toNat → ∃ q f, TSQ (s.1 47) (s.2.2.1 46 1).toInt.toNat a (j + 1) q f (cmK ((Int32.ofInt (-1))).toInt (j + 1)) (s.1 31 j).toInt) ∧ ∃ p k v, TSQ (s.1 47) (s.2.2.1 46 1).toInt.toNat a ((Int32.ofInt 0)).toInt.toNat p (u_46_2).toInt.toNat k v := by intro a ha; exact ⟨fun j hj => absurd hj (by have h9 : (Int32.ofInt 0).toInt.toNat = 0 := rfl; omega), _, _, _, by rw [e_46_2]; exact ha⟩
        have n46i : s.2.2.1 46 6 = s.2.2.1 46 6 ∧ s.2.2.1 46 7 = s.2.2.1 46 7 := by exact ⟨rfl, rfl⟩
        exact gg_w (by first | exact Nat.le_of_ble_eq_true rfl | omega) (gg_f (gf_cons rfl (gf_cons rfl (gf_cons rfl (gf_cons rfl (gf_cons rfl (gf_cons rfl gf_nil)))))) (ct46 6 s u_46_4 (Int32.ofInt (-1)) (Int32.ofInt 5) (Int32.ofInt 0) u_46_2 u_2_0 u_2_1 u_30_0 hI fr_rf (in_w 0 1000 (inv_F hI 0 1000 rfl e_46_4) rfl) (in_w (-1) 25 (in_c (-1) rfl) rfl) (in_w 1 5 (in_c 5 rfl) rfl) (in_w 0 5 (in_c 0 rfl) rfl) e_46_2 e_2_0 e_2_1 e_30_0 n46 n46a n46b n46c n46d n46e n46f n46g n46h n46i (m_in 6 (in_w 0 5 (in_c 0 rfl) rfl) rfl)))
      · skip
        have i33 := z_ne 1 1 c33 i30a rfl
        refine g_aload_n 37 (gd rfl) rfl rfl ?_
        refine g_iconst 2 38 (gd rfl) rfl rfl ?_
        refine g_iconst 3 39 (gd rfl) rfl rfl ?_
        refine g_callv (X := _) (As := [.int (Int32.ofInt 2), .int (Int32.ofInt 3)]) (r := []) (b := A 46) (q := 46) 42 (gd rfl) rfl rfl rfl rfl rfl (ww_o rfl) (Nat.le_of_ble_eq_true rfl) (Nat.zero_le _) (Nat.zero_le _) (f_169_46 (by first | exact dq1 hd rfl | exact dq0 hd rfl | exact dq2 hd rfl | exact dq3 hd rfl | omega) hI (in_w 2 2 (in_c 2 rfl) rfl) (in_w 3 3 (in_c 3 rfl) rfl) e_46_3 e_46_4) (fun e u h => h) (fun v u h => ?_)
        obtain ⟨s39, hI39, hF39, z39, rfl, rfl, i39, p39⟩ := h
        show GG _ _ _ _ _ _ _ _ [.int z39] _ _ _
        have n42 : KL s39 := by have hL9 : Fr ([31], [], [(46, 2), (46, 3), (46, 4), (46, 5), (46, 6), (46, 7)], []) s s39 := (fr_tr rfl fr_rf hF39); exact kl_fr q_0 hL9 rfl
        have n42a : (z39).toInt ≠ 0 → (s39.2.2.1 30 0).toInt = nln s := by first | (intro h; exact absurd rfl h) | (intro h; exfalso; revert h; first | (unfold In at i39; omega) | (unfold In at i104; omega) | (unfold In at i144; omega))
        have n42b : (z39).toInt ≠ 0 → (s.2.2.1 2 0).toInt ≤ 3999 := by first | (intro h; exact absurd rfl h) | (intro h; exfalso; revert h; first | (unfold In at i39; omega) | (unfold In at i104; omega) | (unfold In at i144; omega))
        have n42c : ∀ k : Nat, (k : Int) < 7 * (s.2.2.1 2 0).toInt → s39.1 30 k = s.1 30 k := by have hL9 : Fr ([31], [], [(46, 2), (46, 3), (46, 4), (46, 5), (46, 6), (46, 7)], []) s s39 := (fr_tr rfl fr_rf hF39); exact fun k _ => by rw [hL9.1 30 rfl]
        have n42d : (z39).toInt ≠ 0 → ∀ a : Nat, TKN (s.1 47) (s.2.2.1 46 1).toInt.toNat a (s.2.2.1 46 4).toInt.toNat (s.2.2.1 46 2).toInt.toNat (s.2.2.1 46 3).toInt (s.2.2.1 46 5).toInt → ∃ c V, CMP (s.1 47) (s.2.2.1 46 1).toInt.toNat a (s.2.2.1 46 4).toInt.toNat c V (s39.2.2.1 46 2).toInt.toNat ∧ dkC (gvC s) c V ∧ gvC s39 = opC (gvC s) c V := by first | (intro h; exact absurd rfl h) | (intro h; exfalso; revert h; first | (unfold In at i39; omega) | (unfold In at i104; omega) | (unfold In at i144; omega))
        have n42e : (z39).toInt = 0 → ∀ a : Nat, TKN (s.1 47) (s.2.2.1 46 1).toInt.toNat a (s.2.2.1 46 4).toInt.toNat (s.2.2.1 46 2).toInt.toNat (s.2.2.1 46 3).toInt (s.2.2.1 46 5).toInt → CMX (s.1 47) (s.2.2.1 46 1).toInt.toNat a (s39.2.2.1 46 6).toInt (s39.2.2.1 46 7).toInt.toNat ∨ ∃ c V e, CMP (s.1 47) (s.2.2.1 46 1).toInt.toNat a (s39.2.2.1 46 7).toInt.toNat c V e ∧ ¬ dkC (gvC s) c V ∧ (s39.2.2.1 46 6).toInt = 4 := by intro _ a ha; refine Or.inl (Or.inl ⟨_, _, _, by rw [p39.2]; exact ha, q_4, ?_, p39.1⟩); first | (rintro ⟨h8, h9⟩; rw [← e_46_3] at h8; exact (have a0 := in_u ((inv_F hI 0 1000 rfl e_46_4)); have a1 := in_u ((inv_F hI 0 5 rfl e_46_3)); have a2 := in_u ((inv_F hI 0 1000 rfl e_46_1)); have a3 := in_u ((inv_F hI 0 1000 rfl e_46_2)); have a4 := in_u ((inv_F hI 448 28000 rfl e_30_0)); have a5 := in_u ((inv_F hI 0 32 rfl e_2_1)); have a6 := in_u ((inv_F hI 0 4000 rfl e_2_0)); have a7 := in_u ((in_c (-1) rfl)); have oc := oc_136_1_46; by omega)) | (rintro ⟨h8, h9⟩; rw [← e_46_5] at h9; unfold cmI at h9; exact (have a0 := in_u ((inv_F hI 0 1000 rfl e_46_4)); have a1 := in_u ((inv_F hI 0 5 rfl e_46_3)); have a2 := in_u ((inv_F hI 0 1000 rfl e_46_1)); have a3 := in_u ((inv_F hI 0 1000 rfl e_46_2)); have a4 := in_u ((inv_F hI 448 28000 rfl e_30_0)); have a5 := in_u ((inv_F hI 0 32 rfl e_2_1)); have a6 := in_u ((inv_F hI 0 4000 rfl e_2_0)); have a7 := in_u ((in_c (-1) rfl)); have oc := oc_136_1_46; by omega)) | (exfalso; have h9 := p30a (by exact (have a0 := in_u ((inv_F hI 0 1000 rfl e_46_4)); have a1 := in_u ((inv_F hI 0 5 rfl e_46_3)); have a2 := in_u ((inv_F hI 0 1000 rfl e_46_1)); have a3 := in_u ((inv_F hI 0 1000 rfl e_46_2)); have a4 := in_u ((inv_F hI 448 28000 rfl e_30_0)); have a5 := in_u ((inv_F hI 0 32 rfl e_2_1)); have a6 := in_u ((inv_F hI 0 4000 rfl e_2_0)); have a7 := in_u ((in_c (-1) rfl)); have oc := oc_136_1_46; by omega)); revert h9; decide)
        have n42f : (z39).toInt ≠ 0 → TQ s39 := by first | (intro h; exact absurd rfl h) | (intro h; exfalso; revert h; first | (unfold In at i39; omega) | (unfold In at i104; omega) | (unfold In at i144; omega))
        have n42g : (z39).toInt ≠ 0 → s39.2.2.1 46 6 = s.2.2.1 46 6 ∧ s39.2.2.1 46 7 = s.2.2.1 46 7 := by first | (intro h; exact absurd rfl h) | (intro h; exfalso; revert h; first | (unfold In at i39; omega) | (unfold In at i104; omega) | (unfold In at i144; omega))
        have n42h : (z39).toInt = 0 → 0 ≤ (s39.2.2.1 46 7).toInt := by intro _; rw [p39.2, ← e_46_4]; exact (have a0 := in_u ((inv_F hI 0 1000 rfl e_46_4)); have a1 := in_u ((inv_F hI 0 5 rfl e_46_3)); have a2 := in_u ((inv_F hI 0 1000 rfl e_46_1)); have a3 := in_u ((inv_F hI 0 1000 rfl e_46_2)); have a4 := in_u ((inv_F hI 448 28000 rfl e_30_0)); have a5 := in_u ((inv_F hI 0 32 rfl e_2_1)); have a6 := in_u ((inv_F hI 0 4000 rfl e_2_0)); have a7 := in_u ((in_c (-1) rfl)); have oc := oc_136_1_46; by omega)
        have n42i : (z39).toInt ≠ 0 → LGC s s39 := by first | (intro h; exact absurd rfl h) | (intro h; exfalso; revert h; first | (unfold In at i39; omega) | (unfold In at i104; omega) | (unfold In at i144; omega))
        have n42j : (u_46_2).toInt ≤ (u_46_1).toInt := by exact (have a0 := in_u ((inv_F hI 0 1000 rfl e_46_4)); have a1 := in_u ((inv_F hI 0 5 rfl e_46_3)); have a2 := in_u ((inv_F hI 0 1000 rfl e_46_1)); have a3 := in_u ((inv_F hI 0 1000 rfl e_46_2)); have a4 := in_u ((inv_F hI 448 28000 rfl e_30_0)); have a5 := in_u ((inv_F hI 0 32 rfl e_2_1)); have a6 := in_u ((inv_F hI 0 4000 rfl e_2_0)); have a7 := in_u ((in_c (-1) rfl)); have oc := oc_136_1_46; by omega)
        have n42k : (s39.2.2.1 46 2).toInt ≤ (s39.2.2.1 46 1).toInt := by have b0 : u_46_2 = s39.2.2.1 46 2 := fr_F (e_46_2) hF39 rfl; have b1 : u_46_1 = s39.2.2.1 46 1 := fr_F (e_46_1) hF39 rfl; rw [← b0, ← b1]; exact n42j
        have n42l : (u_2_0).toInt ≤ (u_2_0).toInt := by exact (have a0 := in_u ((inv_F hI 0 1000 rfl e_46_4)); have a1 := in_u ((inv_F hI 0 5 rfl e_46_3)); have a2 := in_u ((inv_F hI 0 1000 rfl e_46_1)); have a3 := in_u ((inv_F hI 0 1000 rfl e_46_2)); have a4 := in_u ((inv_F hI 448 28000 rfl e_30_0)); have a5 := in_u ((inv_F hI 0 32 rfl e_2_1)); have a6 := in_u ((inv_F hI 0 4000 rfl e_2_0)); have a7 := in_u ((in_c (-1) rfl)); have oc := oc_136_1_46; by omega)
        have n42m : (s.2.2.1 2 0).toInt ≤ (s39.2.2.1 2 0).toInt := by have b0 : u_2_0 = s39.2.2.1 2 0 := fr_F (e_2_0) hF39 rfl; first | (rw [← b0, ← e_2_0]; exact n42l) | (rw [← b0]; exact n42l)
        exact g_ireturn (gd rfl) rfl (nb01 (in_w 0 1 i39 rfl)) (hP _ _ ⟨(A 30), s39, hI39, (fr_tr rfl fr_rf hF39), n42k, n42m, z39, rfl, (by rw [ax_id]), in_w 0 1 i39 rfl, n42, n42a, n42b, n42c, n42d, n42e, n42f, n42g, n42h, n42i⟩)
  · skip
    have i10 := r_eq1 1 1 c10 (inv_F hI 0 5 rfl e_46_3) (in_c 1 rfl) rfl
    refine g_aload_n 14 (gd rfl) rfl rfl ?_
    refine g_getI 17 (gd rfl) rfl rfl rfl (fun z14 e14 => ?_)
    have q14 : u_46_5 = z14 := (e_46_5).trans e14.symm
    subst q14
    have i17 : In u_46_5 0 25 := by rw [e14]; exact q_1 (by rw [← e6]; exact c10.trans (by decide))
    refine g_goto 21 (gd rfl) rfl ?_
    refine g_istore_n 22 (gd rfl) rfl (Nat.le_of_ble_eq_true rfl) ?_
    refine g_iload_n 23 (gd rfl) rfl rfl ?_
    refine g_calls (As := [.int u_46_5]) (r := []) 26 (gd rfl) rfl rfl rfl rfl rfl (Nat.le_of_ble_eq_true rfl) (mc := 0) (ms := 0) (Nat.zero_le _) (Nat.zero_le _) (P := fun v u => _) ?_ (fun v u h => h)
    intro po23 xx23 hp23 hx23
    refine g_enter2 (k := 137) (N := 300) (by first | exact dq1 hd rfl | exact dq0 hd rfl | exact dq2 hd rfl | exact dq3 hd rfl | omega) rfl (Nat.le_of_ble_eq_true rfl) ?_
    refine g_iload_n 1 (gd rfl) rfl rfl ?_
    refine g_lsw [(0, 47), (13, 44), (19, 50), (22, 53)] 56 (gd rfl) rfl rfl rfl ⟨fun c23x1 => ?_, fun c23x1_0 => ⟨fun c23x1 => ?_, fun c23x1_1 => ⟨fun c23x1 => ?_, fun c23x1_2 => ⟨fun c23x1 => ?_, fun c23x1_3 => ?_⟩⟩⟩⟩
    · skip
      have i23x1 := sw_eq c23x1
      refine g_ldcs 2 49 (gd rfl) rfl rfl ?_
      refine g_areturn (gd rfl) rfl (hp23 _ _ ?_)
      show GG _ _ _ _ _ _ _ _ [.ref (zq Z (Int32.ofInt 2))] _ _ _
      refine g_astore 28 (gd rfl) rfl (Nat.le_of_ble_eq_true rfl) ?_
      refine g_aload 30 (gd rfl) rfl rfl ?_
      have i30 : In (Int32.ofInt 2) 0 6 := in_w 0 6 (in_c 2 rfl) rfl
      refine g_callS (X := _) (As := []) (r := []) (x := (Int32.ofInt 2)) 33 (gd rfl) rfl rfl rfl zm_428 rfl rfl rfl i30 (Nat.le_of_ble_eq_true rfl) (f_428 i30 (by omega)) (fun e u h => h) (fun v u h => ?_)
      obtain ⟨z30, rfl, rfl, i30a, p30, p30a⟩ := h
      show GG _ _ _ _ _ _ _ _ [.int z30] _ _ _
      refine g_if_eq 36 43 (gd rfl) rfl rfl (fun c33 => ?_) (fun c33 => ?_)
      · skip
        have i33 := z_eq 0 0 c33 i30a rfl
        refine g_iconst 0 44 (gd rfl) rfl rfl ?_
        refine g_istore 46 (gd rfl) rfl (Nat.le_of_ble_eq_true rfl) ?_
        have n46 : (u_46_2).toInt ≤ (u_46_1).toInt := by exact (have a0 := in_u i23x1; have a1 := in_u ((inv_F hI 0 1000 rfl e_46_4)); have a2 := in_u i10; have a3 := in_u ((inv_F hI 0 1000 rfl e_46_1)); have a4 := in_u ((inv_F hI 0 1000 rfl e_46_2)); have a5 := in_u ((inv_F hI 448 28000 rfl e_30_0)); have a6 := in_u ((inv_F hI 0 32 rfl e_2_1)); have a7 := in_u ((inv_F hI 0 4000 rfl e_2_0)); have a8 := in_u ((in_c 0 rfl)); have oc := oc_136_1_46; by omega)
        have n46a : (u_2_0).toInt ≤ (u_2_0).toInt := by exact (have a0 := in_u i23x1; have a1 := in_u ((inv_F hI 0 1000 rfl e_46_4)); have a2 := in_u i10; have a3 := in_u ((inv_F hI 0 1000 rfl e_46_1)); have a4 := in_u ((inv_F hI 0 1000 rfl e_46_2)); have a5 := in_u ((inv_F hI 448 28000 rfl e_30_0)); have a6 := in_u ((inv_F hI 0 32 rfl e_2_1)); have a7 := in_u ((inv_F hI 0 4000 rfl e_2_0)); have a8 := in_u ((in_c 0 rfl)); have oc := oc_136_1_46; by omega)
        have n46b : (u_46_5).toInt = 13 → ((Int32.ofInt 2)).toInt = 1 := by intro h; first | decide | (exfalso; exact (have a0 := in_u i23x1; have a1 := in_u ((inv_F hI 0 1000 rfl e_46_4)); have a2 := in_u i10; have a3 := in_u ((inv_F hI 0 1000 rfl e_46_1)); have a4 := in_u ((inv_F hI 0 1000 rfl e_46_2)); have a5 := in_u ((inv_F hI 448 28000 rfl e_30_0)); have a6 := in_u ((inv_F hI 0 32 rfl e_2_1)); have a7 := in_u ((inv_F hI 0 4000 rfl e_2_0)); have a8 := in_u ((in_c 0 rfl)); have oc := oc_136_1_46; by omega))
        have n46c : ((Int32.ofInt 2)).toInt = 1 → 1 ≤ ((Int32.ofInt 0)).toInt → In (s.1 31 0) 0 25 := by intro _ h; exfalso; revert h; decide
        have n46d : Fr ([31], [], [(46, 2), (46, 3), (46, 4), (46, 5), (46, 6), (46, 7)], []) s s := by exact fr_rf
        have n46e : SHQ (u_46_5).toInt ((Int32.ofInt 2)).toInt := by first | (exfalso; have h9 := p30 (by exact (have a0 := in_u i23x1; have a1 := in_u ((inv_F hI 0 1000 rfl e_46_4)); have a2 := in_u i10; have a3 := in_u ((inv_F hI 0 1000 rfl e_46_1)); have a4 := in_u ((inv_F hI 0 1000 rfl e_46_2)); have a5 := in_u ((inv_F hI 448 28000 rfl e_30_0)); have a6 := in_u ((inv_F hI 0 32 rfl e_2_1)); have a7 := in_u ((inv_F hI 0 4000 rfl e_2_0)); have a8 := in_u ((in_c 0 rfl)); have oc := oc_136_1_46; by omega)); revert h9; decide) | exact Or.inl ⟨by exact (have a0 := in_u i23x1; have a1 := in_u ((inv_F hI 0 1000 rfl e_46_4)); have a2 := in_u i10; have a3 := in_u ((inv_F hI 0 1000 rfl e_46_1)); have a4 := in_u ((inv_F hI 0 1000 rfl e_46_2)); have a5 := in_u ((inv_F hI 448 28000 rfl e_30_0)); have a6 := in_u ((inv_F hI 0 32 rfl e_2_1)); have a7 := in_u ((inv_F hI 0 4000 rfl e_2_0)); have a8 := in_u ((in_c 0 rfl)); have oc := oc_136_1_46; by omega), by decide⟩ | exact Or.inr (Or.inl ⟨by exact (have a0 := in_u i23x1; have a1 := in_u ((inv_F hI 0 1000 rfl e_46_4)); have a2 := in_u i10; have a3 := in_u ((inv_F hI 0 1000 rfl e_46_1)); have a4 := in_u ((inv_F hI 0 1000 rfl e_46_2)); have a5 := in_u ((inv_F hI 448 28000 rfl e_30_0)); have a6 := in_u ((inv_F hI 0 32 rfl e_2_1)); have a7 := in_u ((inv_F hI 0 4000 rfl e_2_0)); have a8 := in_u ((in_c 0 rfl)); have oc := oc_136_1_46; by omega), by decide⟩) | exact Or.inr (Or.inr (Or.inl ⟨by exact (have a0 := in_u i23x1; have a1 := in_u ((inv_F hI 0 1000 rfl e_46_4)); have a2 := in_u i10; have a3 := in_u ((inv_F hI 0 1000 rfl e_46_1)); have a4 := in_u ((inv_F hI 0 1000 rfl e_46_2)); have a5 := in_u ((inv_F hI 448 28000 rfl e_30_0)); have a6 := in_u ((inv_F hI 0 32 rfl e_2_1)); have a7 := in_u ((inv_F hI 0 4000 rfl e_2_0)); have a8 := in_u ((in_c 0 rfl)); have oc := oc_136_1_46; by omega), by decide⟩)) | exact Or.inr (Or.inr (Or.inr ⟨by exact (have a0 := in_u i23x1; have a1 := in_u ((inv_F hI 0 1000 rfl e_46_4)); have a2 := in_u i10; have a3 := in_u ((inv_F hI 0 1000 rfl e_46_1)); have a4 := in_u ((inv_F hI 0 1000 rfl e_46_2)); have a5 := in_u ((inv_F hI 448 28000 rfl e_30_0)); have a6 := in_u ((inv_F hI 0 32 rfl e_2_1)); have a7 := in_u ((inv_F hI 0 4000 rfl e_2_0)); have a8 := in_u ((in_c 0 rfl)); have oc := oc_136_1_46; by omega), by decide⟩))
        have n46f : (s.2.2.1 46 3).toInt = 1 ∧ (s.2.2.1 46 5).toInt = (u_46_5).toInt ∧ (u_46_4) = s.2.2.1 46 4 := by first | (exfalso; have h9 := p30 (by exact (have a0 := in_u i23x1; have a1 := in_u ((inv_F hI 0 1000 rfl e_46_4)); have a2 := in_u i10; have a3 := in_u ((inv_F hI 0 1000 rfl e_46_1)); have a4 := in_u ((inv_F hI 0 1000 rfl e_46_2)); have a5 := in_u ((inv_F hI 448 28000 rfl e_30_0)); have a6 := in_u ((inv_F hI 0 32 rfl e_2_1)); have a7 := in_u ((inv_F hI 0 4000 rfl e_2_0)); have a8 := in_u ((in_c 0 rfl)); have oc := oc_136_1_46; by omega)); revert h9; decide) | exact ⟨by rw [← e_46_3]; exact (have a0 := in_u i23x1; have a1 := in_u ((inv_F hI 0 1000 rfl e_46_4)); have a2 := in_u i10; have a3 := in_u ((inv_F hI 0 1000 rfl e_46_1)); have a4 := in_u ((inv_F hI 0 1000 rfl e_46_2)); have a5 := in_u ((inv_F hI 448 28000 rfl e_30_0)); have a6 := in_u ((inv_F hI 0 32 rfl e_2_1)); have a7 := in_u ((inv_F hI 0 4000 rfl e_2_0)); have a8 := in_u ((in_c 0 rfl)); have oc := oc_136_1_46; by omega), by rw [← e_46_5], e_46_4⟩
        have n46g : ((Int32.ofInt 0)).toInt ≤ (cmA (u_46_5).toInt : Int) := by exact Int.natCast_nonneg _
        have n46h : ∀ a : Nat, TKN (s.1 47) (s.2.2.1 46 1).toInt.toNat a (s.2.2.1 46 4).toInt.toNat (s.2.2.1 46 2).toInt.toNat (s.2.2.1 46 3).toInt (s.2.2.1 46 5).toInt → (∀ j, j < ((Int32.ofInt 0)).toInt.toNat → ∃ q f, TSQ (s.1 47) (s.2.2.1 46 1).toInt.toNat a (j + 1) q f (cmK (u_46_5).toInt (j + 1)) (s.1 31 j).toInt) ∧ ∃ p k v, TSQ (s.1 47) (s.2.2.1 46 1).toInt.toNat a ((Int32.ofInt 0)).toInt.toNat p (u_46_2).toInt.toNat k v := by intro a ha; exact ⟨fun j hj => absurd hj (by have h9 : (Int32.ofInt 0).toInt.toNat = 0 := rfl; omega), _, _, _, by rw [e_46_2]; exact ha⟩
        have n46i : s.2.2.1 46 6 = s.2.2.1 46 6 ∧ s.2.2.1 46 7 = s.2.2.1 46 7 := by exact ⟨rfl, rfl⟩
        exact gg_w (by first | exact Nat.le_of_ble_eq_true rfl | omega) (gg_f (gf_cons rfl (gf_cons rfl (gf_cons rfl (gf_cons rfl (gf_cons rfl (gf_cons rfl gf_nil)))))) (ct46 6 s u_46_4 u_46_5 (Int32.ofInt 2) (Int32.ofInt 0) u_46_2 u_2_0 u_2_1 u_30_0 hI fr_rf (in_w 0 1000 (inv_F hI 0 1000 rfl e_46_4) rfl) (in_w (-1) 25 i23x1 rfl) (in_w 1 5 (in_c 2 rfl) rfl) (in_w 0 5 (in_c 0 rfl) rfl) e_46_2 e_2_0 e_2_1 e_30_0 n46 n46a n46b n46c n46d n46e n46f n46g n46h n46i (m_in 6 (in_w 0 5 (in_c 0 rfl) rfl) rfl)))
      · skip
        have i33 := z_ne 1 1 c33 i30a rfl
        refine g_aload_n 37 (gd rfl) rfl rfl ?_
        refine g_iconst 2 38 (gd rfl) rfl rfl ?_
        refine g_iconst 3 39 (gd rfl) rfl rfl ?_
        refine g_callv (X := _) (As := [.int (Int32.ofInt 2), .int (Int32.ofInt 3)]) (r := []) (b := A 46) (q := 46) 42 (gd rfl) rfl rfl rfl rfl rfl (ww_o rfl) (Nat.le_of_ble_eq_true rfl) (Nat.zero_le _) (Nat.zero_le _) (f_169_46 (by first | exact dq1 hd rfl | exact dq0 hd rfl | exact dq2 hd rfl | exact dq3 hd rfl | omega) hI (in_w 2 2 (in_c 2 rfl) rfl) (in_w 3 3 (in_c 3 rfl) rfl) e_46_3 e_46_4) (fun e u h => h) (fun v u h => ?_)
        obtain ⟨s39, hI39, hF39, z39, rfl, rfl, i39, p39⟩ := h
        show GG _ _ _ _ _ _ _ _ [.int z39] _ _ _
        have n42 : KL s39 := by have hL9 : Fr ([31], [], [(46, 2), (46, 3), (46, 4), (46, 5), (46, 6), (46, 7)], []) s s39 := (fr_tr rfl fr_rf hF39); exact kl_fr q_0 hL9 rfl
        have n42a : (z39).toInt ≠ 0 → (s39.2.2.1 30 0).toInt = nln s := by first | (intro h; exact absurd rfl h) | (intro h; exfalso; revert h; first | (unfold In at i39; omega) | (unfold In at i104; omega) | (unfold In at i144; omega))
        have n42b : (z39).toInt ≠ 0 → (s.2.2.1 2 0).toInt ≤ 3999 := by first | (intro h; exact absurd rfl h) | (intro h; exfalso; revert h; first | (unfold In at i39; omega) | (unfold In at i104; omega) | (unfold In at i144; omega))
        have n42c : ∀ k : Nat, (k : Int) < 7 * (s.2.2.1 2 0).toInt → s39.1 30 k = s.1 30 k := by have hL9 : Fr ([31], [], [(46, 2), (46, 3), (46, 4), (46, 5), (46, 6), (46, 7)], []) s s39 := (fr_tr rfl fr_rf hF39); exact fun k _ => by rw [hL9.1 30 rfl]
        have n42d : (z39).toInt ≠ 0 → ∀ a : Nat, TKN (s.1 47) (s.2.2.1 46 1).toInt.toNat a (s.2.2.1 46 4).toInt.toNat (s.2.2.1 46 2).toInt.toNat (s.2.2.1 46 3).toInt (s.2.2.1 46 5).toInt → ∃ c V, CMP (s.1 47) (s.2.2.1 46 1).toInt.toNat a (s.2.2.1 46 4).toInt.toNat c V (s39.2.2.1 46 2).toInt.toNat ∧ dkC (gvC s) c V ∧ gvC s39 = opC (gvC s) c V := by first | (intro h; exact absurd rfl h) | (intro h; exfalso; revert h; first | (unfold In at i39; omega) | (unfold In at i104; omega) | (unfold In at i144; omega))
        have n42e : (z39).toInt = 0 → ∀ a : Nat, TKN (s.1 47) (s.2.2.1 46 1).toInt.toNat a (s.2.2.1 46 4).toInt.toNat (s.2.2.1 46 2).toInt.toNat (s.2.2.1 46 3).toInt (s.2.2.1 46 5).toInt → CMX (s.1 47) (s.2.2.1 46 1).toInt.toNat a (s39.2.2.1 46 6).toInt (s39.2.2.1 46 7).toInt.toNat ∨ ∃ c V e, CMP (s.1 47) (s.2.2.1 46 1).toInt.toNat a (s39.2.2.1 46 7).toInt.toNat c V e ∧ ¬ dkC (gvC s) c V ∧ (s39.2.2.1 46 6).toInt = 4 := by intro _ a ha; refine Or.inl (Or.inl ⟨_, _, _, by rw [p39.2]; exact ha, q_4, ?_, p39.1⟩); first | (rintro ⟨h8, h9⟩; rw [← e_46_3] at h8; exact (have a0 := in_u i23x1; have a1 := in_u ((inv_F hI 0 1000 rfl e_46_4)); have a2 := in_u i10; have a3 := in_u ((inv_F hI 0 1000 rfl e_46_1)); have a4 := in_u ((inv_F hI 0 1000 rfl e_46_2)); have a5 := in_u ((inv_F hI 448 28000 rfl e_30_0)); have a6 := in_u ((inv_F hI 0 32 rfl e_2_1)); have a7 := in_u ((inv_F hI 0 4000 rfl e_2_0)); have oc := oc_136_1_46; by omega)) | (rintro ⟨h8, h9⟩; rw [← e_46_5] at h9; unfold cmI at h9; exact (have a0 := in_u i23x1; have a1 := in_u ((inv_F hI 0 1000 rfl e_46_4)); have a2 := in_u i10; have a3 := in_u ((inv_F hI 0 1000 rfl e_46_1)); have a4 := in_u ((inv_F hI 0 1000 rfl e_46_2)); have a5 := in_u ((inv_F hI 448 28000 rfl e_30_0)); have a6 := in_u ((inv_F hI 0 32 rfl e_2_1)); have a7 := in_u ((inv_F hI 0 4000 rfl e_2_0)); have oc := oc_136_1_46; by omega)) | (exfalso; have h9 := p30a (by exact (have a0 := in_u i23x1; have a1 := in_u ((inv_F hI 0 1000 rfl e_46_4)); have a2 := in_u i10; have a3 := in_u ((inv_F hI 0 1000 rfl e_46_1)); have a4 := in_u ((inv_F hI 0 1000 rfl e_46_2)); have a5 := in_u ((inv_F hI 448 28000 rfl e_30_0)); have a6 := in_u ((inv_F hI 0 32 rfl e_2_1)); have a7 := in_u ((inv_F hI 0 4000 rfl e_2_0)); have oc := oc_136_1_46; by omega)); revert h9; decide)
        have n42f : (z39).toInt ≠ 0 → TQ s39 := by first | (intro h; exact absurd rfl h) | (intro h; exfalso; revert h; first | (unfold In at i39; omega) | (unfold In at i104; omega) | (unfold In at i144; omega))
        have n42g : (z39).toInt ≠ 0 → s39.2.2.1 46 6 = s.2.2.1 46 6 ∧ s39.2.2.1 46 7 = s.2.2.1 46 7 := by first | (intro h; exact absurd rfl h) | (intro h; exfalso; revert h; first | (unfold In at i39; omega) | (unfold In at i104; omega) | (unfold In at i144; omega))
        have n42h : (z39).toInt = 0 → 0 ≤ (s39.2.2.1 46 7).toInt := by intro _; rw [p39.2, ← e_46_4]; exact (have a0 := in_u i23x1; have a1 := in_u ((inv_F hI 0 1000 rfl e_46_4)); have a2 := in_u i10; have a3 := in_u ((inv_F hI 0 1000 rfl e_46_1)); have a4 := in_u ((inv_F hI 0 1000 rfl e_46_2)); have a5 := in_u ((inv_F hI 448 28000 rfl e_30_0)); have a6 := in_u ((inv_F hI 0 32 rfl e_2_1)); have a7 := in_u ((inv_F hI 0 4000 rfl e_2_0)); have oc := oc_136_1_46; by omega)
        have n42i : (z39).toInt ≠ 0 → LGC s s39 := by first | (intro h; exact absurd rfl h) | (intro h; exfalso; revert h; first | (unfold In at i39; omega) | (unfold In at i104; omega) | (unfold In at i144; omega))
        have n42j : (u_46_2).toInt ≤ (u_46_1).toInt := by exact (have a0 := in_u i23x1; have a1 := in_u ((inv_F hI 0 1000 rfl e_46_4)); have a2 := in_u i10; have a3 := in_u ((inv_F hI 0 1000 rfl e_46_1)); have a4 := in_u ((inv_F hI 0 1000 rfl e_46_2)); have a5 := in_u ((inv_F hI 448 28000 rfl e_30_0)); have a6 := in_u ((inv_F hI 0 32 rfl e_2_1)); have a7 := in_u ((inv_F hI 0 4000 rfl e_2_0)); have oc := oc_136_1_46; by omega)
        have n42k : (s39.2.2.1 46 2).toInt ≤ (s39.2.2.1 46 1).toInt := by have b0 : u_46_2 = s39.2.2.1 46 2 := fr_F (e_46_2) hF39 rfl; have b1 : u_46_1 = s39.2.2.1 46 1 := fr_F (e_46_1) hF39 rfl; rw [← b0, ← b1]; exact n42j
        have n42l : (u_2_0).toInt ≤ (u_2_0).toInt := by exact (have a0 := in_u i23x1; have a1 := in_u ((inv_F hI 0 1000 rfl e_46_4)); have a2 := in_u i10; have a3 := in_u ((inv_F hI 0 1000 rfl e_46_1)); have a4 := in_u ((inv_F hI 0 1000 rfl e_46_2)); have a5 := in_u ((inv_F hI 448 28000 rfl e_30_0)); have a6 := in_u ((inv_F hI 0 32 rfl e_2_1)); have a7 := in_u ((inv_F hI 0 4000 rfl e_2_0)); have oc := oc_136_1_46; by omega)
        have n42m : (s.2.2.1 2 0).toInt ≤ (s39.2.2.1 2 0).toInt := by have b0 : u_2_0 = s39.2.2.1 2 0 := fr_F (e_2_0) hF39 rfl; first | (rw [← b0, ← e_2_0]; exact n42l) | (rw [← b0]; exact n42l)
        exact g_ireturn (gd rfl) rfl (nb01 (in_w 0 1 i39 rfl)) (hP _ _ ⟨(A 30), s39, hI39, (fr_tr rfl fr_rf hF39), n42k, n42m, z39, rfl, (by rw [ax_id]), in_w 0 1 i39 rfl, n42, n42a, n42b, n42c, n42d, n42e, n42f, n42g, n42h, n42i⟩)
    · skip
      have i23x1 := sw_eq c23x1
      refine g_ldcs 1 46 (gd rfl) rfl rfl ?_
      refine g_areturn (gd rfl) rfl (hp23 _ _ ?_)
      show GG _ _ _ _ _ _ _ _ [.ref (zq Z (Int32.ofInt 1))] _ _ _
      refine g_astore 28 (gd rfl) rfl (Nat.le_of_ble_eq_true rfl) ?_
      refine g_aload 30 (gd rfl) rfl rfl ?_
      have i30 : In (Int32.ofInt 1) 0 6 := in_w 0 6 (in_c 1 rfl) rfl
      refine g_callS (X := _) (As := []) (r := []) (x := (Int32.ofInt 1)) 33 (gd rfl) rfl rfl rfl zm_428 rfl rfl rfl i30 (Nat.le_of_ble_eq_true rfl) (f_428 i30 (by omega)) (fun e u h => h) (fun v u h => ?_)
      obtain ⟨z30, rfl, rfl, i30a, p30, p30a⟩ := h
      show GG _ _ _ _ _ _ _ _ [.int z30] _ _ _
      refine g_if_eq 36 43 (gd rfl) rfl rfl (fun c33 => ?_) (fun c33 => ?_)
      · skip
        have i33 := z_eq 0 0 c33 i30a rfl
        refine g_iconst 0 44 (gd rfl) rfl rfl ?_
        refine g_istore 46 (gd rfl) rfl (Nat.le_of_ble_eq_true rfl) ?_
        have n46 : (u_46_2).toInt ≤ (u_46_1).toInt := by exact (have a0 := in_u i23x1; have a1 := in_u ((inv_F hI 0 1000 rfl e_46_4)); have a2 := in_u i10; have a3 := in_u ((inv_F hI 0 1000 rfl e_46_1)); have a4 := in_u ((inv_F hI 0 1000 rfl e_46_2)); have a5 := in_u ((inv_F hI 448 28000 rfl e_30_0)); have a6 := in_u ((inv_F hI 0 32 rfl e_2_1)); have a7 := in_u ((inv_F hI 0 4000 rfl e_2_0)); have a8 := in_u ((in_c 0 rfl)); have oc := oc_136_1_46; by omega)
        have n46a : (u_2_0).toInt ≤ (u_2_0).toInt := by exact (have a0 := in_u i23x1; have a1 := in_u ((inv_F hI 0 1000 rfl e_46_4)); have a2 := in_u i10; have a3 := in_u ((inv_F hI 0 1000 rfl e_46_1)); have a4 := in_u ((inv_F hI 0 1000 rfl e_46_2)); have a5 := in_u ((inv_F hI 448 28000 rfl e_30_0)); have a6 := in_u ((inv_F hI 0 32 rfl e_2_1)); have a7 := in_u ((inv_F hI 0 4000 rfl e_2_0)); have a8 := in_u ((in_c 0 rfl)); have oc := oc_136_1_46; by omega)
        have n46b : (u_46_5).toInt = 13 → ((Int32.ofInt 1)).toInt = 1 := by intro h; first | decide | (exfalso; exact (have a0 := in_u i23x1; have a1 := in_u ((inv_F hI 0 1000 rfl e_46_4)); have a2 := in_u i10; have a3 := in_u ((inv_F hI 0 1000 rfl e_46_1)); have a4 := in_u ((inv_F hI 0 1000 rfl e_46_2)); have a5 := in_u ((inv_F hI 448 28000 rfl e_30_0)); have a6 := in_u ((inv_F hI 0 32 rfl e_2_1)); have a7 := in_u ((inv_F hI 0 4000 rfl e_2_0)); have a8 := in_u ((in_c 0 rfl)); have oc := oc_136_1_46; by omega))
        have n46c : ((Int32.ofInt 1)).toInt = 1 → 1 ≤ ((Int32.ofInt 0)).toInt → In (s.1 31 0) 0 25 := by intro _ h; exfalso; revert h; decide
        have n46d : Fr ([31], [], [(46, 2), (46, 3), (46, 4), (46, 5), (46, 6), (46, 7)], []) s s := by exact fr_rf
        have n46e : SHQ (u_46_5).toInt ((Int32.ofInt 1)).toInt := by first | (exfalso; have h9 := p30 (by exact (have a0 := in_u i23x1; have a1 := in_u ((inv_F hI 0 1000 rfl e_46_4)); have a2 := in_u i10; have a3 := in_u ((inv_F hI 0 1000 rfl e_46_1)); have a4 := in_u ((inv_F hI 0 1000 rfl e_46_2)); have a5 := in_u ((inv_F hI 448 28000 rfl e_30_0)); have a6 := in_u ((inv_F hI 0 32 rfl e_2_1)); have a7 := in_u ((inv_F hI 0 4000 rfl e_2_0)); have a8 := in_u ((in_c 0 rfl)); have oc := oc_136_1_46; by omega)); revert h9; decide) | exact Or.inl ⟨by exact (have a0 := in_u i23x1; have a1 := in_u ((inv_F hI 0 1000 rfl e_46_4)); have a2 := in_u i10; have a3 := in_u ((inv_F hI 0 1000 rfl e_46_1)); have a4 := in_u ((inv_F hI 0 1000 rfl e_46_2)); have a5 := in_u ((inv_F hI 448 28000 rfl e_30_0)); have a6 := in_u ((inv_F hI 0 32 rfl e_2_1)); have a7 := in_u ((inv_F hI 0 4000 rfl e_2_0)); have a8 := in_u ((in_c 0 rfl)); have oc := oc_136_1_46; by omega), by decide⟩ | exact Or.inr (Or.inl ⟨by exact (have a0 := in_u i23x1; have a1 := in_u ((inv_F hI 0 1000 rfl e_46_4)); have a2 := in_u i10; have a3 := in_u ((inv_F hI 0 1000 rfl e_46_1)); have a4 := in_u ((inv_F hI 0 1000 rfl e_46_2)); have a5 := in_u ((inv_F hI 448 28000 rfl e_30_0)); have a6 := in_u ((inv_F hI 0 32 rfl e_2_1)); have a7 := in_u ((inv_F hI 0 4000 rfl e_2_0)); have a8 := in_u ((in_c 0 rfl)); have oc := oc_136_1_46; by omega), by decide⟩) | exact Or.inr (Or.inr (Or.inl ⟨by exact (have a0 := in_u i23x1; have a1 := in_u ((inv_F hI 0 1000 rfl e_46_4)); have a2 := in_u i10; have a3 := in_u ((inv_F hI 0 1000 rfl e_46_1)); have a4 := in_u ((inv_F hI 0 1000 rfl e_46_2)); have a5 := in_u ((inv_F hI 448 28000 rfl e_30_0)); have a6 := in_u ((inv_F hI 0 32 rfl e_2_1)); have a7 := in_u ((inv_F hI 0 4000 rfl e_2_0)); have a8 := in_u ((in_c 0 rfl)); have oc := oc_136_1_46; by omega), by decide⟩)) | exact Or.inr (Or.inr (Or.inr ⟨by exact (have a0 := in_u i23x1; have a1 := in_u ((inv_F hI 0 1000 rfl e_46_4)); have a2 := in_u i10; have a3 := in_u ((inv_F hI 0 1000 rfl e_46_1)); have a4 := in_u ((inv_F hI 0 1000 rfl e_46_2)); have a5 := in_u ((inv_F hI 448 28000 rfl e_30_0)); have a6 := in_u ((inv_F hI 0 32 rfl e_2_1)); have a7 := in_u ((inv_F hI 0 4000 rfl e_2_0)); have a8 := in_u ((in_c 0 rfl)); have oc := oc_136_1_46; by omega), by decide⟩))
        have n46f : (s.2.2.1 46 3).toInt = 1 ∧ (s.2.2.1 46 5).toInt = (u_46_5).toInt ∧ (u_46_4) = s.2.2.1 46 4 := by first | (exfalso; have h9 := p30 (by exact (have a0 := in_u i23x1; have a1 := in_u ((inv_F hI 0 1000 rfl e_46_4)); have a2 := in_u i10; have a3 := in_u ((inv_F hI 0 1000 rfl e_46_1)); have a4 := in_u ((inv_F hI 0 1000 rfl e_46_2)); have a5 := in_u ((inv_F hI 448 28000 rfl e_30_0)); have a6 := in_u ((inv_F hI 0 32 rfl e_2_1)); have a7 := in_u ((inv_F hI 0 4000 rfl e_2_0)); have a8 := in_u ((in_c 0 rfl)); have oc := oc_136_1_46; by omega)); revert h9; decide) | exact ⟨by rw [← e_46_3]; exact (have a0 := in_u i23x1; have a1 := in_u ((inv_F hI 0 1000 rfl e_46_4)); have a2 := in_u i10; have a3 := in_u ((inv_F hI 0 1000 rfl e_46_1)); have a4 := in_u ((inv_F hI 0 1000 rfl e_46_2)); have a5 := in_u ((inv_F hI 448 28000 rfl e_30_0)); have a6 := in_u ((inv_F hI 0 32 rfl e_2_1)); have a7 := in_u ((inv_F hI 0 4000 rfl e_2_0)); have a8 := in_u ((in_c 0 rfl)); have oc := oc_136_1_46; by omega), by rw [← e_46_5], e_46_4⟩
        have n46g : ((Int32.ofInt 0)).toInt ≤ (cmA (u_46_5).toInt : Int) := by exact Int.natCast_nonneg _
        have n46h : ∀ a : Nat, TKN (s.1 47) (s.2.2.1 46 1).toInt.toNat a (s.2.2.1 46 4).toInt.toNat (s.2.2.1 46 2).toInt.toNat (s.2.2.1 46 3).toInt (s.2.2.1 46 5).toInt → (∀ j, j < ((Int32.ofInt 0)).toInt.toNat → ∃ q f, TSQ (s.1 47) (s.2.2.1 46 1).toInt.toNat a (j + 1) q f (cmK (u_46_5).toInt (j + 1)) (s.1 31 j).toInt) ∧ ∃ p k v, TSQ (s.1 47) (s.2.2.1 46 1).toInt.toNat a ((Int32.ofInt 0)).toInt.toNat p (u_46_2).toInt.toNat k v := by intro a ha; exact ⟨fun j hj => absurd hj (by have h9 : (Int32.ofInt 0).toInt.toNat = 0 := rfl; omega), _, _, _, by rw [e_46_2]; exact ha⟩
        have n46i : s.2.2.1 46 6 = s.2.2.1 46 6 ∧ s.2.2.1 46 7 = s.2.2.1 46 7 := by exact ⟨rfl, rfl⟩
        exact gg_w (by first | exact Nat.le_of_ble_eq_true rfl | omega) (gg_f (gf_cons rfl (gf_cons rfl (gf_cons rfl (gf_cons rfl (gf_cons rfl (gf_cons rfl gf_nil)))))) (ct46 6 s u_46_4 u_46_5 (Int32.ofInt 1) (Int32.ofInt 0) u_46_2 u_2_0 u_2_1 u_30_0 hI fr_rf (in_w 0 1000 (inv_F hI 0 1000 rfl e_46_4) rfl) (in_w (-1) 25 i23x1 rfl) (in_w 1 5 (in_c 1 rfl) rfl) (in_w 0 5 (in_c 0 rfl) rfl) e_46_2 e_2_0 e_2_1 e_30_0 n46 n46a n46b n46c n46d n46e n46f n46g n46h n46i (m_in 6 (in_w 0 5 (in_c 0 rfl) rfl) rfl)))
      · skip
        have i33 := z_ne 1 1 c33 i30a rfl
        refine g_aload_n 37 (gd rfl) rfl rfl ?_
        refine g_iconst 2 38 (gd rfl) rfl rfl ?_
        refine g_iconst 3 39 (gd rfl) rfl rfl ?_
        refine g_callv (X := _) (As := [.int (Int32.ofInt 2), .int (Int32.ofInt 3)]) (r := []) (b := A 46) (q := 46) 42 (gd rfl) rfl rfl rfl rfl rfl (ww_o rfl) (Nat.le_of_ble_eq_true rfl) (Nat.zero_le _) (Nat.zero_le _) (f_169_46 (by first | exact dq1 hd rfl | exact dq0 hd rfl | exact dq2 hd rfl | exact dq3 hd rfl | omega) hI (in_w 2 2 (in_c 2 rfl) rfl) (in_w 3 3 (in_c 3 rfl) rfl) e_46_3 e_46_4) (fun e u h => h) (fun v u h => ?_)
        obtain ⟨s39, hI39, hF39, z39, rfl, rfl, i39, p39⟩ := h
        show GG _ _ _ _ _ _ _ _ [.int z39] _ _ _
        have n42 : KL s39 := by have hL9 : Fr ([31], [], [(46, 2), (46, 3), (46, 4), (46, 5), (46, 6), (46, 7)], []) s s39 := (fr_tr rfl fr_rf hF39); exact kl_fr q_0 hL9 rfl
        have n42a : (z39).toInt ≠ 0 → (s39.2.2.1 30 0).toInt = nln s := by first | (intro h; exact absurd rfl h) | (intro h; exfalso; revert h; first | (unfold In at i39; omega) | (unfold In at i104; omega) | (unfold In at i144; omega))
        have n42b : (z39).toInt ≠ 0 → (s.2.2.1 2 0).toInt ≤ 3999 := by first | (intro h; exact absurd rfl h) | (intro h; exfalso; revert h; first | (unfold In at i39; omega) | (unfold In at i104; omega) | (unfold In at i144; omega))
        have n42c : ∀ k : Nat, (k : Int) < 7 * (s.2.2.1 2 0).toInt → s39.1 30 k = s.1 30 k := by have hL9 : Fr ([31], [], [(46, 2), (46, 3), (46, 4), (46, 5), (46, 6), (46, 7)], []) s s39 := (fr_tr rfl fr_rf hF39); exact fun k _ => by rw [hL9.1 30 rfl]
        have n42d : (z39).toInt ≠ 0 → ∀ a : Nat, TKN (s.1 47) (s.2.2.1 46 1).toInt.toNat a (s.2.2.1 46 4).toInt.toNat (s.2.2.1 46 2).toInt.toNat (s.2.2.1 46 3).toInt (s.2.2.1 46 5).toInt → ∃ c V, CMP (s.1 47) (s.2.2.1 46 1).toInt.toNat a (s.2.2.1 46 4).toInt.toNat c V (s39.2.2.1 46 2).toInt.toNat ∧ dkC (gvC s) c V ∧ gvC s39 = opC (gvC s) c V := by first | (intro h; exact absurd rfl h) | (intro h; exfalso; revert h; first | (unfold In at i39; omega) | (unfold In at i104; omega) | (unfold In at i144; omega))
        have n42e : (z39).toInt = 0 → ∀ a : Nat, TKN (s.1 47) (s.2.2.1 46 1).toInt.toNat a (s.2.2.1 46 4).toInt.toNat (s.2.2.1 46 2).toInt.toNat (s.2.2.1 46 3).toInt (s.2.2.1 46 5).toInt → CMX (s.1 47) (s.2.2.1 46 1).toInt.toNat a (s39.2.2.1 46 6).toInt (s39.2.2.1 46 7).toInt.toNat ∨ ∃ c V e, CMP (s.1 47) (s.2.2.1 46 1).toInt.toNat a (s39.2.2.1 46 7).toInt.toNat c V e ∧ ¬ dkC (gvC s) c V ∧ (s39.2.2.1 46 6).toInt = 4 := by intro _ a ha; refine Or.inl (Or.inl ⟨_, _, _, by rw [p39.2]; exact ha, q_4, ?_, p39.1⟩); first | (rintro ⟨h8, h9⟩; rw [← e_46_3] at h8; exact (have a0 := in_u i23x1; have a1 := in_u ((inv_F hI 0 1000 rfl e_46_4)); have a2 := in_u i10; have a3 := in_u ((inv_F hI 0 1000 rfl e_46_1)); have a4 := in_u ((inv_F hI 0 1000 rfl e_46_2)); have a5 := in_u ((inv_F hI 448 28000 rfl e_30_0)); have a6 := in_u ((inv_F hI 0 32 rfl e_2_1)); have a7 := in_u ((inv_F hI 0 4000 rfl e_2_0)); have oc := oc_136_1_46; by omega)) | (rintro ⟨h8, h9⟩; rw [← e_46_5] at h9; unfold cmI at h9; exact (have a0 := in_u i23x1; have a1 := in_u ((inv_F hI 0 1000 rfl e_46_4)); have a2 := in_u i10; have a3 := in_u ((inv_F hI 0 1000 rfl e_46_1)); have a4 := in_u ((inv_F hI 0 1000 rfl e_46_2)); have a5 := in_u ((inv_F hI 448 28000 rfl e_30_0)); have a6 := in_u ((inv_F hI 0 32 rfl e_2_1)); have a7 := in_u ((inv_F hI 0 4000 rfl e_2_0)); have oc := oc_136_1_46; by omega)) | (exfalso; have h9 := p30a (by exact (have a0 := in_u i23x1; have a1 := in_u ((inv_F hI 0 1000 rfl e_46_4)); have a2 := in_u i10; have a3 := in_u ((inv_F hI 0 1000 rfl e_46_1)); have a4 := in_u ((inv_F hI 0 1000 rfl e_46_2)); have a5 := in_u ((inv_F hI 448 28000 rfl e_30_0)); have a6 := in_u ((inv_F hI 0 32 rfl e_2_1)); have a7 := in_u ((inv_F hI 0 4000 rfl e_2_0)); have oc := oc_136_1_46; by omega)); revert h9; decide)
        have n42f : (z39).toInt ≠ 0 → TQ s39 := by first | (intro h; exact absurd rfl h) | (intro h; exfalso; revert h; first | (unfold In at i39; omega) | (unfold In at i104; omega) | (unfold In at i144; omega))
        have n42g : (z39).toInt ≠ 0 → s39.2.2.1 46 6 = s.2.2.1 46 6 ∧ s39.2.2.1 46 7 = s.2.2.1 46 7 := by first | (intro h; exact absurd rfl h) | (intro h; exfalso; revert h; first | (unfold In at i39; omega) | (unfold In at i104; omega) | (unfold In at i144; omega))
        have n42h : (z39).toInt = 0 → 0 ≤ (s39.2.2.1 46 7).toInt := by intro _; rw [p39.2, ← e_46_4]; exact (have a0 := in_u i23x1; have a1 := in_u ((inv_F hI 0 1000 rfl e_46_4)); have a2 := in_u i10; have a3 := in_u ((inv_F hI 0 1000 rfl e_46_1)); have a4 := in_u ((inv_F hI 0 1000 rfl e_46_2)); have a5 := in_u ((inv_F hI 448 28000 rfl e_30_0)); have a6 := in_u ((inv_F hI 0 32 rfl e_2_1)); have a7 := in_u ((inv_F hI 0 4000 rfl e_2_0)); have oc := oc_136_1_46; by omega)
        have n42i : (z39).toInt ≠ 0 → LGC s s39 := by first | (intro h; exact absurd rfl h) | (intro h; exfalso; revert h; first | (unfold In at i39; omega) | (unfold In at i104; omega) | (unfold In at i144; omega))
        have n42j : (u_46_2).toInt ≤ (u_46_1).toInt := by exact (have a0 := in_u i23x1; have a1 := in_u ((inv_F hI 0 1000 rfl e_46_4)); have a2 := in_u i10; have a3 := in_u ((inv_F hI 0 1000 rfl e_46_1)); have a4 := in_u ((inv_F hI 0 1000 rfl e_46_2)); have a5 := in_u ((inv_F hI 448 28000 rfl e_30_0)); have a6 := in_u ((inv_F hI 0 32 rfl e_2_1)); have a7 := in_u ((inv_F hI 0 4000 rfl e_2_0)); have oc := oc_136_1_46; by omega)
        have n42k : (s39.2.2.1 46 2).toInt ≤ (s39.2.2.1 46 1).toInt := by have b0 : u_46_2 = s39.2.2.1 46 2 := fr_F (e_46_2) hF39 rfl; have b1 : u_46_1 = s39.2.2.1 46 1 := fr_F (e_46_1) hF39 rfl; rw [← b0, ← b1]; exact n42j
        have n42l : (u_2_0).toInt ≤ (u_2_0).toInt := by exact (have a0 := in_u i23x1; have a1 := in_u ((inv_F hI 0 1000 rfl e_46_4)); have a2 := in_u i10; have a3 := in_u ((inv_F hI 0 1000 rfl e_46_1)); have a4 := in_u ((inv_F hI 0 1000 rfl e_46_2)); have a5 := in_u ((inv_F hI 448 28000 rfl e_30_0)); have a6 := in_u ((inv_F hI 0 32 rfl e_2_1)); have a7 := in_u ((inv_F hI 0 4000 rfl e_2_0)); have oc := oc_136_1_46; by omega)
        have n42m : (s.2.2.1 2 0).toInt ≤ (s39.2.2.1 2 0).toInt := by have b0 : u_2_0 = s39.2.2.1 2 0 := fr_F (e_2_0) hF39 rfl; first | (rw [← b0, ← e_2_0]; exact n42l) | (rw [← b0]; exact n42l)
        exact g_ireturn (gd rfl) rfl (nb01 (in_w 0 1 i39 rfl)) (hP _ _ ⟨(A 30), s39, hI39, (fr_tr rfl fr_rf hF39), n42k, n42m, z39, rfl, (by rw [ax_id]), in_w 0 1 i39 rfl, n42, n42a, n42b, n42c, n42d, n42e, n42f, n42g, n42h, n42i⟩)
    · skip
      have i23x1 := sw_eq c23x1
      refine g_ldcs 3 52 (gd rfl) rfl rfl ?_
      refine g_areturn (gd rfl) rfl (hp23 _ _ ?_)
      show GG _ _ _ _ _ _ _ _ [.ref (zq Z (Int32.ofInt 3))] _ _ _
      refine g_astore 28 (gd rfl) rfl (Nat.le_of_ble_eq_true rfl) ?_
      refine g_aload 30 (gd rfl) rfl rfl ?_
      have i30 : In (Int32.ofInt 3) 0 6 := in_w 0 6 (in_c 3 rfl) rfl
      refine g_callS (X := _) (As := []) (r := []) (x := (Int32.ofInt 3)) 33 (gd rfl) rfl rfl rfl zm_428 rfl rfl rfl i30 (Nat.le_of_ble_eq_true rfl) (f_428 i30 (by omega)) (fun e u h => h) (fun v u h => ?_)
      obtain ⟨z30, rfl, rfl, i30a, p30, p30a⟩ := h
      show GG _ _ _ _ _ _ _ _ [.int z30] _ _ _
      refine g_if_eq 36 43 (gd rfl) rfl rfl (fun c33 => ?_) (fun c33 => ?_)
      · skip
        have i33 := z_eq 0 0 c33 i30a rfl
        refine g_iconst 0 44 (gd rfl) rfl rfl ?_
        refine g_istore 46 (gd rfl) rfl (Nat.le_of_ble_eq_true rfl) ?_
        have n46 : (u_46_2).toInt ≤ (u_46_1).toInt := by exact (have a0 := in_u i23x1; have a1 := in_u ((inv_F hI 0 1000 rfl e_46_4)); have a2 := in_u i10; have a3 := in_u ((inv_F hI 0 1000 rfl e_46_1)); have a4 := in_u ((inv_F hI 0 1000 rfl e_46_2)); have a5 := in_u ((inv_F hI 448 28000 rfl e_30_0)); have a6 := in_u ((inv_F hI 0 32 rfl e_2_1)); have a7 := in_u ((inv_F hI 0 4000 rfl e_2_0)); have a8 := in_u ((in_c 0 rfl)); have oc := oc_136_1_46; by omega)
        have n46a : (u_2_0).toInt ≤ (u_2_0).toInt := by exact (have a0 := in_u i23x1; have a1 := in_u ((inv_F hI 0 1000 rfl e_46_4)); have a2 := in_u i10; have a3 := in_u ((inv_F hI 0 1000 rfl e_46_1)); have a4 := in_u ((inv_F hI 0 1000 rfl e_46_2)); have a5 := in_u ((inv_F hI 448 28000 rfl e_30_0)); have a6 := in_u ((inv_F hI 0 32 rfl e_2_1)); have a7 := in_u ((inv_F hI 0 4000 rfl e_2_0)); have a8 := in_u ((in_c 0 rfl)); have oc := oc_136_1_46; by omega)
        have n46b : (u_46_5).toInt = 13 → ((Int32.ofInt 3)).toInt = 1 := by intro h; first | decide | (exfalso; exact (have a0 := in_u i23x1; have a1 := in_u ((inv_F hI 0 1000 rfl e_46_4)); have a2 := in_u i10; have a3 := in_u ((inv_F hI 0 1000 rfl e_46_1)); have a4 := in_u ((inv_F hI 0 1000 rfl e_46_2)); have a5 := in_u ((inv_F hI 448 28000 rfl e_30_0)); have a6 := in_u ((inv_F hI 0 32 rfl e_2_1)); have a7 := in_u ((inv_F hI 0 4000 rfl e_2_0)); have a8 := in_u ((in_c 0 rfl)); have oc := oc_136_1_46; by omega))
        have n46c : ((Int32.ofInt 3)).toInt = 1 → 1 ≤ ((Int32.ofInt 0)).toInt → In (s.1 31 0) 0 25 := by intro _ h; exfalso; revert h; decide
        have n46d : Fr ([31], [], [(46, 2), (46, 3), (46, 4), (46, 5), (46, 6), (46, 7)], []) s s := by exact fr_rf
        have n46e : SHQ (u_46_5).toInt ((Int32.ofInt 3)).toInt := by first | (exfalso; have h9 := p30 (by exact (have a0 := in_u i23x1; have a1 := in_u ((inv_F hI 0 1000 rfl e_46_4)); have a2 := in_u i10; have a3 := in_u ((inv_F hI 0 1000 rfl e_46_1)); have a4 := in_u ((inv_F hI 0 1000 rfl e_46_2)); have a5 := in_u ((inv_F hI 448 28000 rfl e_30_0)); have a6 := in_u ((inv_F hI 0 32 rfl e_2_1)); have a7 := in_u ((inv_F hI 0 4000 rfl e_2_0)); have a8 := in_u ((in_c 0 rfl)); have oc := oc_136_1_46; by omega)); revert h9; decide) | exact Or.inl ⟨by exact (have a0 := in_u i23x1; have a1 := in_u ((inv_F hI 0 1000 rfl e_46_4)); have a2 := in_u i10; have a3 := in_u ((inv_F hI 0 1000 rfl e_46_1)); have a4 := in_u ((inv_F hI 0 1000 rfl e_46_2)); have a5 := in_u ((inv_F hI 448 28000 rfl e_30_0)); have a6 := in_u ((inv_F hI 0 32 rfl e_2_1)); have a7 := in_u ((inv_F hI 0 4000 rfl e_2_0)); have a8 := in_u ((in_c 0 rfl)); have oc := oc_136_1_46; by omega), by decide⟩ | exact Or.inr (Or.inl ⟨by exact (have a0 := in_u i23x1; have a1 := in_u ((inv_F hI 0 1000 rfl e_46_4)); have a2 := in_u i10; have a3 := in_u ((inv_F hI 0 1000 rfl e_46_1)); have a4 := in_u ((inv_F hI 0 1000 rfl e_46_2)); have a5 := in_u ((inv_F hI 448 28000 rfl e_30_0)); have a6 := in_u ((inv_F hI 0 32 rfl e_2_1)); have a7 := in_u ((inv_F hI 0 4000 rfl e_2_0)); have a8 := in_u ((in_c 0 rfl)); have oc := oc_136_1_46; by omega), by decide⟩) | exact Or.inr (Or.inr (Or.inl ⟨by exact (have a0 := in_u i23x1; have a1 := in_u ((inv_F hI 0 1000 rfl e_46_4)); have a2 := in_u i10; have a3 := in_u ((inv_F hI 0 1000 rfl e_46_1)); have a4 := in_u ((inv_F hI 0 1000 rfl e_46_2)); have a5 := in_u ((inv_F hI 448 28000 rfl e_30_0)); have a6 := in_u ((inv_F hI 0 32 rfl e_2_1)); have a7 := in_u ((inv_F hI 0 4000 rfl e_2_0)); have a8 := in_u ((in_c 0 rfl)); have oc := oc_136_1_46; by omega), by decide⟩)) | exact Or.inr (Or.inr (Or.inr ⟨by exact (have a0 := in_u i23x1; have a1 := in_u ((inv_F hI 0 1000 rfl e_46_4)); have a2 := in_u i10; have a3 := in_u ((inv_F hI 0 1000 rfl e_46_1)); have a4 := in_u ((inv_F hI 0 1000 rfl e_46_2)); have a5 := in_u ((inv_F hI 448 28000 rfl e_30_0)); have a6 := in_u ((inv_F hI 0 32 rfl e_2_1)); have a7 := in_u ((inv_F hI 0 4000 rfl e_2_0)); have a8 := in_u ((in_c 0 rfl)); have oc := oc_136_1_46; by omega), by decide⟩))
        have n46f : (s.2.2.1 46 3).toInt = 1 ∧ (s.2.2.1 46 5).toInt = (u_46_5).toInt ∧ (u_46_4) = s.2.2.1 46 4 := by first | (exfalso; have h9 := p30 (by exact (have a0 := in_u i23x1; have a1 := in_u ((inv_F hI 0 1000 rfl e_46_4)); have a2 := in_u i10; have a3 := in_u ((inv_F hI 0 1000 rfl e_46_1)); have a4 := in_u ((inv_F hI 0 1000 rfl e_46_2)); have a5 := in_u ((inv_F hI 448 28000 rfl e_30_0)); have a6 := in_u ((inv_F hI 0 32 rfl e_2_1)); have a7 := in_u ((inv_F hI 0 4000 rfl e_2_0)); have a8 := in_u ((in_c 0 rfl)); have oc := oc_136_1_46; by omega)); revert h9; decide) | exact ⟨by rw [← e_46_3]; exact (have a0 := in_u i23x1; have a1 := in_u ((inv_F hI 0 1000 rfl e_46_4)); have a2 := in_u i10; have a3 := in_u ((inv_F hI 0 1000 rfl e_46_1)); have a4 := in_u ((inv_F hI 0 1000 rfl e_46_2)); have a5 := in_u ((inv_F hI 448 28000 rfl e_30_0)); have a6 := in_u ((inv_F hI 0 32 rfl e_2_1)); have a7 := in_u ((inv_F hI 0 4000 rfl e_2_0)); have a8 := in_u ((in_c 0 rfl)); have oc := oc_136_1_46; by omega), by rw [← e_46_5], e_46_4⟩
        have n46g : ((Int32.ofInt 0)).toInt ≤ (cmA (u_46_5).toInt : Int) := by exact Int.natCast_nonneg _
        have n46h : ∀ a : Nat, TKN (s.1 47) (s.2.2.1 46 1).toInt.toNat a (s.2.2.1 46 4).toInt.toNat (s.2.2.1 46 2).toInt.toNat (s.2.2.1 46 3).toInt (s.2.2.1 46 5).toInt → (∀ j, j < ((Int32.ofInt 0)).toInt.toNat → ∃ q f, TSQ (s.1 47) (s.2.2.1 46 1).toInt.toNat a (j + 1) q f (cmK (u_46_5).toInt (j + 1)) (s.1 31 j).toInt) ∧ ∃ p k v, TSQ (s.1 47) (s.2.2.1 46 1).toInt.toNat a ((Int32.ofInt 0)).toInt.toNat p (u_46_2).toInt.toNat k v := by intro a ha; exact ⟨fun j hj => absurd hj (by have h9 : (Int32.ofInt 0).toInt.toNat = 0 := rfl; omega), _, _, _, by rw [e_46_2]; exact ha⟩
        have n46i : s.2.2.1 46 6 = s.2.2.1 46 6 ∧ s.2.2.1 46 7 = s.2.2.1 46 7 := by exact ⟨rfl, rfl⟩
        exact gg_w (by first | exact Nat.le_of_ble_eq_true rfl | omega) (gg_f (gf_cons rfl (gf_cons rfl (gf_cons rfl (gf_cons rfl (gf_cons rfl (gf_cons rfl gf_nil)))))) (ct46 6 s u_46_4 u_46_5 (Int32.ofInt 3) (Int32.ofInt 0) u_46_2 u_2_0 u_2_1 u_30_0 hI fr_rf (in_w 0 1000 (inv_F hI 0 1000 rfl e_46_4) rfl) (in_w (-1) 25 i23x1 rfl) (in_w 1 5 (in_c 3 rfl) rfl) (in_w 0 5 (in_c 0 rfl) rfl) e_46_2 e_2_0 e_2_1 e_30_0 n46 n46a n46b n46c n46d n46e n46f n46g n46h n46i (m_in 6 (in_w 0 5 (in_c 0 rfl) rfl) rfl)))
      · skip
        have i33 := z_ne 1 1 c33 i30a rfl
        refine g_aload_n 37 (gd rfl) rfl rfl ?_
        refine g_iconst 2 38 (gd rfl) rfl rfl ?_
        refine g_iconst 3 39 (gd rfl) rfl rfl ?_
        refine g_callv (X := _) (As := [.int (Int32.ofInt 2), .int (Int32.ofInt 3)]) (r := []) (b := A 46) (q := 46) 42 (gd rfl) rfl rfl rfl rfl rfl (ww_o rfl) (Nat.le_of_ble_eq_true rfl) (Nat.zero_le _) (Nat.zero_le _) (f_169_46 (by first | exact dq1 hd rfl | exact dq0 hd rfl | exact dq2 hd rfl | exact dq3 hd rfl | omega) hI (in_w 2 2 (in_c 2 rfl) rfl) (in_w 3 3 (in_c 3 rfl) rfl) e_46_3 e_46_4) (fun e u h => h) (fun v u h => ?_)
        obtain ⟨s39, hI39, hF39, z39, rfl, rfl, i39, p39⟩ := h
        show GG _ _ _ _ _ _ _ _ [.int z39] _ _ _
        have n42 : KL s39 := by have hL9 : Fr ([31], [], [(46, 2), (46, 3), (46, 4), (46, 5), (46, 6), (46, 7)], []) s s39 := (fr_tr rfl fr_rf hF39); exact kl_fr q_0 hL9 rfl
        have n42a : (z39).toInt ≠ 0 → (s39.2.2.1 30 0).toInt = nln s := by first | (intro h; exact absurd rfl h) | (intro h; exfalso; revert h; first | (unfold In at i39; omega) | (unfold In at i104; omega) | (unfold In at i144; omega))
        have n42b : (z39).toInt ≠ 0 → (s.2.2.1 2 0).toInt ≤ 3999 := by first | (intro h; exact absurd rfl h) | (intro h; exfalso; revert h; first | (unfold In at i39; omega) | (unfold In at i104; omega) | (unfold In at i144; omega))
        have n42c : ∀ k : Nat, (k : Int) < 7 * (s.2.2.1 2 0).toInt → s39.1 30 k = s.1 30 k := by have hL9 : Fr ([31], [], [(46, 2), (46, 3), (46, 4), (46, 5), (46, 6), (46, 7)], []) s s39 := (fr_tr rfl fr_rf hF39); exact fun k _ => by rw [hL9.1 30 rfl]
        have n42d : (z39).toInt ≠ 0 → ∀ a : Nat, TKN (s.1 47) (s.2.2.1 46 1).toInt.toNat a (s.2.2.1 46 4).toInt.toNat (s.2.2.1 46 2).toInt.toNat (s.2.2.1 46 3).toInt (s.2.2.1 46 5).toInt → ∃ c V, CMP (s.1 47) (s.2.2.1 46 1).toInt.toNat a (s.2.2.1 46 4).toInt.toNat c V (s39.2.2.1 46 2).toInt.toNat ∧ dkC (gvC s) c V ∧ gvC s39 = opC (gvC s) c V := by first | (intro h; exact absurd rfl h) | (intro h; exfalso; revert h; first | (unfold In at i39; omega) | (unfold In at i104; omega) | (unfold In at i144; omega))
        have n42e : (z39).toInt = 0 → ∀ a : Nat, TKN (s.1 47) (s.2.2.1 46 1).toInt.toNat a (s.2.2.1 46 4).toInt.toNat (s.2.2.1 46 2).toInt.toNat (s.2.2.1 46 3).toInt (s.2.2.1 46 5).toInt → CMX (s.1 47) (s.2.2.1 46 1).toInt.toNat a (s39.2.2.1 46 6).toInt (s39.2.2.1 46 7).toInt.toNat ∨ ∃ c V e, CMP (s.1 47) (s.2.2.1 46 1).toInt.toNat a (s39.2.2.1 46 7).toInt.toNat c V e ∧ ¬ dkC (gvC s) c V ∧ (s39.2.2.1 46 6).toInt = 4 := by intro _ a ha; refine Or.inl (Or.inl ⟨_, _, _, by rw [p39.2]; exact ha, q_4, ?_, p39.1⟩); first | (rintro ⟨h8, h9⟩; rw [← e_46_3] at h8; exact (have a0 := in_u i23x1; have a1 := in_u ((inv_F hI 0 1000 rfl e_46_4)); have a2 := in_u i10; have a3 := in_u ((inv_F hI 0 1000 rfl e_46_1)); have a4 := in_u ((inv_F hI 0 1000 rfl e_46_2)); have a5 := in_u ((inv_F hI 448 28000 rfl e_30_0)); have a6 := in_u ((inv_F hI 0 32 rfl e_2_1)); have a7 := in_u ((inv_F hI 0 4000 rfl e_2_0)); have oc := oc_136_1_46; by omega)) | (rintro ⟨h8, h9⟩; rw [← e_46_5] at h9; unfold cmI at h9; exact (have a0 := in_u i23x1; have a1 := in_u ((inv_F hI 0 1000 rfl e_46_4)); have a2 := in_u i10; have a3 := in_u ((inv_F hI 0 1000 rfl e_46_1)); have a4 := in_u ((inv_F hI 0 1000 rfl e_46_2)); have a5 := in_u ((inv_F hI 448 28000 rfl e_30_0)); have a6 := in_u ((inv_F hI 0 32 rfl e_2_1)); have a7 := in_u ((inv_F hI 0 4000 rfl e_2_0)); have oc := oc_136_1_46; by omega)) | (exfalso; have h9 := p30a (by exact (have a0 := in_u i23x1; have a1 := in_u ((inv_F hI 0 1000 rfl e_46_4)); have a2 := in_u i10; have a3 := in_u ((inv_F hI 0 1000 rfl e_46_1)); have a4 := in_u ((inv_F hI 0 1000 rfl e_46_2)); have a5 := in_u ((inv_F hI 448 28000 rfl e_30_0)); have a6 := in_u ((inv_F hI 0 32 rfl e_2_1)); have a7 := in_u ((inv_F hI 0 4000 rfl e_2_0)); have oc := oc_136_1_46; by omega)); revert h9; decide)
        have n42f : (z39).toInt ≠ 0 → TQ s39 := by first | (intro h; exact absurd rfl h) | (intro h; exfalso; revert h; first | (unfold In at i39; omega) | (unfold In at i104; omega) | (unfold In at i144; omega))
        have n42g : (z39).toInt ≠ 0 → s39.2.2.1 46 6 = s.2.2.1 46 6 ∧ s39.2.2.1 46 7 = s.2.2.1 46 7 := by first | (intro h; exact absurd rfl h) | (intro h; exfalso; revert h; first | (unfold In at i39; omega) | (unfold In at i104; omega) | (unfold In at i144; omega))
        have n42h : (z39).toInt = 0 → 0 ≤ (s39.2.2.1 46 7).toInt := by intro _; rw [p39.2, ← e_46_4]; exact (have a0 := in_u i23x1; have a1 := in_u ((inv_F hI 0 1000 rfl e_46_4)); have a2 := in_u i10; have a3 := in_u ((inv_F hI 0 1000 rfl e_46_1)); have a4 := in_u ((inv_F hI 0 1000 rfl e_46_2)); have a5 := in_u ((inv_F hI 448 28000 rfl e_30_0)); have a6 := in_u ((inv_F hI 0 32 rfl e_2_1)); have a7 := in_u ((inv_F hI 0 4000 rfl e_2_0)); have oc := oc_136_1_46; by omega)
        have n42i : (z39).toInt ≠ 0 → LGC s s39 := by first | (intro h; exact absurd rfl h) | (intro h; exfalso; revert h; first | (unfold In at i39; omega) | (unfold In at i104; omega) | (unfold In at i144; omega))
        have n42j : (u_46_2).toInt ≤ (u_46_1).toInt := by exact (have a0 := in_u i23x1; have a1 := in_u ((inv_F hI 0 1000 rfl e_46_4)); have a2 := in_u i10; have a3 := in_u ((inv_F hI 0 1000 rfl e_46_1)); have a4 := in_u ((inv_F hI 0 1000 rfl e_46_2)); have a5 := in_u ((inv_F hI 448 28000 rfl e_30_0)); have a6 := in_u ((inv_F hI 0 32 rfl e_2_1)); have a7 := in_u ((inv_F hI 0 4000 rfl e_2_0)); have oc := oc_136_1_46; by omega)
        have n42k : (s39.2.2.1 46 2).toInt ≤ (s39.2.2.1 46 1).toInt := by have b0 : u_46_2 = s39.2.2.1 46 2 := fr_F (e_46_2) hF39 rfl; have b1 : u_46_1 = s39.2.2.1 46 1 := fr_F (e_46_1) hF39 rfl; rw [← b0, ← b1]; exact n42j
        have n42l : (u_2_0).toInt ≤ (u_2_0).toInt := by exact (have a0 := in_u i23x1; have a1 := in_u ((inv_F hI 0 1000 rfl e_46_4)); have a2 := in_u i10; have a3 := in_u ((inv_F hI 0 1000 rfl e_46_1)); have a4 := in_u ((inv_F hI 0 1000 rfl e_46_2)); have a5 := in_u ((inv_F hI 448 28000 rfl e_30_0)); have a6 := in_u ((inv_F hI 0 32 rfl e_2_1)); have a7 := in_u ((inv_F hI 0 4000 rfl e_2_0)); have oc := oc_136_1_46; by omega)
        have n42m : (s.2.2.1 2 0).toInt ≤ (s39.2.2.1 2 0).toInt := by have b0 : u_2_0 = s39.2.2.1 2 0 := fr_F (e_2_0) hF39 rfl; first | (rw [← b0, ← e_2_0]; exact n42l) | (rw [← b0]; exact n42l)
        exact g_ireturn (gd rfl) rfl (nb01 (in_w 0 1 i39 rfl)) (hP _ _ ⟨(A 30), s39, hI39, (fr_tr rfl fr_rf hF39), n42k, n42m, z39, rfl, (by rw [ax_id]), in_w 0 1 i39 rfl, n42, n42a, n42b, n42c, n42d, n42e, n42f, n42g, n42h, n42i⟩)
    · skip
      have i23x1 := sw_eq c23x1
      refine g_ldcs 4 55 (gd rfl) rfl rfl ?_
      refine g_areturn (gd rfl) rfl (hp23 _ _ ?_)
      show GG _ _ _ _ _ _ _ _ [.ref (zq Z (Int32.ofInt 4))] _ _ _
      refine g_astore 28 (gd rfl) rfl (Nat.le_of_ble_eq_true rfl) ?_
      refine g_aload 30 (gd rfl) rfl rfl ?_
      have i30 : In (Int32.ofInt 4) 0 6 := in_w 0 6 (in_c 4 rfl) rfl
      refine g_callS (X := _) (As := []) (r := []) (x := (Int32.ofInt 4)) 33 (gd rfl) rfl rfl rfl zm_428 rfl rfl rfl i30 (Nat.le_of_ble_eq_true rfl) (f_428 i30 (by omega)) (fun e u h => h) (fun v u h => ?_)
      obtain ⟨z30, rfl, rfl, i30a, p30, p30a⟩ := h
      show GG _ _ _ _ _ _ _ _ [.int z30] _ _ _
      refine g_if_eq 36 43 (gd rfl) rfl rfl (fun c33 => ?_) (fun c33 => ?_)
      · skip
        have i33 := z_eq 0 0 c33 i30a rfl
        refine g_iconst 0 44 (gd rfl) rfl rfl ?_
        refine g_istore 46 (gd rfl) rfl (Nat.le_of_ble_eq_true rfl) ?_
        have n46 : (u_46_2).toInt ≤ (u_46_1).toInt := by exact (have a0 := in_u i23x1; have a1 := in_u ((inv_F hI 0 1000 rfl e_46_4)); have a2 := in_u i10; have a3 := in_u ((inv_F hI 0 1000 rfl e_46_1)); have a4 := in_u ((inv_F hI 0 1000 rfl e_46_2)); have a5 := in_u ((inv_F hI 448 28000 rfl e_30_0)); have a6 := in_u ((inv_F hI 0 32 rfl e_2_1)); have a7 := in_u ((inv_F hI 0 4000 rfl e_2_0)); have a8 := in_u ((in_c 0 rfl)); have oc := oc_136_1_46; by omega)
        have n46a : (u_2_0).toInt ≤ (u_2_0).toInt := by exact (have a0 := in_u i23x1; have a1 := in_u ((inv_F hI 0 1000 rfl e_46_4)); have a2 := in_u i10; have a3 := in_u ((inv_F hI 0 1000 rfl e_46_1)); have a4 := in_u ((inv_F hI 0 1000 rfl e_46_2)); have a5 := in_u ((inv_F hI 448 28000 rfl e_30_0)); have a6 := in_u ((inv_F hI 0 32 rfl e_2_1)); have a7 := in_u ((inv_F hI 0 4000 rfl e_2_0)); have a8 := in_u ((in_c 0 rfl)); have oc := oc_136_1_46; by omega)
        have n46b : (u_46_5).toInt = 13 → ((Int32.ofInt 4)).toInt = 1 := by intro h; first | decide | (exfalso; exact (have a0 := in_u i23x1; have a1 := in_u ((inv_F hI 0 1000 rfl e_46_4)); have a2 := in_u i10; have a3 := in_u ((inv_F hI 0 1000 rfl e_46_1)); have a4 := in_u ((inv_F hI 0 1000 rfl e_46_2)); have a5 := in_u ((inv_F hI 448 28000 rfl e_30_0)); have a6 := in_u ((inv_F hI 0 32 rfl e_2_1)); have a7 := in_u ((inv_F hI 0 4000 rfl e_2_0)); have a8 := in_u ((in_c 0 rfl)); have oc := oc_136_1_46; by omega))
        have n46c : ((Int32.ofInt 4)).toInt = 1 → 1 ≤ ((Int32.ofInt 0)).toInt → In (s.1 31 0) 0 25 := by intro _ h; exfalso; revert h; decide
        have n46d : Fr ([31], [], [(46, 2), (46, 3), (46, 4), (46, 5), (46, 6), (46, 7)], []) s s := by exact fr_rf
        have n46e : SHQ (u_46_5).toInt ((Int32.ofInt 4)).toInt := by first | (exfalso; have h9 := p30 (by exact (have a0 := in_u i23x1; have a1 := in_u ((inv_F hI 0 1000 rfl e_46_4)); have a2 := in_u i10; have a3 := in_u ((inv_F hI 0 1000 rfl e_46_1)); have a4 := in_u ((inv_F hI 0 1000 rfl e_46_2)); have a5 := in_u ((inv_F hI 448 28000 rfl e_30_0)); have a6 := in_u ((inv_F hI 0 32 rfl e_2_1)); have a7 := in_u ((inv_F hI 0 4000 rfl e_2_0)); have a8 := in_u ((in_c 0 rfl)); have oc := oc_136_1_46; by omega)); revert h9; decide) | exact Or.inl ⟨by exact (have a0 := in_u i23x1; have a1 := in_u ((inv_F hI 0 1000 rfl e_46_4)); have a2 := in_u i10; have a3 := in_u ((inv_F hI 0 1000 rfl e_46_1)); have a4 := in_u ((inv_F hI 0 1000 rfl e_46_2)); have a5 := in_u ((inv_F hI 448 28000 rfl e_30_0)); have a6 := in_u ((inv_F hI 0 32 rfl e_2_1)); have a7 := in_u ((inv_F hI 0 4000 rfl e_2_0)); have a8 := in_u ((in_c 0 rfl)); have oc := oc_136_1_46; by omega), by decide⟩ | exact Or.inr (Or.inl ⟨by exact (have a0 := in_u i23x1; have a1 := in_u ((inv_F hI 0 1000 rfl e_46_4)); have a2 := in_u i10; have a3 := in_u ((inv_F hI 0 1000 rfl e_46_1)); have a4 := in_u ((inv_F hI 0 1000 rfl e_46_2)); have a5 := in_u ((inv_F hI 448 28000 rfl e_30_0)); have a6 := in_u ((inv_F hI 0 32 rfl e_2_1)); have a7 := in_u ((inv_F hI 0 4000 rfl e_2_0)); have a8 := in_u ((in_c 0 rfl)); have oc := oc_136_1_46; by omega), by decide⟩) | exact Or.inr (Or.inr (Or.inl ⟨by exact (have a0 := in_u i23x1; have a1 := in_u ((inv_F hI 0 1000 rfl e_46_4)); have a2 := in_u i10; have a3 := in_u ((inv_F hI 0 1000 rfl e_46_1)); have a4 := in_u ((inv_F hI 0 1000 rfl e_46_2)); have a5 := in_u ((inv_F hI 448 28000 rfl e_30_0)); have a6 := in_u ((inv_F hI 0 32 rfl e_2_1)); have a7 := in_u ((inv_F hI 0 4000 rfl e_2_0)); have a8 := in_u ((in_c 0 rfl)); have oc := oc_136_1_46; by omega), by decide⟩)) | exact Or.inr (Or.inr (Or.inr ⟨by exact (have a0 := in_u i23x1; have a1 := in_u ((inv_F hI 0 1000 rfl e_46_4)); have a2 := in_u i10; have a3 := in_u ((inv_F hI 0 1000 rfl e_46_1)); have a4 := in_u ((inv_F hI 0 1000 rfl e_46_2)); have a5 := in_u ((inv_F hI 448 28000 rfl e_30_0)); have a6 := in_u ((inv_F hI 0 32 rfl e_2_1)); have a7 := in_u ((inv_F hI 0 4000 rfl e_2_0)); have a8 := in_u ((in_c 0 rfl)); have oc := oc_136_1_46; by omega), by decide⟩))
        have n46f : (s.2.2.1 46 3).toInt = 1 ∧ (s.2.2.1 46 5).toInt = (u_46_5).toInt ∧ (u_46_4) = s.2.2.1 46 4 := by first | (exfalso; have h9 := p30 (by exact (have a0 := in_u i23x1; have a1 := in_u ((inv_F hI 0 1000 rfl e_46_4)); have a2 := in_u i10; have a3 := in_u ((inv_F hI 0 1000 rfl e_46_1)); have a4 := in_u ((inv_F hI 0 1000 rfl e_46_2)); have a5 := in_u ((inv_F hI 448 28000 rfl e_30_0)); have a6 := in_u ((inv_F hI 0 32 rfl e_2_1)); have a7 := in_u ((inv_F hI 0 4000 rfl e_2_0)); have a8 := in_u ((in_c 0 rfl)); have oc := oc_136_1_46; by omega)); revert h9; decide) | exact ⟨by rw [← e_46_3]; exact (have a0 := in_u i23x1; have a1 := in_u ((inv_F hI 0 1000 rfl e_46_4)); have a2 := in_u i10; have a3 := in_u ((inv_F hI 0 1000 rfl e_46_1)); have a4 := in_u ((inv_F hI 0 1000 rfl e_46_2)); have a5 := in_u ((inv_F hI 448 28000 rfl e_30_0)); have a6 := in_u ((inv_F hI 0 32 rfl e_2_1)); have a7 := in_u ((inv_F hI 0 4000 rfl e_2_0)); have a8 := in_u ((in_c 0 rfl)); have oc := oc_136_1_46; by omega), by rw [← e_46_5], e_46_4⟩
        have n46g : ((Int32.ofInt 0)).toInt ≤ (cmA (u_46_5).toInt : Int) := by exact Int.natCast_nonneg _
        have n46h : ∀ a : Nat, TKN (s.1 47) (s.2.2.1 46 1).toInt.toNat a (s.2.2.1 46 4).toInt.toNat (s.2.2.1 46 2).toInt.toNat (s.2.2.1 46 3).toInt (s.2.2.1 46 5).toInt → (∀ j, j < ((Int32.ofInt 0)).toInt.toNat → ∃ q f, TSQ (s.1 47) (s.2.2.1 46 1).toInt.toNat a (j + 1) q f (cmK (u_46_5).toInt (j + 1)) (s.1 31 j).toInt) ∧ ∃ p k v, TSQ (s.1 47) (s.2.2.1 46 1).toInt.toNat a ((Int32.ofInt 0)).toInt.toNat p (u_46_2).toInt.toNat k v := by intro a ha; exact ⟨fun j hj => absurd hj (by have h9 : (Int32.ofInt 0).toInt.toNat = 0 := rfl; omega), _, _, _, by rw [e_46_2]; exact ha⟩
        have n46i : s.2.2.1 46 6 = s.2.2.1 46 6 ∧ s.2.2.1 46 7 = s.2.2.1 46 7 := by exact ⟨rfl, rfl⟩
        exact gg_w (by first | exact Nat.le_of_ble_eq_true rfl | omega) (gg_f (gf_cons rfl (gf_cons rfl (gf_cons rfl (gf_cons rfl (gf_cons rfl (gf_cons rfl gf_nil)))))) (ct46 6 s u_46_4 u_46_5 (Int32.ofInt 4) (Int32.ofInt 0) u_46_2 u_2_0 u_2_1 u_30_0 hI fr_rf (in_w 0 1000 (inv_F hI 0 1000 rfl e_46_4) rfl) (in_w (-1) 25 i23x1 rfl) (in_w 1 5 (in_c 4 rfl) rfl) (in_w 0 5 (in_c 0 rfl) rfl) e_46_2 e_2_0 e_2_1 e_30_0 n46 n46a n46b n46c n46d n46e n46f n46g n46h n46i (m_in 6 (in_w 0 5 (in_c 0 rfl) rfl) rfl)))
      · skip
        have i33 := z_ne 1 1 c33 i30a rfl
        refine g_aload_n 37 (gd rfl) rfl rfl ?_
        refine g_iconst 2 38 (gd rfl) rfl rfl ?_
        refine g_iconst 3 39 (gd rfl) rfl rfl ?_
        refine g_callv (X := _) (As := [.int (Int32.ofInt 2), .int (Int32.ofInt 3)]) (r := []) (b := A 46) (q := 46) 42 (gd rfl) rfl rfl rfl rfl rfl (ww_o rfl) (Nat.le_of_ble_eq_true rfl) (Nat.zero_le _) (Nat.zero_le _) (f_169_46 (by first | exact dq1 hd rfl | exact dq0 hd rfl | exact dq2 hd rfl | exact dq3 hd rfl | omega) hI (in_w 2 2 (in_c 2 rfl) rfl) (in_w 3 3 (in_c 3 rfl) rfl) e_46_3 e_46_4) (fun e u h => h) (fun v u h => ?_)
        obtain ⟨s39, hI39, hF39, z39, rfl, rfl, i39, p39⟩ := h
        show GG _ _ _ _ _ _ _ _ [.int z39] _ _ _
        have n42 : KL s39 := by have hL9 : Fr ([31], [], [(46, 2), (46, 3), (46, 4), (46, 5), (46, 6), (46, 7)], []) s s39 := (fr_tr rfl fr_rf hF39); exact kl_fr q_0 hL9 rfl
        have n42a : (z39).toInt ≠ 0 → (s39.2.2.1 30 0).toInt = nln s := by first | (intro h; exact absurd rfl h) | (intro h; exfalso; revert h; first | (unfold In at i39; omega) | (unfold In at i104; omega) | (unfold In at i144; omega))
        have n42b : (z39).toInt ≠ 0 → (s.2.2.1 2 0).toInt ≤ 3999 := by first | (intro h; exact absurd rfl h) | (intro h; exfalso; revert h; first | (unfold In at i39; omega) | (unfold In at i104; omega) | (unfold In at i144; omega))
        have n42c : ∀ k : Nat, (k : Int) < 7 * (s.2.2.1 2 0).toInt → s39.1 30 k = s.1 30 k := by have hL9 : Fr ([31], [], [(46, 2), (46, 3), (46, 4), (46, 5), (46, 6), (46, 7)], []) s s39 := (fr_tr rfl fr_rf hF39); exact fun k _ => by rw [hL9.1 30 rfl]
        have n42d : (z39).toInt ≠ 0 → ∀ a : Nat, TKN (s.1 47) (s.2.2.1 46 1).toInt.toNat a (s.2.2.1 46 4).toInt.toNat (s.2.2.1 46 2).toInt.toNat (s.2.2.1 46 3).toInt (s.2.2.1 46 5).toInt → ∃ c V, CMP (s.1 47) (s.2.2.1 46 1).toInt.toNat a (s.2.2.1 46 4).toInt.toNat c V (s39.2.2.1 46 2).toInt.toNat ∧ dkC (gvC s) c V ∧ gvC s39 = opC (gvC s) c V := by first | (intro h; exact absurd rfl h) | (intro h; exfalso; revert h; first | (unfold In at i39; omega) | (unfold In at i104; omega) | (unfold In at i144; omega))
        have n42e : (z39).toInt = 0 → ∀ a : Nat, TKN (s.1 47) (s.2.2.1 46 1).toInt.toNat a (s.2.2.1 46 4).toInt.toNat (s.2.2.1 46 2).toInt.toNat (s.2.2.1 46 3).toInt (s.2.2.1 46 5).toInt → CMX (s.1 47) (s.2.2.1 46 1).toInt.toNat a (s39.2.2.1 46 6).toInt (s39.2.2.1 46 7).toInt.toNat ∨ ∃ c V e, CMP (s.1 47) (s.2.2.1 46 1).toInt.toNat a (s39.2.2.1 46 7).toInt.toNat c V e ∧ ¬ dkC (gvC s) c V ∧ (s39.2.2.1 46 6).toInt = 4 := by intro _ a ha; refine Or.inl (Or.inl ⟨_, _, _, by rw [p39.2]; exact ha, q_4, ?_, p39.1⟩); first | (rintro ⟨h8, h9⟩; rw [← e_46_3] at h8; exact (have a0 := in_u i23x1; have a1 := in_u ((inv_F hI 0 1000 rfl e_46_4)); have a2 := in_u i10; have a3 := in_u ((inv_F hI 0 1000 rfl e_46_1)); have a4 := in_u ((inv_F hI 0 1000 rfl e_46_2)); have a5 := in_u ((inv_F hI 448 28000 rfl e_30_0)); have a6 := in_u ((inv_F hI 0 32 rfl e_2_1)); have a7 := in_u ((inv_F hI 0 4000 rfl e_2_0)); have oc := oc_136_1_46; by omega)) | (rintro ⟨h8, h9⟩; rw [← e_46_5] at h9; unfold cmI at h9; exact (have a0 := in_u i23x1; have a1 := in_u ((inv_F hI 0 1000 rfl e_46_4)); have a2 := in_u i10; have a3 := in_u ((inv_F hI 0 1000 rfl e_46_1)); have a4 := in_u ((inv_F hI 0 1000 rfl e_46_2)); have a5 := in_u ((inv_F hI 448 28000 rfl e_30_0)); have a6 := in_u ((inv_F hI 0 32 rfl e_2_1)); have a7 := in_u ((inv_F hI 0 4000 rfl e_2_0)); have oc := oc_136_1_46; by omega)) | (exfalso; have h9 := p30a (by exact (have a0 := in_u i23x1; have a1 := in_u ((inv_F hI 0 1000 rfl e_46_4)); have a2 := in_u i10; have a3 := in_u ((inv_F hI 0 1000 rfl e_46_1)); have a4 := in_u ((inv_F hI 0 1000 rfl e_46_2)); have a5 := in_u ((inv_F hI 448 28000 rfl e_30_0)); have a6 := in_u ((inv_F hI 0 32 rfl e_2_1)); have a7 := in_u ((inv_F hI 0 4000 rfl e_2_0)); have oc := oc_136_1_46; by omega)); revert h9; decide)
        have n42f : (z39).toInt ≠ 0 → TQ s39 := by first | (intro h; exact absurd rfl h) | (intro h; exfalso; revert h; first | (unfold In at i39; omega) | (unfold In at i104; omega) | (unfold In at i144; omega))
        have n42g : (z39).toInt ≠ 0 → s39.2.2.1 46 6 = s.2.2.1 46 6 ∧ s39.2.2.1 46 7 = s.2.2.1 46 7 := by first | (intro h; exact absurd rfl h) | (intro h; exfalso; revert h; first | (unfold In at i39; omega) | (unfold In at i104; omega) | (unfold In at i144; omega))
        have n42h : (z39).toInt = 0 → 0 ≤ (s39.2.2.1 46 7).toInt := by intro _; rw [p39.2, ← e_46_4]; exact (have a0 := in_u i23x1; have a1 := in_u ((inv_F hI 0 1000 rfl e_46_4)); have a2 := in_u i10; have a3 := in_u ((inv_F hI 0 1000 rfl e_46_1)); have a4 := in_u ((inv_F hI 0 1000 rfl e_46_2)); have a5 := in_u ((inv_F hI 448 28000 rfl e_30_0)); have a6 := in_u ((inv_F hI 0 32 rfl e_2_1)); have a7 := in_u ((inv_F hI 0 4000 rfl e_2_0)); have oc := oc_136_1_46; by omega)
        have n42i : (z39).toInt ≠ 0 → LGC s s39 := by first | (intro h; exact absurd rfl h) | (intro h; exfalso; revert h; first | (unfold In at i39; omega) | (unfold In at i104; omega) | (unfold In at i144; omega))
        have n42j : (u_46_2).toInt ≤ (u_46_1).toInt := by exact (have a0 := in_u i23x1; have a1 := in_u ((inv_F hI 0 1000 rfl e_46_4)); have a2 := in_u i10; have a3 := in_u ((inv_F hI 0 1000 rfl e_46_1)); have a4 := in_u ((inv_F hI 0 1000 rfl e_46_2)); have a5 := in_u ((inv_F hI 448 28000 rfl e_30_0)); have a6 := in_u ((inv_F hI 0 32 rfl e_2_1)); have a7 := in_u ((inv_F hI 0 4000 rfl e_2_0)); have oc := oc_136_1_46; by omega)
        have n42k : (s39.2.2.1 46 2).toInt ≤ (s39.2.2.1 46 1).toInt := by have b0 : u_46_2 = s39.2.2.1 46 2 := fr_F (e_46_2) hF39 rfl; have b1 : u_46_1 = s39.2.2.1 46 1 := fr_F (e_46_1) hF39 rfl; rw [← b0, ← b1]; exact n42j
        have n42l : (u_2_0).toInt ≤ (u_2_0).toInt := by exact (have a0 := in_u i23x1; have a1 := in_u ((inv_F hI 0 1000 rfl e_46_4)); have a2 := in_u i10; have a3 := in_u ((inv_F hI 0 1000 rfl e_46_1)); have a4 := in_u ((inv_F hI 0 1000 rfl e_46_2)); have a5 := in_u ((inv_F hI 448 28000 rfl e_30_0)); have a6 := in_u ((inv_F hI 0 32 rfl e_2_1)); have a7 := in_u ((inv_F hI 0 4000 rfl e_2_0)); have oc := oc_136_1_46; by omega)
        have n42m : (s.2.2.1 2 0).toInt ≤ (s39.2.2.1 2 0).toInt := by have b0 : u_2_0 = s39.2.2.1 2 0 := fr_F (e_2_0) hF39 rfl; first | (rw [← b0, ← e_2_0]; exact n42l) | (rw [← b0]; exact n42l)
        exact g_ireturn (gd rfl) rfl (nb01 (in_w 0 1 i39 rfl)) (hP _ _ ⟨(A 30), s39, hI39, (fr_tr rfl fr_rf hF39), n42k, n42m, z39, rfl, (by rw [ax_id]), in_w 0 1 i39 rfl, n42, n42a, n42b, n42c, n42d, n42e, n42f, n42g, n42h, n42i⟩)
    · skip
      refine g_ldcs 5 58 (gd rfl) rfl rfl ?_
      refine g_areturn (gd rfl) rfl (hp23 _ _ ?_)
      show GG _ _ _ _ _ _ _ _ [.ref (zq Z (Int32.ofInt 5))] _ _ _
      refine g_astore 28 (gd rfl) rfl (Nat.le_of_ble_eq_true rfl) ?_
      refine g_aload 30 (gd rfl) rfl rfl ?_
      have i30 : In (Int32.ofInt 5) 0 6 := in_w 0 6 (in_c 5 rfl) rfl
      refine g_callS (X := _) (As := []) (r := []) (x := (Int32.ofInt 5)) 33 (gd rfl) rfl rfl rfl zm_428 rfl rfl rfl i30 (Nat.le_of_ble_eq_true rfl) (f_428 i30 (by omega)) (fun e u h => h) (fun v u h => ?_)
      obtain ⟨z30, rfl, rfl, i30a, p30, p30a⟩ := h
      show GG _ _ _ _ _ _ _ _ [.int z30] _ _ _
      refine g_if_eq 36 43 (gd rfl) rfl rfl (fun c33 => ?_) (fun c33 => ?_)
      · skip
        have i33 := z_eq 0 0 c33 i30a rfl
        refine g_iconst 0 44 (gd rfl) rfl rfl ?_
        refine g_istore 46 (gd rfl) rfl (Nat.le_of_ble_eq_true rfl) ?_
        have n46 : (u_46_2).toInt ≤ (u_46_1).toInt := by exact (have a0 := in_u i17; have a1 := in_u ((inv_F hI 0 1000 rfl e_46_4)); have a2 := in_u i10; have a3 := in_u ((inv_F hI 0 1000 rfl e_46_1)); have a4 := in_u ((inv_F hI 0 1000 rfl e_46_2)); have a5 := in_u ((inv_F hI 448 28000 rfl e_30_0)); have a6 := in_u ((inv_F hI 0 32 rfl e_2_1)); have a7 := in_u ((inv_F hI 0 4000 rfl e_2_0)); have a8 := in_u ((in_c 0 rfl)); have oc := oc_136_1_46; by omega)
        have n46a : (u_2_0).toInt ≤ (u_2_0).toInt := by exact (have a0 := in_u i17; have a1 := in_u ((inv_F hI 0 1000 rfl e_46_4)); have a2 := in_u i10; have a3 := in_u ((inv_F hI 0 1000 rfl e_46_1)); have a4 := in_u ((inv_F hI 0 1000 rfl e_46_2)); have a5 := in_u ((inv_F hI 448 28000 rfl e_30_0)); have a6 := in_u ((inv_F hI 0 32 rfl e_2_1)); have a7 := in_u ((inv_F hI 0 4000 rfl e_2_0)); have a8 := in_u ((in_c 0 rfl)); have oc := oc_136_1_46; by omega)
        have n46b : (u_46_5).toInt = 13 → ((Int32.ofInt 5)).toInt = 1 := by intro h; first | decide | (exfalso; exact (have a0 := in_u i17; have a1 := in_u ((inv_F hI 0 1000 rfl e_46_4)); have a2 := in_u i10; have a3 := in_u ((inv_F hI 0 1000 rfl e_46_1)); have a4 := in_u ((inv_F hI 0 1000 rfl e_46_2)); have a5 := in_u ((inv_F hI 448 28000 rfl e_30_0)); have a6 := in_u ((inv_F hI 0 32 rfl e_2_1)); have a7 := in_u ((inv_F hI 0 4000 rfl e_2_0)); have a8 := in_u ((in_c 0 rfl)); have oc := oc_136_1_46; by omega))
        have n46c : ((Int32.ofInt 5)).toInt = 1 → 1 ≤ ((Int32.ofInt 0)).toInt → In (s.1 31 0) 0 25 := by intro _ h; exfalso; revert h; decide
        have n46d : Fr ([31], [], [(46, 2), (46, 3), (46, 4), (46, 5), (46, 6), (46, 7)], []) s s := by exact fr_rf
        have n46e : SHQ (u_46_5).toInt ((Int32.ofInt 5)).toInt := by first | (exfalso; have h9 := p30 (by exact (have a0 := in_u i17; have a1 := in_u ((inv_F hI 0 1000 rfl e_46_4)); have a2 := in_u i10; have a3 := in_u ((inv_F hI 0 1000 rfl e_46_1)); have a4 := in_u ((inv_F hI 0 1000 rfl e_46_2)); have a5 := in_u ((inv_F hI 448 28000 rfl e_30_0)); have a6 := in_u ((inv_F hI 0 32 rfl e_2_1)); have a7 := in_u ((inv_F hI 0 4000 rfl e_2_0)); have a8 := in_u ((in_c 0 rfl)); have oc := oc_136_1_46; by omega)); revert h9; decide) | exact Or.inl ⟨by exact (have a0 := in_u i17; have a1 := in_u ((inv_F hI 0 1000 rfl e_46_4)); have a2 := in_u i10; have a3 := in_u ((inv_F hI 0 1000 rfl e_46_1)); have a4 := in_u ((inv_F hI 0 1000 rfl e_46_2)); have a5 := in_u ((inv_F hI 448 28000 rfl e_30_0)); have a6 := in_u ((inv_F hI 0 32 rfl e_2_1)); have a7 := in_u ((inv_F hI 0 4000 rfl e_2_0)); have a8 := in_u ((in_c 0 rfl)); have oc := oc_136_1_46; by omega), by decide⟩ | exact Or.inr (Or.inl ⟨by exact (have a0 := in_u i17; have a1 := in_u ((inv_F hI 0 1000 rfl e_46_4)); have a2 := in_u i10; have a3 := in_u ((inv_F hI 0 1000 rfl e_46_1)); have a4 := in_u ((inv_F hI 0 1000 rfl e_46_2)); have a5 := in_u ((inv_F hI 448 28000 rfl e_30_0)); have a6 := in_u ((inv_F hI 0 32 rfl e_2_1)); have a7 := in_u ((inv_F hI 0 4000 rfl e_2_0)); have a8 := in_u ((in_c 0 rfl)); have oc := oc_136_1_46; by omega), by decide⟩) | exact Or.inr (Or.inr (Or.inl ⟨by exact (have a0 := in_u i17; have a1 := in_u ((inv_F hI 0 1000 rfl e_46_4)); have a2 := in_u i10; have a3 := in_u ((inv_F hI 0 1000 rfl e_46_1)); have a4 := in_u ((inv_F hI 0 1000 rfl e_46_2)); have a5 := in_u ((inv_F hI 448 28000 rfl e_30_0)); have a6 := in_u ((inv_F hI 0 32 rfl e_2_1)); have a7 := in_u ((inv_F hI 0 4000 rfl e_2_0)); have a8 := in_u ((in_c 0 rfl)); have oc := oc_136_1_46; by omega), by decide⟩)) | exact Or.inr (Or.inr (Or.inr ⟨by exact (have a0 := in_u i17; have a1 := in_u ((inv_F hI 0 1000 rfl e_46_4)); have a2 := in_u i10; have a3 := in_u ((inv_F hI 0 1000 rfl e_46_1)); have a4 := in_u ((inv_F hI 0 1000 rfl e_46_2)); have a5 := in_u ((inv_F hI 448 28000 rfl e_30_0)); have a6 := in_u ((inv_F hI 0 32 rfl e_2_1)); have a7 := in_u ((inv_F hI 0 4000 rfl e_2_0)); have a8 := in_u ((in_c 0 rfl)); have oc := oc_136_1_46; by omega), by decide⟩))
        have n46f : (s.2.2.1 46 3).toInt = 1 ∧ (s.2.2.1 46 5).toInt = (u_46_5).toInt ∧ (u_46_4) = s.2.2.1 46 4 := by first | (exfalso; have h9 := p30 (by exact (have a0 := in_u i17; have a1 := in_u ((inv_F hI 0 1000 rfl e_46_4)); have a2 := in_u i10; have a3 := in_u ((inv_F hI 0 1000 rfl e_46_1)); have a4 := in_u ((inv_F hI 0 1000 rfl e_46_2)); have a5 := in_u ((inv_F hI 448 28000 rfl e_30_0)); have a6 := in_u ((inv_F hI 0 32 rfl e_2_1)); have a7 := in_u ((inv_F hI 0 4000 rfl e_2_0)); have a8 := in_u ((in_c 0 rfl)); have oc := oc_136_1_46; by omega)); revert h9; decide) | exact ⟨by rw [← e_46_3]; exact (have a0 := in_u i17; have a1 := in_u ((inv_F hI 0 1000 rfl e_46_4)); have a2 := in_u i10; have a3 := in_u ((inv_F hI 0 1000 rfl e_46_1)); have a4 := in_u ((inv_F hI 0 1000 rfl e_46_2)); have a5 := in_u ((inv_F hI 448 28000 rfl e_30_0)); have a6 := in_u ((inv_F hI 0 32 rfl e_2_1)); have a7 := in_u ((inv_F hI 0 4000 rfl e_2_0)); have a8 := in_u ((in_c 0 rfl)); have oc := oc_136_1_46; by omega), by rw [← e_46_5], e_46_4⟩
        have n46g : ((Int32.ofInt 0)).toInt ≤ (cmA (u_46_5).toInt : Int) := by exact Int.natCast_nonneg _
        have n46h : ∀ a : Nat, TKN (s.1 47) (s.2.2.1 46 1).toInt.toNat a (s.2.2.1 46 4).toInt.toNat (s.2.2.1 46 2).toInt.toNat (s.2.2.1 46 3).toInt (s.2.2.1 46 5).toInt → (∀ j, j < ((Int32.ofInt 0)).toInt.toNat → ∃ q f, TSQ (s.1 47) (s.2.2.1 46 1).toInt.toNat a (j + 1) q f (cmK (u_46_5).toInt (j + 1)) (s.1 31 j).toInt) ∧ ∃ p k v, TSQ (s.1 47) (s.2.2.1 46 1).toInt.toNat a ((Int32.ofInt 0)).toInt.toNat p (u_46_2).toInt.toNat k v := by intro a ha; exact ⟨fun j hj => absurd hj (by have h9 : (Int32.ofInt 0).toInt.toNat = 0 := rfl; omega), _, _, _, by rw [e_46_2]; exact ha⟩
        have n46i : s.2.2.1 46 6 = s.2.2.1 46 6 ∧ s.2.2.1 46 7 = s.2.2.1 46 7 := by exact ⟨rfl, rfl⟩
        exact gg_w (by first | exact Nat.le_of_ble_eq_true rfl | omega) (gg_f (gf_cons rfl (gf_cons rfl (gf_cons rfl (gf_cons rfl (gf_cons rfl (gf_cons rfl gf_nil)))))) (ct46 6 s u_46_4 u_46_5 (Int32.ofInt 5) (Int32.ofInt 0) u_46_2 u_2_0 u_2_1 u_30_0 hI fr_rf (in_w 0 1000 (inv_F hI 0 1000 rfl e_46_4) rfl) (in_w (-1) 25 i17 rfl) (in_w 1 5 (in_c 5 rfl) rfl) (in_w 0 5 (in_c 0 rfl) rfl) e_46_2 e_2_0 e_2_1 e_30_0 n46 n46a n46b n46c n46d n46e n46f n46g n46h n46i (m_in 6 (in_w 0 5 (in_c 0 rfl) rfl) rfl)))
      · skip
        have i33 := z_ne 1 1 c33 i30a rfl
        refine g_aload_n 37 (gd rfl) rfl rfl ?_
        refine g_iconst 2 38 (gd rfl) rfl rfl ?_
        refine g_iconst 3 39 (gd rfl) rfl rfl ?_
        refine g_callv (X := _) (As := [.int (Int32.ofInt 2), .int (Int32.ofInt 3)]) (r := []) (b := A 46) (q := 46) 42 (gd rfl) rfl rfl rfl rfl rfl (ww_o rfl) (Nat.le_of_ble_eq_true rfl) (Nat.zero_le _) (Nat.zero_le _) (f_169_46 (by first | exact dq1 hd rfl | exact dq0 hd rfl | exact dq2 hd rfl | exact dq3 hd rfl | omega) hI (in_w 2 2 (in_c 2 rfl) rfl) (in_w 3 3 (in_c 3 rfl) rfl) e_46_3 e_46_4) (fun e u h => h) (fun v u h => ?_)
        obtain ⟨s39, hI39, hF39, z39, rfl, rfl, i39, p39⟩ := h
        show GG _ _ _ _ _ _ _ _ [.int z39] _ _ _
        have n42 : KL s39 := by have hL9 : Fr ([31], [], [(46, 2), (46, 3), (46, 4), (46, 5), (46, 6), (46, 7)], []) s s39 := (fr_tr rfl fr_rf hF39); exact kl_fr q_0 hL9 rfl
        have n42a : (z39).toInt ≠ 0 → (s39.2.2.1 30 0).toInt = nln s := by first | (intro h; exact absurd rfl h) | (intro h; exfalso; revert h; first | (unfold In at i39; omega) | (unfold In at i104; omega) | (unfold In at i144; omega))
        have n42b : (z39).toInt ≠ 0 → (s.2.2.1 2 0).toInt ≤ 3999 := by first | (intro h; exact absurd rfl h) | (intro h; exfalso; revert h; first | (unfold In at i39; omega) | (unfold In at i104; omega) | (unfold In at i144; omega))
        have n42c : ∀ k : Nat, (k : Int) < 7 * (s.2.2.1 2 0).toInt → s39.1 30 k = s.1 30 k := by have hL9 : Fr ([31], [], [(46, 2), (46, 3), (46, 4), (46, 5), (46, 6), (46, 7)], []) s s39 := (fr_tr rfl fr_rf hF39); exact fun k _ => by rw [hL9.1 30 rfl]
        have n42d : (z39).toInt ≠ 0 → ∀ a : Nat, TKN (s.1 47) (s.2.2.1 46 1).toInt.toNat a (s.2.2.1 46 4).toInt.toNat (s.2.2.1 46 2).toInt.toNat (s.2.2.1 46 3).toInt (s.2.2.1 46 5).toInt → ∃ c V, CMP (s.1 47) (s.2.2.1 46 1).toInt.toNat a (s.2.2.1 46 4).toInt.toNat c V (s39.2.2.1 46 2).toInt.toNat ∧ dkC (gvC s) c V ∧ gvC s39 = opC (gvC s) c V := by first | (intro h; exact absurd rfl h) | (intro h; exfalso; revert h; first | (unfold In at i39; omega) | (unfold In at i104; omega) | (unfold In at i144; omega))
        have n42e : (z39).toInt = 0 → ∀ a : Nat, TKN (s.1 47) (s.2.2.1 46 1).toInt.toNat a (s.2.2.1 46 4).toInt.toNat (s.2.2.1 46 2).toInt.toNat (s.2.2.1 46 3).toInt (s.2.2.1 46 5).toInt → CMX (s.1 47) (s.2.2.1 46 1).toInt.toNat a (s39.2.2.1 46 6).toInt (s39.2.2.1 46 7).toInt.toNat ∨ ∃ c V e, CMP (s.1 47) (s.2.2.1 46 1).toInt.toNat a (s39.2.2.1 46 7).toInt.toNat c V e ∧ ¬ dkC (gvC s) c V ∧ (s39.2.2.1 46 6).toInt = 4 := by intro _ a ha; refine Or.inl (Or.inl ⟨_, _, _, by rw [p39.2]; exact ha, q_4, ?_, p39.1⟩); first | (rintro ⟨h8, h9⟩; rw [← e_46_3] at h8; exact (have a0 := in_u i17; have a1 := in_u ((inv_F hI 0 1000 rfl e_46_4)); have a2 := in_u i10; have a3 := in_u ((inv_F hI 0 1000 rfl e_46_1)); have a4 := in_u ((inv_F hI 0 1000 rfl e_46_2)); have a5 := in_u ((inv_F hI 448 28000 rfl e_30_0)); have a6 := in_u ((inv_F hI 0 32 rfl e_2_1)); have a7 := in_u ((inv_F hI 0 4000 rfl e_2_0)); have oc := oc_136_1_46; by omega)) | (rintro ⟨h8, h9⟩; rw [← e_46_5] at h9; unfold cmI at h9; exact (have a0 := in_u i17; have a1 := in_u ((inv_F hI 0 1000 rfl e_46_4)); have a2 := in_u i10; have a3 := in_u ((inv_F hI 0 1000 rfl e_46_1)); have a4 := in_u ((inv_F hI 0 1000 rfl e_46_2)); have a5 := in_u ((inv_F hI 448 28000 rfl e_30_0)); have a6 := in_u ((inv_F hI 0 32 rfl e_2_1)); have a7 := in_u ((inv_F hI 0 4000 rfl e_2_0)); have oc := oc_136_1_46; by omega)) | (exfalso; have h9 := p30a (by exact (have a0 := in_u i17; have a1 := in_u ((inv_F hI 0 1000 rfl e_46_4)); have a2 := in_u i10; have a3 := in_u ((inv_F hI 0 1000 rfl e_46_1)); have a4 := in_u ((inv_F hI 0 1000 rfl e_46_2)); have a5 := in_u ((inv_F hI 448 28000 rfl e_30_0)); have a6 := in_u ((inv_F hI 0 32 rfl e_2_1)); have a7 := in_u ((inv_F hI 0 4000 rfl e_2_0)); have oc := oc_136_1_46; by omega)); revert h9; decide)
        have n42f : (z39).toInt ≠ 0 → TQ s39 := by first | (intro h; exact absurd rfl h) | (intro h; exfalso; revert h; first | (unfold In at i39; omega) | (unfold In at i104; omega) | (unfold In at i144; omega))
        have n42g : (z39).toInt ≠ 0 → s39.2.2.1 46 6 = s.2.2.1 46 6 ∧ s39.2.2.1 46 7 = s.2.2.1 46 7 := by first | (intro h; exact absurd rfl h) | (intro h; exfalso; revert h; first | (unfold In at i39; omega) | (unfold In at i104; omega) | (unfold In at i144; omega))
        have n42h : (z39).toInt = 0 → 0 ≤ (s39.2.2.1 46 7).toInt := by intro _; rw [p39.2, ← e_46_4]; exact (have a0 := in_u i17; have a1 := in_u ((inv_F hI 0 1000 rfl e_46_4)); have a2 := in_u i10; have a3 := in_u ((inv_F hI 0 1000 rfl e_46_1)); have a4 := in_u ((inv_F hI 0 1000 rfl e_46_2)); have a5 := in_u ((inv_F hI 448 28000 rfl e_30_0)); have a6 := in_u ((inv_F hI 0 32 rfl e_2_1)); have a7 := in_u ((inv_F hI 0 4000 rfl e_2_0)); have oc := oc_136_1_46; by omega)
        have n42i : (z39).toInt ≠ 0 → LGC s s39 := by first | (intro h; exact absurd rfl h) | (intro h; exfalso; revert h; first | (unfold In at i39; omega) | (unfold In at i104; omega) | (unfold In at i144; omega))
        have n42j : (u_46_2).toInt ≤ (u_46_1).toInt := by exact (have a0 := in_u i17; have a1 := in_u ((inv_F hI 0 1000 rfl e_46_4)); have a2 := in_u i10; have a3 := in_u ((inv_F hI 0 1000 rfl e_46_1)); have a4 := in_u ((inv_F hI 0 1000 rfl e_46_2)); have a5 := in_u ((inv_F hI 448 28000 rfl e_30_0)); have a6 := in_u ((inv_F hI 0 32 rfl e_2_1)); have a7 := in_u ((inv_F hI 0 4000 rfl e_2_0)); have oc := oc_136_1_46; by omega)
        have n42k : (s39.2.2.1 46 2).toInt ≤ (s39.2.2.1 46 1).toInt := by have b0 : u_46_2 = s39.2.2.1 46 2 := fr_F (e_46_2) hF39 rfl; have b1 : u_46_1 = s39.2.2.1 46 1 := fr_F (e_46_1) hF39 rfl; rw [← b0, ← b1]; exact n42j
        have n42l : (u_2_0).toInt ≤ (u_2_0).toInt := by exact (have a0 := in_u i17; have a1 := in_u ((inv_F hI 0 1000 rfl e_46_4)); have a2 := in_u i10; have a3 := in_u ((inv_F hI 0 1000 rfl e_46_1)); have a4 := in_u ((inv_F hI 0 1000 rfl e_46_2)); have a5 := in_u ((inv_F hI 448 28000 rfl e_30_0)); have a6 := in_u ((inv_F hI 0 32 rfl e_2_1)); have a7 := in_u ((inv_F hI 0 4000 rfl e_2_0)); have oc := oc_136_1_46; by omega)
        have n42m : (s.2.2.1 2 0).toInt ≤ (s39.2.2.1 2 0).toInt := by have b0 : u_2_0 = s39.2.2.1 2 0 := fr_F (e_2_0) hF39 rfl; first | (rw [← b0, ← e_2_0]; exact n42l) | (rw [← b0]; exact n42l)
        exact g_ireturn (gd rfl) rfl (nb01 (in_w 0 1 i39 rfl)) (hP _ _ ⟨(A 30), s39, hI39, (fr_tr rfl fr_rf hF39), n42k, n42m, z39, rfl, (by rw [ax_id]), in_w 0 1 i39 rfl, n42, n42a, n42b, n42c, n42d, n42e, n42f, n42g, n42h, n42i⟩)
end
section
/-! FUNCTIONAL CONTRACTS, by fgen.py -/
theorem oc_135_1_46 : (Int32.ofInt (-4)).toInt = (-4) ∧ (Int32.ofInt (-1)).toInt = (-1) ∧ (Int32.ofInt 0).toInt = 0 ∧ (Int32.ofInt 1).toInt = 1 ∧ (Int32.ofInt 7).toInt = 7 ∧ (Int32.ofInt 1000).toInt = 1000 := ⟨rfl, rfl, rfl, rfl, rfl, rfl⟩
/-- GraphHouse$Ledger.carryOut -/
theorem f_135_1_46 {Z : AmZ} {A : Nat → Nat} {s : GS} {ex : va_W} {d : Nat} {X : AmX} {u_2_0 : Int32} {u_2_1 : Int32} {u_30_0 : Int32} {u_46_1 : Int32} (hd : 10 ≤ d) (hI : Inv s) (e_2_0 : u_2_0 = s.2.2.1 2 0) (e_2_1 : u_2_1 = s.2.2.1 2 1) (e_30_0 : u_30_0 = s.2.2.1 30 0) (e_46_1 : u_46_1 = s.2.2.1 46 1) (q_0 : KL s) (q_1 : TQ s) : GC Z d 135 [.ref (A 1), .ref (A 46)] (WW Z A s ++ ex) (lgC s) (lgS s) (fun v u => ∃ a : Nat, ∃ t : GS, Inv t ∧ Fr fm_135_1_46 s t ∧ ∃ z : Int32, v = some (.int z) ∧ u = WW Z (ax A 30 a) t ++ ex ∧ In z (-4) 1000 ∧ (KL t) ∧ ((z).toInt ≠ -4 → LOT (s.1 47) (s.2.2.1 46 1).toInt.toNat (gvC s) (z).toInt 0 0 (gvC t) ∧ (t.2.2.1 46 6).toInt = -1 ∧ (t.2.2.1 46 7).toInt = -1) ∧ ((z).toInt = -4 → LOT (s.1 47) (s.2.2.1 46 1).toInt.toNat (gvC s) (-4) (t.2.2.1 46 6).toInt (t.2.2.1 46 7).toInt (gvC t)) ∧ (TQ t) ∧ (LCO s t z)) X := by
  intro post xp hP hX
  have ro_46_1 := inv_F hI 0 1000 rfl e_46_1
  have ct17 : ∀ (k17 : Nat) (sc17 : GS) (ac17 : Nat) (cc17 : Nat) (cs17 : Nat) (y17_2 : Int32) (w17_46_2 : Int32) (w17_2_0 : Int32) (w17_2_1 : Int32) (w17_30_0 : Int32), Inv sc17 → Fr fm_135_1_46 s sc17 → (lgC sc17 ≤ cc17) → (lgS sc17 ≤ cs17) → (In y17_2 0 2001) → (w17_46_2 = sc17.2.2.1 46 2) → (w17_2_0 = sc17.2.2.1 2 0) → (w17_2_1 = sc17.2.2.1 2 1) → (w17_30_0 = sc17.2.2.1 30 0) → ((w17_46_2).toInt ≤ (u_46_1).toInt) → ((u_2_0).toInt ≤ (w17_2_0).toInt) → (KL sc17) → ((∀ p : Nat, p < 160 → sc17.1 18 p = s.1 4 p ∧ sc17.1 19 p = s.1 5 p) ∧ sc17.2.2.1 16 0 = s.2.2.1 2 0 ∧ sc17.2.2.1 16 1 = s.2.2.1 2 1) → (∀ k : Nat, (k : Int) < 7 * (s.2.2.1 2 0).toInt → sc17.1 30 k = s.1 30 k) → (GEQ (gvS sc17) (gvC s) ∧ TQS sc17) → (LRN (s.1 47) (s.2.2.1 46 1).toInt.toNat (gvC s) (y17_2).toInt.toNat (w17_46_2).toInt.toNat (gvC sc17)) → (TQ sc17) → ((sc17.2.2.1 46 6).toInt = -1 ∧ (sc17.2.2.1 46 7).toInt = -1) → (LGS s sc17 (y17_2).toInt.toNat) → 2001 - (y17_2).toInt < (k17 : Int) → GG Z (d - 1) 135 post (gx xp) (1 + k17 * 900) 17 (fun j => xlook j [(0, .ref (A 1)), (1, .ref (A 46)), (2, .int y17_2)]) [] (WW Z (ax A 30 ac17) sc17 ++ ex) cc17 cs17 := by
    intro k17
    induction k17 with
    | zero => intro sc17 ac17 cc17 cs17 y17_2 w17_46_2 w17_2_0 w17_2_1 w17_30_0 hIc17 hFc17 hcc17 hcs17 j17_2 v17_46_2 v17_2_0 v17_2_1 v17_30_0 n17_0 n17_1 g17_0 g17_1 g17_2 g17_3 g17_4 g17_5 g17_6 g17_7 mm17; exact m_no mm17 j17_2 rfl
    | succ k17 ih17 =>
      intro sc17 ac17 cc17 cs17 y17_2 w17_46_2 w17_2_0 w17_2_1 w17_30_0 hIc17 hFc17 hcc17 hcs17 j17_2 v17_46_2 v17_2_0 v17_2_1 v17_30_0 n17_0 n17_1 g17_0 g17_1 g17_2 g17_3 g17_4 g17_5 g17_6 g17_7 mm17
      refine gg_w (M := 1 + k17 * 900 + 900) gws ?_
      refine g_iload_n 18 (gd rfl) rfl rfl ?_
      refine g_sipush 1000 21 (gd rfl) rfl rfl ?_
      refine g_cmp_gt 24 68 (gd rfl) rfl rfl (fun c21 => ?_) (fun c21 => ?_)
      · skip
        have i21 := r_lt2 1001 2001 c21 (in_c 1000 rfl) j17_2 rfl
        refine g_bipush (-4) 70 (gd rfl) rfl rfl ?_
        have n70 : KL sc17 := by exact g17_0
        have n70a : ((Int32.ofInt (-4))).toInt ≠ -4 → LOT (s.1 47) (s.2.2.1 46 1).toInt.toNat (gvC s) ((Int32.ofInt (-4))).toInt 0 0 (gvC sc17) ∧ (sc17.2.2.1 46 6).toInt = -1 ∧ (sc17.2.2.1 46 7).toInt = -1 := by intro h; exact absurd rfl h
        have n70b : ((Int32.ofInt (-4))).toInt = -4 → LOT (s.1 47) (s.2.2.1 46 1).toInt.toNat (gvC s) (-4) (sc17.2.2.1 46 6).toInt (sc17.2.2.1 46 7).toInt (gvC sc17) := by intro _; exfalso; have h9 := lrn_l _ g17_4; exact (have a0 := in_u ro_46_1; have a1 := in_u ((inv_F hIc17 448 28000 rfl v17_30_0)); have a2 := in_u ((inv_F hIc17 0 32 rfl v17_2_1)); have a3 := in_u ((inv_F hIc17 0 4000 rfl v17_2_0)); have a4 := in_u ((inv_F hIc17 0 1000 rfl v17_46_2)); have a5 := in_u i21; have oc := oc_135_1_46; by omega)
        have n70c : TQ sc17 := by exact g17_5
        have n70d : LCO s sc17 (Int32.ofInt (-4)) := by exact ⟨fun h => absurd rfl h, fun _ => (by exfalso; have h9 := lrn_l _ g17_4; exact (have a0 := in_u ro_46_1; have a1 := in_u ((inv_F hIc17 448 28000 rfl v17_30_0)); have a2 := in_u ((inv_F hIc17 0 32 rfl v17_2_1)); have a3 := in_u ((inv_F hIc17 0 4000 rfl v17_2_0)); have a4 := in_u ((inv_F hIc17 0 1000 rfl v17_46_2)); have a5 := in_u i21; have oc := oc_135_1_46; by omega))⟩
        exact g_ireturn (gd rfl) rfl rfl (hP _ _ ⟨ac17, sc17, hIc17, hFc17, (Int32.ofInt (-4)), rfl, rfl, in_w (-4) 1000 (in_c (-4) rfl) rfl, n70, n70a, n70b, n70c, n70d⟩)
      · skip
        have i21 := r_le1 0 1000 c21 j17_2 (in_c 1000 rfl) rfl
        refine g_aload_n 25 (gd rfl) rfl rfl ?_
        refine g_bipush 7 27 (gd rfl) rfl rfl ?_
        refine g_iconst 1 28 (gd rfl) rfl rfl ?_
        have v28 : u_46_1 = sc17.2.2.1 46 1 := fr_F e_46_1 hFc17 rfl
        have n28 : (w17_46_2).toInt ≤ (u_46_1).toInt := by first | exact n17_0 | (exact (have a0 := in_u ro_46_1; have a1 := in_u ((inv_F hIc17 448 28000 rfl v17_30_0)); have a2 := in_u ((inv_F hIc17 0 32 rfl v17_2_1)); have a3 := in_u ((inv_F hIc17 0 4000 rfl v17_2_0)); have a4 := in_u ((inv_F hIc17 0 1000 rfl v17_46_2)); have a5 := in_u i21; have oc := oc_135_1_46; by omega))
        refine g_callv (X := _) (As := [.int (Int32.ofInt 7), .int (Int32.ofInt 1)]) (r := []) (b := A 46) (q := 46) 31 (gd rfl) rfl rfl rfl rfl rfl (ww_o rfl) (Nat.le_of_ble_eq_true rfl) (Nat.zero_le _) (Nat.zero_le _) (f_171_46 (A := (ax A 30 ac17)) (by omega) hIc17 (in_w 7 7 (in_c 7 rfl) rfl) (in_w 1 1 (in_c 1 rfl) rfl) v17_46_2 v28 n28) (fun e u h => h) (fun v u h => ?_)
        obtain ⟨s28, hI28, hF28, n28a, n28b, n28c, rfl, rfl, p28, p28a, p28b⟩ := h
        obtain ⟨z28a, e28⟩ : ∃ w, w = s28.2.2.1 46 2 := ⟨_, rfl⟩
        have i28a := inv_F hI28 0 1000 rfl e28
        obtain ⟨z28b, e28a⟩ : ∃ w, w = s28.2.2.1 46 4 := ⟨_, rfl⟩
        have i28b := inv_F hI28 0 1000 rfl e28a
        rw [← (show z28a = s28.2.2.1 46 2 from e28)] at n28a
        rw [← (show u_46_1 = s28.2.2.1 46 1 from fr_F (fr_F e_46_1 hFc17 rfl) hF28 rfl)] at n28a
        rw [← (show z28a = s28.2.2.1 46 2 from e28)] at n28b
        rw [← (show z28b = s28.2.2.1 46 4 from e28a)] at n28b
        rw [← (show w17_46_2 = sc17.2.2.1 46 2 from v17_46_2)] at n28c
        rw [← (show z28b = s28.2.2.1 46 4 from e28a)] at n28c
        show GG _ _ _ _ _ _ _ _ [] _ _ _
        have ht28 : TKN (s28.1 47) (s28.2.2.1 46 1).toInt.toNat (w17_46_2).toInt.toNat (s28.2.2.1 46 4).toInt.toNat (s28.2.2.1 46 2).toInt.toNat (s28.2.2.1 46 3).toInt (s28.2.2.1 46 5).toInt := (by rw [hF28.1 47 rfl, hF28.2.2.1 46 1 rfl, v17_46_2]; exact p28b)
        have hx28 : s28.1 47 = s.1 47 := (hF28.1 47 rfl).trans (hFc17.1 47 rfl)
        have hl28 : s28.2.2.1 46 1 = s.2.2.1 46 1 := (hF28.2.2.1 46 1 rfl).trans (hFc17.2.2.1 46 1 rfl)
        have hg28 : gvC s28 = gvC sc17 := gvC_cg hF28 rfl
        have hk28 : ∀ t : GS, (∀ a : Nat, TKN (s28.1 47) (s28.2.2.1 46 1).toInt.toNat a (s28.2.2.1 46 4).toInt.toNat (s28.2.2.1 46 2).toInt.toNat (s28.2.2.1 46 3).toInt (s28.2.2.1 46 5).toInt → ∃ c V, CMP (s28.1 47) (s28.2.2.1 46 1).toInt.toNat a (s28.2.2.1 46 4).toInt.toNat c V (t.2.2.1 46 2).toInt.toNat ∧ dkC (gvC s28) c V ∧ gvC t = opC (gvC s28) c V) → LRN (s.1 47) (s.2.2.1 46 1).toInt.toNat (gvC s) (y17_2.toInt.toNat + 1) (t.2.2.1 46 2).toInt.toNat (gvC t) := (fun t h => by obtain ⟨c, V, h1, h2, h3⟩ := h _ ht28; rw [hx28, hl28] at h1; rw [hg28] at h2 h3; exact ⟨_, _, _, c, V, g17_4, h1, h2, h3⟩)
        refine g_aload_n 32 (gd rfl) rfl rfl ?_
        refine g_getI (A := (ax A 30 ac17)) (q := 46) 35 (gd rfl) rfl rfl rfl (fun z32 e32 => ?_)
        have i32 := inv_F hI28 0 5 rfl e32
        refine g_if_ne 38 40 (gd rfl) rfl rfl (fun c35 => ?_) (fun c35 => ?_)
        · skip
          have i35 := z_ne 1 5 c35 i32 rfl
          refine g_aload_n 41 (gd rfl) rfl rfl ?_
          refine g_aload_n 42 (gd rfl) rfl rfl ?_
          have v42 : w17_2_0 = s28.2.2.1 2 0 := fr_F (v17_2_0) hF28 rfl
          have v42a : w17_2_1 = s28.2.2.1 2 1 := fr_F (v17_2_1) hF28 rfl
          have v42b : w17_30_0 = s28.2.2.1 30 0 := fr_F (v17_30_0) hF28 rfl
          have v42c : u_46_1 = s28.2.2.1 46 1 := fr_F (fr_F e_46_1 hFc17 rfl) hF28 rfl
          have n42 : (z28a).toInt ≤ (u_46_1).toInt := by exact (have a0 := in_u ro_46_1; have a1 := in_u ((inv_F hIc17 448 28000 rfl v17_30_0)); have a2 := in_u ((inv_F hIc17 0 32 rfl v17_2_1)); have a3 := in_u ((inv_F hIc17 0 4000 rfl v17_2_0)); have a4 := in_u ((inv_F hIc17 0 1000 rfl v17_46_2)); have a5 := in_u i21; have a6 := in_u i35; have a7 := in_u i28b; have a8 := in_u i28a; have oc := oc_135_1_46; by omega)
          have p42 : KL s28 := by exact kl_fr g17_0 hF28 rfl
          have p42a : (s28.2.2.1 46 3).toInt = 1 → In (s28.2.2.1 46 5) 0 25 := by exact p28a
          have p42b : ∃ a : Nat, TKN (s28.1 47) (s28.2.2.1 46 1).toInt.toNat a (s28.2.2.1 46 4).toInt.toNat (s28.2.2.1 46 2).toInt.toNat (s28.2.2.1 46 3).toInt (s28.2.2.1 46 5).toInt := by exact ⟨_, ht28⟩
          have p42c : TQ s28 := by exact tq_fr g17_5 hF28 rfl
          have p42d : (s28.2.2.1 46 3).toInt ≠ 0 := by rw [← (show z32 = s28.2.2.1 46 3 from e32)]; exact (have a0 := in_u ro_46_1; have a1 := in_u ((inv_F hIc17 448 28000 rfl v17_30_0)); have a2 := in_u ((inv_F hIc17 0 32 rfl v17_2_1)); have a3 := in_u ((inv_F hIc17 0 4000 rfl v17_2_0)); have a4 := in_u ((inv_F hIc17 0 1000 rfl v17_46_2)); have a5 := in_u i21; have a6 := in_u i35; have a7 := in_u i28b; have a8 := in_u i28a; have oc := oc_135_1_46; by omega)
          refine g_callv (X := _) (As := [.ref (A 46)]) (r := []) (b := A 1) (q := 1) 45 (gd rfl) rfl rfl rfl rfl rfl (ww_o rfl) (Nat.le_of_ble_eq_true rfl) (Nat.le_trans (lg_lc (inv_F hI28 448 28000 (q := 30) (j := 0) rfl rfl)).1 (by have h2 := (lg_cg (hF28.2.2.1 30 0 rfl)).1; omega)) (Nat.le_trans (lg_lc (inv_F hI28 448 28000 (q := 30) (j := 0) rfl rfl)).2 (by have h2 := (lg_cg (hF28.2.2.1 30 0 rfl)).2; omega)) (f_136_1_46 (A := (ax A 30 ac17)) (by omega) hI28 v42 v42a v42b e28 v42c e32 e28a rfl n42 p42 p42a p42b p42c p42d) (fun e u h => h) (fun v u h => ?_)
          obtain ⟨a42, s42, hI42, hF42, n42a, n42b, z42, rfl, rfl, i42, p42e, p42f, p42g, p42h, p42i, p42j, p42k, p42l, p42m, p42n⟩ := h
          rw [ax_ax]
          obtain ⟨z42a, e42⟩ : ∃ w, w = s42.2.2.1 46 2 := ⟨_, rfl⟩
          have i42a := inv_F hI42 0 1000 rfl e42
          obtain ⟨z42b, e42a⟩ : ∃ w, w = s42.2.2.1 2 0 := ⟨_, rfl⟩
          have i42b := inv_F hI42 0 4000 rfl e42a
          rw [← (show z42a = s42.2.2.1 46 2 from e42)] at n42a
          rw [← (show u_46_1 = s42.2.2.1 46 1 from fr_F (fr_F (fr_F e_46_1 hFc17 rfl) hF28 rfl) hF42 rfl)] at n42a
          rw [← (show w17_2_0 = s28.2.2.1 2 0 from fr_F (v17_2_0) hF28 rfl)] at n42b
          rw [← (show z42b = s42.2.2.1 2 0 from e42a)] at n42b
          show GG _ _ _ _ _ _ _ _ [.int z42] _ _ _
          have hv42 : _ = s42.2.2.1 2 0 := (show z42b = s42.2.2.1 2 0 from e42a)
          refine g_if_ne 48 62 (gd rfl) rfl rfl (fun c45 => ?_) (fun c45 => ?_)
          · skip
            have i45 := z_ne 1 1 c45 i42 rfl
            refine g_iinc 65 (gd rfl) rfl rfl (Nat.le_of_ble_eq_true rfl) (fun z62 e62 => ?_)
            have i62 := in_add 1 1001 e62 i21 (in_c 1 rfl) rfl rfl
            refine g_goto 17 (gd rfl) rfl ?_
            have hr17 : lgC s42 ≤ (cc17 - lc s28) := by have h := (lgt_st (s := s28) (t := s42) (inv_F hI28 448 28000 (q := 30) (j := 0) rfl rfl) (p42g c45) (kl_fr g17_0 hF28 rfl).2.1 (p42f c45)).1; have h2 := (lg_cg (hF28.2.2.1 30 0 rfl)).1; omega
            have hr17a : lgS s42 ≤ (cs17 - lsl s28) := by have h := (lgt_st (s := s28) (t := s42) (inv_F hI28 448 28000 (q := 30) (j := 0) rfl rfl) (p42g c45) (kl_fr g17_0 hF28 rfl).2.1 (p42f c45)).2; have h2 := (lg_cg (hF28.2.2.1 30 0 rfl)).2; omega
            have n17 : (z42a).toInt ≤ (u_46_1).toInt := by exact (have a0 := in_u ro_46_1; have a1 := in_u ((inv_F hIc17 448 28000 rfl v17_30_0)); have a2 := in_u ((inv_F hIc17 0 32 rfl v17_2_1)); have a3 := in_u ((inv_F hIc17 0 4000 rfl v17_2_0)); have a4 := in_u ((inv_F hIc17 0 1000 rfl v17_46_2)); have a5 := in_u i21; have a6 := in_u i62; have a7 := t_add e62 i21 (in_c 1 rfl) rfl; have a8 := in_u ((in_c 1 rfl)); have a9 := in_u i42b; have a10 := in_u i42a; have oc := oc_135_1_46; by omega)
            have n17a : (u_2_0).toInt ≤ (z42b).toInt := by exact (have a0 := in_u ro_46_1; have a1 := in_u ((inv_F hIc17 448 28000 rfl v17_30_0)); have a2 := in_u ((inv_F hIc17 0 32 rfl v17_2_1)); have a3 := in_u ((inv_F hIc17 0 4000 rfl v17_2_0)); have a4 := in_u ((inv_F hIc17 0 1000 rfl v17_46_2)); have a5 := in_u i21; have a6 := in_u i62; have a7 := t_add e62 i21 (in_c 1 rfl) rfl; have a8 := in_u ((in_c 1 rfl)); have a9 := in_u i42b; have a10 := in_u i42a; have oc := oc_135_1_46; by omega)
            have n17b : KL s42 := by exact p42e
            have n17c : (∀ p : Nat, p < 160 → s42.1 18 p = s.1 4 p ∧ s42.1 19 p = s.1 5 p) ∧ s42.2.2.1 16 0 = s.2.2.1 2 0 ∧ s42.2.2.1 16 1 = s.2.2.1 2 1 := by exact ⟨fun p hp => by rw [hF42.1 18 rfl, hF42.1 19 rfl, hF28.1 18 rfl, hF28.1 19 rfl]; exact g17_1.1 p hp, by rw [hF42.2.2.1 16 0 rfl, hF28.2.2.1 16 0 rfl]; exact g17_1.2.1, by rw [hF42.2.2.1 16 1 rfl, hF28.2.2.1 16 1 rfl]; exact g17_1.2.2⟩
            have n17d : ∀ k : Nat, (k : Int) < 7 * (s.2.2.1 2 0).toInt → s42.1 30 k = s.1 30 k := by exact fun k hk => by rw [p42h k (by rw [hF28.2.2.1 2 0 rfl, ← v17_2_0]; rw [← e_2_0] at hk; exact (have a0 := in_u ro_46_1; have a1 := in_u ((inv_F hIc17 448 28000 rfl v17_30_0)); have a2 := in_u ((inv_F hIc17 0 32 rfl v17_2_1)); have a3 := in_u ((inv_F hIc17 0 4000 rfl v17_2_0)); have a4 := in_u ((inv_F hIc17 0 1000 rfl v17_46_2)); have a5 := in_u i21; have a6 := in_u i62; have a7 := t_add e62 i21 (in_c 1 rfl) rfl; have a8 := in_u ((in_c 1 rfl)); have a9 := in_u i42b; have a10 := in_u i42a; have oc := oc_135_1_46; by omega)), hF28.1 30 rfl]; exact g17_2 k hk
            have n17e : GEQ (gvS s42) (gvC s) ∧ TQS s42 := by exact ⟨by rw [gvS_cg hF42 rfl, gvS_cg hF28 rfl]; exact g17_3.1, tqs_fr (tqs_fr g17_3.2 hF28 rfl) hF42 rfl⟩
            have n17f : LRN (s.1 47) (s.2.2.1 46 1).toInt.toNat (gvC s) (z62).toInt.toNat (z42a).toInt.toNat (gvC s42) := by have hn9 := hk28 _ (p42i c45); rw [show z62.toInt.toNat = y17_2.toInt.toNat + 1 from (by exact (have a0 := in_u ro_46_1; have a1 := in_u ((inv_F hIc17 448 28000 rfl v17_30_0)); have a2 := in_u ((inv_F hIc17 0 32 rfl v17_2_1)); have a3 := in_u ((inv_F hIc17 0 4000 rfl v17_2_0)); have a4 := in_u ((inv_F hIc17 0 1000 rfl v17_46_2)); have a5 := in_u i21; have a6 := in_u i62; have a7 := t_add e62 i21 (in_c 1 rfl) rfl; have a8 := in_u ((in_c 1 rfl)); have a9 := in_u i42b; have a10 := in_u i42a; have oc := oc_135_1_46; by omega)), ((show z42a = s42.2.2.1 46 2 from e42))]; exact hn9
            have n17g : TQ s42 := by exact p42k c45
            have n17h : (s42.2.2.1 46 6).toInt = -1 ∧ (s42.2.2.1 46 7).toInt = -1 := by exact ⟨by rw [(p42l c45).1, hF28.2.2.1 46 6 rfl]; exact g17_6.1, by rw [(p42l c45).2, hF28.2.2.1 46 7 rfl]; exact g17_6.2⟩
            have n17i : LGS s s42 (z62).toInt.toNat := by exact lgs_s g17_7 (show z62.toInt.toNat = y17_2.toInt.toNat + 1 from (by exact (have a0 := in_u ro_46_1; have a1 := in_u ((inv_F hIc17 448 28000 rfl v17_30_0)); have a2 := in_u ((inv_F hIc17 0 32 rfl v17_2_1)); have a3 := in_u ((inv_F hIc17 0 4000 rfl v17_2_0)); have a4 := in_u ((inv_F hIc17 0 1000 rfl v17_46_2)); have a5 := in_u i21; have a6 := in_u i62; have a7 := t_add e62 i21 (in_c 1 rfl) rfl; have a8 := in_u ((in_c 1 rfl)); have a9 := in_u i42b; have a10 := in_u i42a; have oc := oc_135_1_46; by omega))) (lgc_fr (p42n c45) hF28 rfl) (inv_F hI (z := s.2.2.1 2 0) 0 4000 rfl rfl).1 (by rw [show z62.toInt.toNat = y17_2.toInt.toNat + 1 from (by exact (have a0 := in_u ro_46_1; have a1 := in_u ((inv_F hIc17 448 28000 rfl v17_30_0)); have a2 := in_u ((inv_F hIc17 0 32 rfl v17_2_1)); have a3 := in_u ((inv_F hIc17 0 4000 rfl v17_2_0)); have a4 := in_u ((inv_F hIc17 0 1000 rfl v17_46_2)); have a5 := in_u i21; have a6 := in_u i62; have a7 := t_add e62 i21 (in_c 1 rfl) rfl; have a8 := in_u ((in_c 1 rfl)); have a9 := in_u i42b; have a10 := in_u i42a; have oc := oc_135_1_46; by omega))]; exact ⟨_, hk28 _ (p42i c45)⟩)
            exact gg_w (by first | exact Nat.le_add_right _ _ | exact gw2 | exact gw3 | exact gwe rfl | exact gwf rfl | exact gwg rfl | exact gwh rfl | omega) (gg_f (gf_cons rfl (gf_cons rfl (gf_cons rfl gf_nil))) (ih17 s42 a42 (cc17 - lc s28) (cs17 - lsl s28) z62 z42a z42b _ _ hI42 (fr_tr rfl (fr_tr rfl hFc17 hF28) hF42) hr17 hr17a (in_w 0 2001 i62 rfl) e42 e42a rfl rfl n17 n17a n17b n17c n17d n17e n17f n17g n17h n17i (m_up mm17 (t_add e62 i21 (in_c 1 rfl) rfl) (in_w 1 1 (in_c 1 rfl) rfl))))
          · skip
            have i45 := z_eq 0 0 c45 i42 rfl
            refine g_aload_n 49 (gd rfl) rfl rfl ?_
            refine g_getA (A := (ax A 30 a42)) (q := 1) (q2 := 2) 52 (gd rfl) rfl rfl rfl rfl ?_
            refine g_aload_n 53 (gd rfl) rfl rfl ?_
            refine g_getA (A := (ax A 30 a42)) (q := 1) (q2 := 16) 56 (gd rfl) rfl rfl rfl rfl ?_
            refine g_callv (X := _) (As := [.ref (A 16)]) (r := []) (b := A 2) (q := 2) 59 (gd rfl) rfl rfl rfl rfl rfl (ww_o rfl) (Nat.le_of_ble_eq_true rfl) (Nat.zero_le _) (Nat.zero_le _) (f_93_2_16 (A := (ax A 30 a42)) (by omega) hI42 ) (fun e u h => h) (fun v u h => ?_)
            obtain ⟨s56, hI56, hF56, rfl, rfl, p56, p56a, p56b, p56c, p56d, p56e, p56f, p56g, p56h⟩ := h
            show GG _ _ _ _ _ _ _ _ [] _ _ _
            refine g_bipush (-4) 61 (gd rfl) rfl rfl ?_
            have n61 : KL s56 := by have hFF : Fr fm_135_1_46 s s56 := (fr_tr rfl (fr_tr rfl (fr_tr rfl hFc17 hF28) hF42) hF56); exact kl_bk q_0 (fun k hk => by rw [hF56.1 30 rfl, p42h k (by rw [hF28.2.2.1 2 0 rfl, ← v17_2_0]; rw [← e_2_0] at hk; exact (have a0 := in_u ro_46_1; have a1 := in_u ((inv_F hIc17 448 28000 rfl v17_30_0)); have a2 := in_u ((inv_F hIc17 0 32 rfl v17_2_1)); have a3 := in_u ((inv_F hIc17 0 4000 rfl v17_2_0)); have a4 := in_u ((inv_F hIc17 0 1000 rfl v17_46_2)); have a5 := in_u i21; have a6 := in_u i42a; have oc := oc_135_1_46; by omega)), hF28.1 30 rfl]; exact g17_2 k hk) (by have h9 := p42e.2.1; rw [hF56.2.2.1 30 0 rfl]; rw [← hv42] at h9; rw [← e_2_0]; exact (have a0 := in_u ro_46_1; have a1 := in_u ((inv_F hIc17 448 28000 rfl v17_30_0)); have a2 := in_u ((inv_F hIc17 0 32 rfl v17_2_1)); have a3 := in_u ((inv_F hIc17 0 4000 rfl v17_2_0)); have a4 := in_u ((inv_F hIc17 0 1000 rfl v17_46_2)); have a5 := in_u i21; have a6 := in_u i42a; have oc := oc_135_1_46; by omega)) (by rw [p56b, hF42.2.2.1 16 0 rfl, hF28.2.2.1 16 0 rfl]; exact g17_1.2.1) (by rw [p56c, hF42.2.2.1 16 1 rfl, hF28.2.2.1 16 1 rfl]; exact g17_1.2.2) (kn_cp q_0.2.2.2.1.2 (fun p hp => by rw [p56 p hp, hF42.1 18 rfl, hF28.1 18 rfl]; exact (g17_1.1 p hp).1) (fun p hp => by rw [p56a p hp, hF42.1 19 rfl, hF28.1 19 rfl]; exact (g17_1.1 p hp).2)) (hFF.2.2.1 32 0 rfl) (hFF.2.2.1 32 1 rfl) (hFF.1 34 rfl) (hFF.1 35 rfl)
            have n61a : ((Int32.ofInt (-4))).toInt ≠ -4 → LOT (s.1 47) (s.2.2.1 46 1).toInt.toNat (gvC s) ((Int32.ofInt (-4))).toInt 0 0 (gvC s56) ∧ (s56.2.2.1 46 6).toInt = -1 ∧ (s56.2.2.1 46 7).toInt = -1 := by intro h; exact absurd rfl h
            have n61b : ((Int32.ofInt (-4))).toInt = -4 → LOT (s.1 47) (s.2.2.1 46 1).toInt.toNat (gvC s) (-4) (s56.2.2.1 46 6).toInt (s56.2.2.1 46 7).toInt (gvC s56) := by intro _; have h9 := p42j (by exact (have a0 := in_u ro_46_1; have a1 := in_u ((inv_F hIc17 448 28000 rfl v17_30_0)); have a2 := in_u ((inv_F hIc17 0 32 rfl v17_2_1)); have a3 := in_u ((inv_F hIc17 0 4000 rfl v17_2_0)); have a4 := in_u ((inv_F hIc17 0 1000 rfl v17_46_2)); have a5 := in_u i21; have a6 := in_u i42a; have oc := oc_135_1_46; by omega)) _ ht28; rw [hx28, hl28, hg28] at h9; refine Or.inr ⟨y17_2.toInt.toNat, w17_46_2.toInt.toNat, (s42.2.2.1 46 7).toInt.toNat, gvC sc17, g17_4, ?_, rfl, ?_, (show GEQ (gvC s56) (gvC s) from geq_t (show GEQ (gvC s56) (gvS s42) from ⟨p56d, p56, p56a, p56e, p56f, p56g, congrArg Int32.toInt p56c, congrArg Int32.toInt p56b⟩) (by rw [gvS_cg hF42 rfl, gvS_cg hF28 rfl]; exact g17_3.1))⟩; (rw [hF56.2.2.1 46 6 rfl]; exact h9); (rw [hF56.2.2.1 46 7 rfl]; have h8 := p42m (by exact (have a0 := in_u ro_46_1; have a1 := in_u ((inv_F hIc17 448 28000 rfl v17_30_0)); have a2 := in_u ((inv_F hIc17 0 32 rfl v17_2_1)); have a3 := in_u ((inv_F hIc17 0 4000 rfl v17_2_0)); have a4 := in_u ((inv_F hIc17 0 1000 rfl v17_46_2)); have a5 := in_u i21; have a6 := in_u i42a; have oc := oc_135_1_46; by omega)); omega)
            have n61c : TQ s56 := by intro p hp hn; rw [p56h]; exact (tqs_fr (tqs_fr g17_3.2 hF28 rfl) hF42 rfl) p hp (by rw [← p56 p hp]; exact hn)
            have n61d : LCO s s56 (Int32.ofInt (-4)) := by exact ⟨fun h => absurd rfl h, fun _ => (by obtain ⟨G, -, -, hpf, hgv, -⟩ := g17_7; intro k hk; rw [hF56.1 30 rfl, (show s42.1 30 k = s28.1 30 k from (by have hw : (s28.2.2.1 2 0).toInt = (sc17.2.2.1 2 0).toInt := congrArg Int32.toInt (hF28.2.2.1 2 0 rfl); first | exact p42h k (by omega) | exact p42g k (by omega))), hF28.1 30 rfl]; exact hpf k hk)⟩
            exact g_ireturn (gd rfl) rfl rfl (hP _ _ ⟨a42, s56, hI56, (fr_tr rfl (fr_tr rfl (fr_tr rfl hFc17 hF28) hF42) hF56), (Int32.ofInt (-4)), rfl, rfl, in_w (-4) 1000 (in_c (-4) rfl) rfl, n61, n61a, n61b, n61c, n61d⟩)
        · skip
          have i35 := z_eq 0 0 c35 i32 rfl
          refine g_iload_n 39 (gd rfl) rfl rfl ?_
          have n39 : KL s28 := by exact kl_fr g17_0 hF28 rfl
          have n39a : (y17_2).toInt ≠ -4 → LOT (s.1 47) (s.2.2.1 46 1).toInt.toNat (gvC s) (y17_2).toInt 0 0 (gvC s28) ∧ (s28.2.2.1 46 6).toInt = -1 ∧ (s28.2.2.1 46 7).toInt = -1 := by intro _; have h9 := ht28; rw [hx28, hl28, show (s28.2.2.1 46 3).toInt = 0 from (by rw [← (show z32 = s28.2.2.1 46 3 from e32)]; exact (have a0 := in_u ro_46_1; have a1 := in_u ((inv_F hIc17 448 28000 rfl v17_30_0)); have a2 := in_u ((inv_F hIc17 0 32 rfl v17_2_1)); have a3 := in_u ((inv_F hIc17 0 4000 rfl v17_2_0)); have a4 := in_u ((inv_F hIc17 0 1000 rfl v17_46_2)); have a5 := in_u i21; have a6 := in_u i35; have a7 := in_u i28b; have a8 := in_u i28a; have oc := oc_135_1_46; by omega))] at h9; exact ⟨Or.inl ⟨y17_2.toInt.toNat, w17_46_2.toInt.toNat, gvC sc17, g17_4, ⟨_, _, _, h9⟩, (by exact (have a0 := in_u ro_46_1; have a1 := in_u ((inv_F hIc17 448 28000 rfl v17_30_0)); have a2 := in_u ((inv_F hIc17 0 32 rfl v17_2_1)); have a3 := in_u ((inv_F hIc17 0 4000 rfl v17_2_0)); have a4 := in_u ((inv_F hIc17 0 1000 rfl v17_46_2)); have a5 := in_u i21; have a6 := in_u i35; have a7 := in_u i28b; have a8 := in_u i28a; have oc := oc_135_1_46; by omega)), rfl, by rw [hg28]; exact geq_r⟩, by rw [hF28.2.2.1 46 6 rfl]; exact g17_6.1, by rw [hF28.2.2.1 46 7 rfl]; exact g17_6.2⟩
          have n39b : (y17_2).toInt = -4 → LOT (s.1 47) (s.2.2.1 46 1).toInt.toNat (gvC s) (-4) (s28.2.2.1 46 6).toInt (s28.2.2.1 46 7).toInt (gvC s28) := by intro h; exfalso; exact (have a0 := in_u ro_46_1; have a1 := in_u ((inv_F hIc17 448 28000 rfl v17_30_0)); have a2 := in_u ((inv_F hIc17 0 32 rfl v17_2_1)); have a3 := in_u ((inv_F hIc17 0 4000 rfl v17_2_0)); have a4 := in_u ((inv_F hIc17 0 1000 rfl v17_46_2)); have a5 := in_u i21; have a6 := in_u i35; have a7 := in_u i28b; have a8 := in_u i28a; have oc := oc_135_1_46; by omega)
          have n39c : TQ s28 := by exact tq_fr g17_5 hF28 rfl
          have n39d : LCO s s28 y17_2 := by exact ⟨fun _ => (by have q := g17_7; obtain ⟨G, b1, b2, b3, b4, b5⟩ := q; exact ⟨G, b1, by rw [b2]; exact hg28.symm, fun k hk => by rw [hF28.1 30 rfl]; exact b3 k hk, by rw [hF28.2.2.1 2 0 rfl]; exact b4, by rw [hF28.1 30 rfl]; exact b5⟩), fun h => (by exfalso; exact (have a0 := in_u ro_46_1; have a1 := in_u ((inv_F hIc17 448 28000 rfl v17_30_0)); have a2 := in_u ((inv_F hIc17 0 32 rfl v17_2_1)); have a3 := in_u ((inv_F hIc17 0 4000 rfl v17_2_0)); have a4 := in_u ((inv_F hIc17 0 1000 rfl v17_46_2)); have a5 := in_u i21; have a6 := in_u i35; have a7 := in_u i28b; have a8 := in_u i28a; have oc := oc_135_1_46; by omega))⟩
          exact g_ireturn (gd rfl) rfl rfl (hP _ _ ⟨ac17, s28, hI28, (fr_tr rfl hFc17 hF28), y17_2, rfl, rfl, in_w (-4) 1000 i21 rfl, n39, n39a, n39b, n39c, n39d⟩)
  refine g_enter2 (k := 135) (N := 1802701) (by first | exact dq1 hd rfl | exact dq0 hd rfl | exact dq2 hd rfl | exact dq3 hd rfl | omega) rfl (Nat.le_of_ble_eq_true rfl) ?_
  refine g_aload_n 1 (gd rfl) rfl rfl ?_
  refine g_getA (q2 := 16) 4 (gd rfl) rfl rfl rfl rfl ?_
  refine g_aload_n 5 (gd rfl) rfl rfl ?_
  refine g_getA (q2 := 2) 8 (gd rfl) rfl rfl rfl rfl ?_
  refine g_callv (X := _) (As := [.ref (A 2)]) (r := []) (b := A 16) (q := 16) 11 (gd rfl) rfl rfl rfl rfl rfl (ww_o rfl) (Nat.le_of_ble_eq_true rfl) (Nat.zero_le _) (Nat.zero_le _) (f_93_16_2 (by first | exact dq1 hd rfl | exact dq0 hd rfl | exact dq2 hd rfl | exact dq3 hd rfl | omega) hI ) (fun e u h => h) (fun v u h => ?_)
  obtain ⟨s8, hI8, hF8, rfl, rfl, p8, p8a, p8b, p8c, p8d, p8e, p8f, p8g, p8h⟩ := h
  show GG _ _ _ _ _ _ _ _ [] _ _ _
  refine g_aload_n 12 (gd rfl) rfl rfl ?_
  refine g_callv (X := _) (As := []) (r := []) (b := A 46) (q := 46) 15 (gd rfl) rfl rfl rfl rfl rfl (ww_o rfl) (Nat.le_of_ble_eq_true rfl) (mc := 0) (ms := 0) (Nat.zero_le _) (Nat.zero_le _) (P := fun v u => _) ?_ (fun e u h => h) (fun v u h => h)
  intro po12 xx12 hp12 hx12
  refine g_enter2 (k := 167) (N := 300) (by first | exact dq1 hd rfl | exact dq0 hd rfl | exact dq2 hd rfl | exact dq3 hd rfl | omega) rfl (Nat.le_of_ble_eq_true rfl) ?_
  refine g_aload_n 1 (gd rfl) rfl rfl ?_
  refine g_iconst 0 2 (gd rfl) rfl rfl ?_
  refine g_putI 5 (gd rfl) rfl rfl rfl rfl ?_
  have hI12x2 := inv_sF (q := 46) (j := 2) hI8 rfl (in_w 0 1000 (in_c 0 rfl) rfl)
  refine g_aload_n 6 (gd rfl) rfl rfl ?_
  refine g_iconst (-1) 7 (gd rfl) rfl rfl ?_
  refine g_putI 10 (gd rfl) rfl rfl rfl rfl ?_
  have hI12x7 := inv_sF (q := 46) (j := 6) hI12x2 rfl (in_w (-1) 5 (in_c (-1) rfl) rfl)
  refine g_aload_n 11 (gd rfl) rfl rfl ?_
  refine g_iconst (-1) 12 (gd rfl) rfl rfl ?_
  refine g_putI 15 (gd rfl) rfl rfl rfl rfl ?_
  have hI12x12 := inv_sF (q := 46) (j := 7) hI12x7 rfl (in_w (-1) 1000 (in_c (-1) rfl) rfl)
  refine g_return (gd rfl) rfl (hp12 _ _ ?_)
  show GG _ _ _ _ _ _ _ _ [] _ _ _
  refine g_iconst 0 16 (gd rfl) rfl rfl ?_
  refine g_istore_n 17 (gd rfl) rfl (Nat.le_of_ble_eq_true rfl) ?_
  have hr17 : lgC (sF (sF (sF s8 46 2 (Int32.ofInt 0)) 46 6 (Int32.ofInt (-1))) 46 7 (Int32.ofInt (-1))) ≤ (lgC s) := by exact Nat.le_of_eq (lg_cg ((show Fr ([17, 18, 19, 20, 21, 22], [], [(16, 0), (16, 1), (16, 2), (16, 3), (16, 4), (46, 2), (46, 6), (46, 7)], []) s (sF (sF (sF s8 46 2 (Int32.ofInt 0)) 46 6 (Int32.ofInt (-1))) 46 7 (Int32.ofInt (-1))) from (fr_sF rfl (fr_sF rfl (fr_sF rfl (fr_tr rfl fr_rf hF8))))).2.2.1 30 0 rfl)).1
  have hr17a : lgS (sF (sF (sF s8 46 2 (Int32.ofInt 0)) 46 6 (Int32.ofInt (-1))) 46 7 (Int32.ofInt (-1))) ≤ (lgS s) := by exact Nat.le_of_eq (lg_cg ((show Fr ([17, 18, 19, 20, 21, 22], [], [(16, 0), (16, 1), (16, 2), (16, 3), (16, 4), (46, 2), (46, 6), (46, 7)], []) s (sF (sF (sF s8 46 2 (Int32.ofInt 0)) 46 6 (Int32.ofInt (-1))) 46 7 (Int32.ofInt (-1))) from (fr_sF rfl (fr_sF rfl (fr_sF rfl (fr_tr rfl fr_rf hF8))))).2.2.1 30 0 rfl)).2
  rw [show WW Z A (sF (sF (sF s8 46 2 (Int32.ofInt 0)) 46 6 (Int32.ofInt (-1))) 46 7 (Int32.ofInt (-1))) ++ ex = WW Z (ax A 30 (A 30)) (sF (sF (sF s8 46 2 (Int32.ofInt 0)) 46 6 (Int32.ofInt (-1))) 46 7 (Int32.ofInt (-1))) ++ ex from by rw [ax_id]]
  have v17 : (Int32.ofInt 0) = (sF (sF (sF s8 46 2 (Int32.ofInt 0)) 46 6 (Int32.ofInt (-1))) 46 7 (Int32.ofInt (-1))).2.2.1 46 2 := sF_ne rfl (sF_ne rfl (sF_get))
  have v17a : u_2_0 = (sF (sF (sF s8 46 2 (Int32.ofInt 0)) 46 6 (Int32.ofInt (-1))) 46 7 (Int32.ofInt (-1))).2.2.1 2 0 := sF_ne rfl (sF_ne rfl (sF_ne rfl (fr_F (e_2_0) hF8 rfl)))
  have v17b : u_2_1 = (sF (sF (sF s8 46 2 (Int32.ofInt 0)) 46 6 (Int32.ofInt (-1))) 46 7 (Int32.ofInt (-1))).2.2.1 2 1 := sF_ne rfl (sF_ne rfl (sF_ne rfl (fr_F (e_2_1) hF8 rfl)))
  have v17c : u_30_0 = (sF (sF (sF s8 46 2 (Int32.ofInt 0)) 46 6 (Int32.ofInt (-1))) 46 7 (Int32.ofInt (-1))).2.2.1 30 0 := sF_ne rfl (sF_ne rfl (sF_ne rfl (fr_F (e_30_0) hF8 rfl)))
  have n17 : ((Int32.ofInt 0)).toInt ≤ (u_46_1).toInt := by exact (have a0 := in_u ((inv_F hI 0 1000 rfl e_46_1)); have a1 := in_u ((inv_F hI 448 28000 rfl e_30_0)); have a2 := in_u ((inv_F hI 0 32 rfl e_2_1)); have a3 := in_u ((inv_F hI 0 4000 rfl e_2_0)); have a4 := in_u ((in_c 0 rfl)); have a5 := in_u ((in_c (-1) rfl)); have oc := oc_135_1_46; by omega)
  have n17a : (u_2_0).toInt ≤ (u_2_0).toInt := by exact (have a0 := in_u ((inv_F hI 0 1000 rfl e_46_1)); have a1 := in_u ((inv_F hI 448 28000 rfl e_30_0)); have a2 := in_u ((inv_F hI 0 32 rfl e_2_1)); have a3 := in_u ((inv_F hI 0 4000 rfl e_2_0)); have a4 := in_u ((in_c 0 rfl)); have a5 := in_u ((in_c (-1) rfl)); have oc := oc_135_1_46; by omega)
  have n17b : KL (sF (sF (sF s8 46 2 (Int32.ofInt 0)) 46 6 (Int32.ofInt (-1))) 46 7 (Int32.ofInt (-1))) := by exact kl_fr q_0 (show Fr ([17, 18, 19, 20, 21, 22], [], [(16, 0), (16, 1), (16, 2), (16, 3), (16, 4), (46, 2), (46, 6), (46, 7)], []) s (sF (sF (sF s8 46 2 (Int32.ofInt 0)) 46 6 (Int32.ofInt (-1))) 46 7 (Int32.ofInt (-1))) from (fr_sF rfl (fr_sF rfl (fr_sF rfl (fr_tr rfl fr_rf hF8))))) rfl
  have n17c : (∀ p : Nat, p < 160 → (sF (sF (sF s8 46 2 (Int32.ofInt 0)) 46 6 (Int32.ofInt (-1))) 46 7 (Int32.ofInt (-1))).1 18 p = s.1 4 p ∧ (sF (sF (sF s8 46 2 (Int32.ofInt 0)) 46 6 (Int32.ofInt (-1))) 46 7 (Int32.ofInt (-1))).1 19 p = s.1 5 p) ∧ (sF (sF (sF s8 46 2 (Int32.ofInt 0)) 46 6 (Int32.ofInt (-1))) 46 7 (Int32.ofInt (-1))).2.2.1 16 0 = s.2.2.1 2 0 ∧ (sF (sF (sF s8 46 2 (Int32.ofInt 0)) 46 6 (Int32.ofInt (-1))) 46 7 (Int32.ofInt (-1))).2.2.1 16 1 = s.2.2.1 2 1 := by exact ⟨fun p hp => ⟨p8 p hp, p8a p hp⟩, p8b, p8c⟩
  have n17d : ∀ k : Nat, (k : Int) < 7 * (s.2.2.1 2 0).toInt → (sF (sF (sF s8 46 2 (Int32.ofInt 0)) 46 6 (Int32.ofInt (-1))) 46 7 (Int32.ofInt (-1))).1 30 k = s.1 30 k := by exact fun k _ => by rw [(show Fr ([17, 18, 19, 20, 21, 22], [], [(16, 0), (16, 1), (16, 2), (16, 3), (16, 4), (46, 2), (46, 6), (46, 7)], []) s (sF (sF (sF s8 46 2 (Int32.ofInt 0)) 46 6 (Int32.ofInt (-1))) 46 7 (Int32.ofInt (-1))) from (fr_sF rfl (fr_sF rfl (fr_sF rfl (fr_tr rfl fr_rf hF8))))).1 30 rfl]
  have n17e : GEQ (gvS (sF (sF (sF s8 46 2 (Int32.ofInt 0)) 46 6 (Int32.ofInt (-1))) 46 7 (Int32.ofInt (-1)))) (gvC s) ∧ TQS (sF (sF (sF s8 46 2 (Int32.ofInt 0)) 46 6 (Int32.ofInt (-1))) 46 7 (Int32.ofInt (-1))) := by exact ⟨⟨p8d, p8, p8a, p8e, p8f, p8g, congrArg Int32.toInt p8c, congrArg Int32.toInt p8b⟩, fun p hp hn => by have h9 := q_1 p hp (by rw [← p8 p hp]; exact hn); rw [← p8h] at h9; exact h9⟩
  have n17f : LRN (s.1 47) (s.2.2.1 46 1).toInt.toNat (gvC s) ((Int32.ofInt 0)).toInt.toNat ((Int32.ofInt 0)).toInt.toNat (gvC (sF (sF (sF s8 46 2 (Int32.ofInt 0)) 46 6 (Int32.ofInt (-1))) 46 7 (Int32.ofInt (-1)))) := by exact ⟨rfl, gvC_cg (show Fr ([17, 18, 19, 20, 21, 22], [], [(16, 0), (16, 1), (16, 2), (16, 3), (16, 4), (46, 2), (46, 6), (46, 7)], []) s (sF (sF (sF s8 46 2 (Int32.ofInt 0)) 46 6 (Int32.ofInt (-1))) 46 7 (Int32.ofInt (-1))) from (fr_sF rfl (fr_sF rfl (fr_sF rfl (fr_tr rfl fr_rf hF8))))) rfl⟩
  have n17g : TQ (sF (sF (sF s8 46 2 (Int32.ofInt 0)) 46 6 (Int32.ofInt (-1))) 46 7 (Int32.ofInt (-1))) := by exact tq_fr q_1 (show Fr ([17, 18, 19, 20, 21, 22], [], [(16, 0), (16, 1), (16, 2), (16, 3), (16, 4), (46, 2), (46, 6), (46, 7)], []) s (sF (sF (sF s8 46 2 (Int32.ofInt 0)) 46 6 (Int32.ofInt (-1))) 46 7 (Int32.ofInt (-1))) from (fr_sF rfl (fr_sF rfl (fr_sF rfl (fr_tr rfl fr_rf hF8))))) rfl
  have n17h : ((sF (sF (sF s8 46 2 (Int32.ofInt 0)) 46 6 (Int32.ofInt (-1))) 46 7 (Int32.ofInt (-1))).2.2.1 46 6).toInt = -1 ∧ ((sF (sF (sF s8 46 2 (Int32.ofInt 0)) 46 6 (Int32.ofInt (-1))) 46 7 (Int32.ofInt (-1))).2.2.1 46 7).toInt = -1 := by exact ⟨by rw [← (show (Int32.ofInt (-1)) = (sF (sF (sF s8 46 2 (Int32.ofInt 0)) 46 6 (Int32.ofInt (-1))) 46 7 (Int32.ofInt (-1))).2.2.1 46 6 from sF_ne rfl (sF_get))]; rfl, by rw [← (show (Int32.ofInt (-1)) = (sF (sF (sF s8 46 2 (Int32.ofInt 0)) 46 6 (Int32.ofInt (-1))) 46 7 (Int32.ofInt (-1))).2.2.1 46 7 from sF_get)]; rfl⟩
  have n17i : LGS s (sF (sF (sF s8 46 2 (Int32.ofInt 0)) 46 6 (Int32.ofInt (-1))) 46 7 (Int32.ofInt (-1))) ((Int32.ofInt 0)).toInt.toNat := by exact lgs_0 (gvC_cg (show Fr ([17, 18, 19, 20, 21, 22], [], [(16, 0), (16, 1), (16, 2), (16, 3), (16, 4), (46, 2), (46, 6), (46, 7)], []) s (sF (sF (sF s8 46 2 (Int32.ofInt 0)) 46 6 (Int32.ofInt (-1))) 46 7 (Int32.ofInt (-1))) from (fr_sF rfl (fr_sF rfl (fr_sF rfl (fr_tr rfl fr_rf hF8))))) rfl) ((show Fr ([17, 18, 19, 20, 21, 22], [], [(16, 0), (16, 1), (16, 2), (16, 3), (16, 4), (46, 2), (46, 6), (46, 7)], []) s (sF (sF (sF s8 46 2 (Int32.ofInt 0)) 46 6 (Int32.ofInt (-1))) 46 7 (Int32.ofInt (-1))) from (fr_sF rfl (fr_sF rfl (fr_sF rfl (fr_tr rfl fr_rf hF8))))).1 30 rfl)
  exact gg_w (by first | exact Nat.le_of_ble_eq_true rfl | omega) (gg_f (gf_cons rfl (gf_cons rfl (gf_cons rfl gf_nil))) (ct17 2002 (sF (sF (sF s8 46 2 (Int32.ofInt 0)) 46 6 (Int32.ofInt (-1))) 46 7 (Int32.ofInt (-1))) (A 30) (lgC s) (lgS s) (Int32.ofInt 0) (Int32.ofInt 0) u_2_0 u_2_1 u_30_0 hI12x12 (fr_sF rfl (fr_sF rfl (fr_sF rfl (fr_tr rfl fr_rf hF8)))) hr17 hr17a (in_w 0 2001 (in_c 0 rfl) rfl) v17 v17a v17b v17c n17 n17a n17b n17c n17d n17e n17f n17g n17h n17i (m_in 2002 (in_w 0 2001 (in_c 0 rfl) rfl) rfl)))

/-- GraphHouse.load -/
theorem f_225_0 {Z : AmZ} {A : Nat → Nat} {s : GS} {ex : va_W} {d : Nat} {X : AmX} {u_2_0 : Int32} {u_2_1 : Int32} {u_30_0 : Int32} (hd : 11 ≤ d) (hI : Inv s) (e_2_0 : u_2_0 = s.2.2.1 2 0) (e_2_1 : u_2_1 = s.2.2.1 2 1) (e_30_0 : u_30_0 = s.2.2.1 30 0) (q_0 : KL s) (q_1 : TQ s) : GC Z d 225 [.ref (A 0)] (WW Z A s ++ ex) 3943 83130 (fun v u => ∃ a : Nat, ∃ t : GS, Inv t ∧ Fr fm_225_0 s t ∧ ∃ z : Int32, v = some (.int z) ∧ u = WW Z (ax A 30 a) t ++ ex ∧ In z (-4) 1000 ∧ (KL t) ∧ (((z).toInt ≠ -4 → LOT (s.1 47) (s.2.2.1 46 1).toInt.toNat (gvC s) (z).toInt 0 0 (gvC t) ∧ (t.2.2.1 46 6).toInt = -1 ∧ (t.2.2.1 46 7).toInt = -1) ∧ ((z).toInt = -4 → LOT (s.1 47) (s.2.2.1 46 1).toInt.toNat (gvC s) (-4) (t.2.2.1 46 6).toInt (t.2.2.1 46 7).toInt (gvC t)) ∧ TQ t) ∧ (LCO s t z)) X := by
  intro post xp hP hX
  refine g_enter2 (k := 225) (N := 900) (by first | exact dq1 hd rfl | exact dq0 hd rfl | exact dq2 hd rfl | exact dq3 hd rfl | omega) rfl (Nat.le_of_ble_eq_true rfl) ?_
  refine g_aload_n 1 (gd rfl) rfl rfl ?_
  refine g_getA (q2 := 1) 4 (gd rfl) rfl rfl rfl rfl ?_
  refine g_aload_n 5 (gd rfl) rfl rfl ?_
  refine g_getA (q2 := 46) 8 (gd rfl) rfl rfl rfl rfl ?_
  have p8 : KL s := by exact q_0
  have p8a : TQ s := by exact q_1
  refine g_callv (X := _) (As := [.ref (A 46)]) (r := []) (b := A 1) (q := 1) 11 (gd rfl) rfl rfl rfl rfl rfl (ww_o rfl) (Nat.le_of_ble_eq_true rfl) (Nat.le_trans (lgC_le (inv_F hI 448 28000 (q := 30) (j := 0) rfl rfl)) (Nat.le_of_ble_eq_true rfl)) (Nat.le_trans (lgS_le (inv_F hI 448 28000 (q := 30) (j := 0) rfl rfl)) (Nat.le_of_ble_eq_true rfl)) (f_135_1_46 (by first | exact dq1 hd rfl | exact dq0 hd rfl | exact dq2 hd rfl | exact dq3 hd rfl | omega) hI e_2_0 e_2_1 e_30_0 rfl p8 p8a) (fun e u h => h) (fun v u h => ?_)
  obtain ⟨a8, s8, hI8, hF8, z8, rfl, rfl, i8, p8b, p8c, p8d, p8e, p8f⟩ := h
  show GG _ _ _ _ _ _ _ _ [.int z8] _ _ _
  have n11 : KL s8 := by exact p8b
  have n11a : ((z8).toInt ≠ -4 → LOT (s.1 47) (s.2.2.1 46 1).toInt.toNat (gvC s) (z8).toInt 0 0 (gvC s8) ∧ (s8.2.2.1 46 6).toInt = -1 ∧ (s8.2.2.1 46 7).toInt = -1) ∧ ((z8).toInt = -4 → LOT (s.1 47) (s.2.2.1 46 1).toInt.toNat (gvC s) (-4) (s8.2.2.1 46 6).toInt (s8.2.2.1 46 7).toInt (gvC s8)) ∧ TQ s8 := by exact ⟨p8c, p8d, p8e⟩
  have n11b : LCO s s8 z8 := by exact p8f
  exact g_ireturn (gd rfl) rfl rfl (hP _ _ ⟨a8, s8, hI8, (fr_tr rfl fr_rf hF8), z8, rfl, rfl, in_w (-4) 1000 i8 rfl, n11, n11a, n11b⟩)

theorem oc_87_65 : (Int32.ofInt (-1)).toInt = (-1) ∧ (Int32.ofInt 0).toInt = 0 ∧ (Int32.ofInt 1).toInt = 1 ∧ (Int32.ofInt 2).toInt = 2 ∧ (Int64.ofInt 9223372036854775807).toInt = 9223372036854775807 := ⟨rfl, rfl, rfl, rfl, rfl⟩
/-- GraphHouse$Flows.relaxPipe -/
theorem f_87_65 {Z : AmZ} {A : Nat → Nat} {s : GS} {ex : va_W} {d : Nat} {X : AmX} {x1 : Int32} {x2 : Int32} (hd : 1 ≤ d) (hI : Inv s) (h1 : In x1 0 159) (h2 : In x2 1 1048576) (q_0 : RPX s (x1).toNatClampNeg) : GC Z d 87 [.ref (A 65), .int x1, .int x2] (WW Z A s ++ ex) 0 0 (fun v u => ∃ t : GS, Inv t ∧ Fr fm_87_65 s t ∧ ∃ z : Int32, v = some (.int z) ∧ u = WW Z A t ++ ex ∧ In z 0 1 ∧ (RLP (netC s) (fiC s) (x2).toInt (x1).toNatClampNeg (faC s) (viC s) (faC t) (viC t) (z).toInt)) X := by
  intro post xp hP hX
  refine g_enter2 (k := 87) (N := 900) (by first | exact dq1 hd rfl | exact dq0 hd rfl | exact dq2 hd rfl | exact dq3 hd rfl | omega) rfl (Nat.le_of_ble_eq_true rfl) ?_
  refine g_aload_n 1 (gd rfl) rfl rfl ?_
  refine g_getA (q2 := 69) 4 (gd rfl) rfl rfl rfl rfl ?_
  refine g_iload_n 5 (gd rfl) rfl rfl ?_
  refine g_iaload 6 (gd rfl) rfl (n := 160) rfl (in_ix h1 rfl) (fun z5 e5 => ?_)
  have i5 := inv_I hI (n := 160) (t := 0) 0 31 rfl (in_ix h1 rfl) rfl e5
  refine g_istore_n 7 (gd rfl) rfl (Nat.le_of_ble_eq_true rfl) ?_
  refine g_aload_n 8 (gd rfl) rfl rfl ?_
  refine g_getA (q2 := 70) 11 (gd rfl) rfl rfl rfl rfl ?_
  refine g_iload_n 12 (gd rfl) rfl rfl ?_
  refine g_iaload 13 (gd rfl) rfl (n := 160) rfl (in_ix h1 rfl) (fun z12 e12 => ?_)
  have i12 := inv_I hI (n := 160) (t := 0) 0 31 rfl (in_ix h1 rfl) rfl e12
  refine g_istore 15 (gd rfl) rfl (Nat.le_of_ble_eq_true rfl) ?_
  refine g_aload_n 16 (gd rfl) rfl rfl ?_
  refine g_getA (q2 := 72) 19 (gd rfl) rfl rfl rfl rfl ?_
  refine g_iload_n 20 (gd rfl) rfl rfl ?_
  refine g_iaload 21 (gd rfl) rfl (n := 160) rfl (in_ix h1 rfl) (fun z20 e20 => ?_)
  have i20 := inv_I hI (n := 160) (t := 0) 0 1000000 rfl (in_ix h1 rfl) rfl e20
  refine g_aload_n 22 (gd rfl) rfl rfl ?_
  refine g_getA (q2 := 73) 25 (gd rfl) rfl rfl rfl rfl ?_
  refine g_iload_n 26 (gd rfl) rfl rfl ?_
  refine g_iaload 27 (gd rfl) rfl (n := 160) rfl (in_ix h1 rfl) (fun z26 e26 => ?_)
  refine g_isub 28 (gd rfl) rfl (fun z27 e27 => ?_)
  refine g_iload_n 29 (gd rfl) rfl rfl ?_
  refine g_cmp_lt 32 103 (gd rfl) rfl rfl (fun c29 => ?_) (fun c29 => ?_)
  · skip
    have i29 := r_lt1 (-2147483648) 1048575 c29 (i_rng z27) h2 rfl
    refine g_aload_n 104 (gd rfl) rfl rfl ?_
    refine g_getA (q2 := 73) 107 (gd rfl) rfl rfl rfl rfl ?_
    refine g_iload_n 108 (gd rfl) rfl rfl ?_
    refine g_iaload 109 (gd rfl) rfl (n := 160) rfl (in_ix h1 rfl) (fun z108 e108 => ?_)
    have q108 : z26 = z108 := (e26).trans e108.symm
    subst q108
    refine g_iload_n 110 (gd rfl) rfl rfl ?_
    refine g_cmp_lt 113 186 (gd rfl) rfl rfl (fun c110 => ?_) (fun c110 => ?_)
    · skip
      have i110 := r_lt1 (-2147483648) 1048575 c110 (i_rng z26) h2 rfl
      refine g_iconst 0 187 (gd rfl) rfl rfl ?_
      have n187 : RLP (netC s) (fiC s) (x2).toInt (x1).toNatClampNeg (faC s) (viC s) (faC s) (viC s) ((Int32.ofInt 0)).toInt := by exact (show RLP _ _ _ _ _ _ _ _ 0 from rlp_n (fwn_1 e20 e26 e27 i20 q_0 c29) (bwn_1 e26 c110))
      exact g_ireturn (gd rfl) rfl (nb01 (in_w 0 1 (in_c 0 rfl) rfl)) (hP _ _ ⟨s, hI, fr_rf, (Int32.ofInt 0), rfl, rfl, in_w 0 1 (in_c 0 rfl) rfl, n187⟩)
    · skip
      have i110 := r_le2 1 2147483647 c110 h2 (i_rng z26) rfl
      refine g_aload_n 114 (gd rfl) rfl rfl ?_
      refine g_getA (q2 := 75) 117 (gd rfl) rfl rfl rfl rfl ?_
      refine g_iload 119 (gd rfl) rfl rfl ?_
      refine g_laload 120 (gd rfl) rfl (n := 32) rfl (in_ix i12 rfl) (fun z119 e119 => ?_)
      refine g_ldc2_w 9223372036854775807 123 (gd rfl) rfl rfl ?_
      refine g_lcmp 124 (gd rfl) rfl (fun z123 e123 => ?_)
      have i123 := lc_in e123
      refine g_if_eq 127 186 (gd rfl) rfl rfl (fun c124 => ?_) (fun c124 => ?_)
      · skip
        have i124 := z_eq 0 0 c124 i123 rfl
        have c124a := lc_eq e123 c124
        have i124a := lr_eq1 9223372036854775807 9223372036854775807 c124a (l_rng z119) (l_c 9223372036854775807 rfl) rfl
        refine g_iconst 0 187 (gd rfl) rfl rfl ?_
        have n187 : RLP (netC s) (fiC s) (x2).toInt (x1).toNatClampNeg (faC s) (viC s) (faC s) (viC s) ((Int32.ofInt 0)).toInt := by exact (show RLP _ _ _ _ _ _ _ _ 0 from rlp_n (fwn_1 e20 e26 e27 i20 q_0 c29) (bwn_2 e12 e119 c124a))
        exact g_ireturn (gd rfl) rfl (nb01 (in_w 0 1 (in_c 0 rfl) rfl)) (hP _ _ ⟨s, hI, fr_rf, (Int32.ofInt 0), rfl, rfl, in_w 0 1 (in_c 0 rfl) rfl, n187⟩)
      · skip
        have c124a := lc_ne e123 c124
        have i124 := lr_ne1 (-9223372036854775808) 9223372036854775806 c124a (l_rng z119) (l_c 9223372036854775807 rfl) rfl
        refine g_aload_n 128 (gd rfl) rfl rfl ?_
        refine g_getA (q2 := 75) 131 (gd rfl) rfl rfl rfl rfl ?_
        refine g_iload 133 (gd rfl) rfl rfl ?_
        refine g_laload 134 (gd rfl) rfl (n := 32) rfl (in_ix i12 rfl) (fun z133 e133 => ?_)
        refine g_aload_n 135 (gd rfl) rfl rfl ?_
        refine g_getA (q2 := 71) 138 (gd rfl) rfl rfl rfl rfl ?_
        refine g_iload_n 139 (gd rfl) rfl rfl ?_
        refine g_iaload 140 (gd rfl) rfl (n := 160) rfl (in_ix h1 rfl) (fun z139 e139 => ?_)
        have i139 := inv_I hI (n := 160) (t := 0) (-1000000) 1000000 rfl (in_ix h1 rfl) rfl e139
        refine g_i2l 141 (gd rfl) rfl (fun z140 e140 => ?_)
        have i140 := l_i e140 i139
        refine g_lsub 142 (gd rfl) rfl (fun z141 e141 => ?_)
        refine g_aload_n 143 (gd rfl) rfl rfl ?_
        refine g_getA (q2 := 75) 146 (gd rfl) rfl rfl rfl rfl ?_
        refine g_iload_n 147 (gd rfl) rfl rfl ?_
        refine g_laload 148 (gd rfl) rfl (n := 32) rfl (in_ix i5 rfl) (fun z147 e147 => ?_)
        refine g_lcmp 149 (gd rfl) rfl (fun z148 e148 => ?_)
        have i148 := lc_in e148
        refine g_if_ge 152 186 (gd rfl) rfl rfl (fun c149 => ?_) (fun c149 => ?_)
        · skip
          have i149 := z_ge 0 1 c149 i148 rfl
          have c149a := lc_ge e148 c149
          refine g_iconst 0 187 (gd rfl) rfl rfl ?_
          have n187 : RLP (netC s) (fiC s) (x2).toInt (x1).toNatClampNeg (faC s) (viC s) (faC s) (viC s) ((Int32.ofInt 0)).toInt := by exact (show RLP _ _ _ _ _ _ _ _ 0 from rlp_n (fwn_1 e20 e26 e27 i20 q_0 c29) (bwn_3 q_0 e5 e12 e139 i139 e133 e140 e141 e147 c149a))
          exact g_ireturn (gd rfl) rfl (nb01 (in_w 0 1 (in_c 0 rfl) rfl)) (hP _ _ ⟨s, hI, fr_rf, (Int32.ofInt 0), rfl, rfl, in_w 0 1 (in_c 0 rfl) rfl, n187⟩)
        · skip
          have i149 := z_lt (-1) (-1) c149 i148 rfl
          have c149a := lc_lt e148 c149
          have i149a := lr_lt1 (-9223372036854775808) 9223372036854775806 c149a (l_rng z141) (l_rng z147) rfl
          have i149b := lr_lt2 (-9223372036854775807) 9223372036854775807 c149a (l_rng z141) (l_rng z147) rfl
          refine g_aload_n 153 (gd rfl) rfl rfl ?_
          refine g_getA (q2 := 75) 156 (gd rfl) rfl rfl rfl rfl ?_
          refine g_iload_n 157 (gd rfl) rfl rfl ?_
          refine g_aload_n 158 (gd rfl) rfl rfl ?_
          refine g_getA (q2 := 75) 161 (gd rfl) rfl rfl rfl rfl ?_
          refine g_iload 163 (gd rfl) rfl rfl ?_
          refine g_laload 164 (gd rfl) rfl (n := 32) rfl (in_ix i12 rfl) (fun z163 e163 => ?_)
          refine g_aload_n 165 (gd rfl) rfl rfl ?_
          refine g_getA (q2 := 71) 168 (gd rfl) rfl rfl rfl rfl ?_
          refine g_iload_n 169 (gd rfl) rfl rfl ?_
          refine g_iaload 170 (gd rfl) rfl (n := 160) rfl (in_ix h1 rfl) (fun z169 e169 => ?_)
          have q169 : z139 = z169 := (e139).trans e169.symm
          subst q169
          refine g_i2l 171 (gd rfl) rfl (fun z170 e170 => ?_)
          have i170 := l_i e170 i139
          refine g_lsub 172 (gd rfl) rfl (fun z171 e171 => ?_)
          refine g_lastore 173 (gd rfl) rfl (n := 32) rfl (in_ix i5 rfl) ?_
          have hI172 := inv_sL (q := 75) (j := z5.toNatClampNeg) (x := z171) hI rfl (l_rng z171)
          refine g_aload_n 174 (gd rfl) rfl rfl ?_
          refine g_getA (q2 := 68) 177 (gd rfl) rfl rfl rfl rfl ?_
          refine g_iload_n 178 (gd rfl) rfl rfl ?_
          refine g_iconst 2 179 (gd rfl) rfl rfl ?_
          refine g_iload_n 180 (gd rfl) rfl rfl ?_
          refine g_imul 181 (gd rfl) rfl (fun z180 e180 => ?_)
          have i180 := in_mulc 2 0 318 (Or.inl e180) h1 rfl rfl
          refine g_iconst 1 182 (gd rfl) rfl rfl ?_
          refine g_iadd 183 (gd rfl) rfl (fun z182 e182 => ?_)
          have i182 := in_add 1 319 e182 i180 (in_c 1 rfl) rfl rfl
          refine g_iastore 184 (gd rfl) rfl (n := 32) rfl (in_ix i5 rfl) ?_
          have hI183 := inv_sI (q := 68) (j := z5.toNatClampNeg) hI172 rfl (in_w (-1) 319 i182 rfl)
          refine g_iconst 1 185 (gd rfl) rfl rfl ?_
          have n185 : RLP (netC s) (fiC s) (x2).toInt (x1).toNatClampNeg (faC s) (viC s) (faC (sI (sL s 75 z5.toNatClampNeg z171) 68 z5.toNatClampNeg z182)) (viC (sI (sL s 75 z5.toNatClampNeg z171) 68 z5.toNatClampNeg z182)) ((Int32.ofInt 1)).toInt := by exact (show RLP _ _ _ _ _ _ _ _ 1 from rlp_b q_0 (fwn_1 e20 e26 e27 i20 q_0 c29) e5 e12 e139 i139 e26 c110 e119 c124a e133 e140 e141 e147 c149a e163 e170 e171 sL_qn (by rw [sI_q]; rfl) (show (z182).toInt = 2 * (((x1).toNatClampNeg : Nat) : Int) + 1 from (by rw [clx h1.1]; exact (have a0 := in_u h2; have a1 := in_u h1; have a2 := in_u i12; have a3 := in_u i5; have a4 := in_u i182; have a5 := t_add e182 i180 (in_c 1 rfl) rfl; have a6 := in_u ((in_c 1 rfl)); have a7 := in_u i180; have a8 := (t_mulc 2 (Or.inl e180) h1 rfl).1; have a9 := tx_i2l e170; have a10 := in_u i139; have a11 := tx_i2l e140; have oc := oc_87_65; by omega))))
          exact g_ireturn (gd rfl) rfl (nb01 (in_w 0 1 (in_c 1 rfl) rfl)) (hP _ _ ⟨(sI (sL s 75 z5.toNatClampNeg z171) 68 z5.toNatClampNeg z182), hI183, (fr_sI rfl (fr_sL rfl fr_rf)), (Int32.ofInt 1), rfl, rfl, in_w 0 1 (in_c 1 rfl) rfl, n185⟩)
  · skip
    have i29 := r_le2 1 2147483647 c29 h2 (i_rng z27) rfl
    refine g_aload_n 33 (gd rfl) rfl rfl ?_
    refine g_getA (q2 := 75) 36 (gd rfl) rfl rfl rfl rfl ?_
    refine g_iload_n 37 (gd rfl) rfl rfl ?_
    refine g_laload 38 (gd rfl) rfl (n := 32) rfl (in_ix i5 rfl) (fun z37 e37 => ?_)
    refine g_ldc2_w 9223372036854775807 41 (gd rfl) rfl rfl ?_
    refine g_lcmp 42 (gd rfl) rfl (fun z41 e41 => ?_)
    have i41 := lc_in e41
    refine g_if_eq 45 103 (gd rfl) rfl rfl (fun c42 => ?_) (fun c42 => ?_)
    · skip
      have i42 := z_eq 0 0 c42 i41 rfl
      have c42a := lc_eq e41 c42
      have i42a := lr_eq1 9223372036854775807 9223372036854775807 c42a (l_rng z37) (l_c 9223372036854775807 rfl) rfl
      refine g_aload_n 104 (gd rfl) rfl rfl ?_
      refine g_getA (q2 := 73) 107 (gd rfl) rfl rfl rfl rfl ?_
      refine g_iload_n 108 (gd rfl) rfl rfl ?_
      refine g_iaload 109 (gd rfl) rfl (n := 160) rfl (in_ix h1 rfl) (fun z108 e108 => ?_)
      have q108 : z26 = z108 := (e26).trans e108.symm
      subst q108
      refine g_iload_n 110 (gd rfl) rfl rfl ?_
      refine g_cmp_lt 113 186 (gd rfl) rfl rfl (fun c110 => ?_) (fun c110 => ?_)
      · skip
        have i110 := r_lt1 (-2147483648) 1048575 c110 (i_rng z26) h2 rfl
        refine g_iconst 0 187 (gd rfl) rfl rfl ?_
        have n187 : RLP (netC s) (fiC s) (x2).toInt (x1).toNatClampNeg (faC s) (viC s) (faC s) (viC s) ((Int32.ofInt 0)).toInt := by exact (show RLP _ _ _ _ _ _ _ _ 0 from rlp_n (fwn_2 e5 e37 c42a) (bwn_1 e26 c110))
        exact g_ireturn (gd rfl) rfl (nb01 (in_w 0 1 (in_c 0 rfl) rfl)) (hP _ _ ⟨s, hI, fr_rf, (Int32.ofInt 0), rfl, rfl, in_w 0 1 (in_c 0 rfl) rfl, n187⟩)
      · skip
        have i110 := r_le2 1 2147483647 c110 h2 (i_rng z26) rfl
        refine g_aload_n 114 (gd rfl) rfl rfl ?_
        refine g_getA (q2 := 75) 117 (gd rfl) rfl rfl rfl rfl ?_
        refine g_iload 119 (gd rfl) rfl rfl ?_
        refine g_laload 120 (gd rfl) rfl (n := 32) rfl (in_ix i12 rfl) (fun z119 e119 => ?_)
        refine g_ldc2_w 9223372036854775807 123 (gd rfl) rfl rfl ?_
        refine g_lcmp 124 (gd rfl) rfl (fun z123 e123 => ?_)
        have i123 := lc_in e123
        refine g_if_eq 127 186 (gd rfl) rfl rfl (fun c124 => ?_) (fun c124 => ?_)
        · skip
          have i124 := z_eq 0 0 c124 i123 rfl
          have c124a := lc_eq e123 c124
          have i124a := lr_eq1 9223372036854775807 9223372036854775807 c124a (l_rng z119) (l_c 9223372036854775807 rfl) rfl
          refine g_iconst 0 187 (gd rfl) rfl rfl ?_
          have n187 : RLP (netC s) (fiC s) (x2).toInt (x1).toNatClampNeg (faC s) (viC s) (faC s) (viC s) ((Int32.ofInt 0)).toInt := by exact (show RLP _ _ _ _ _ _ _ _ 0 from rlp_n (fwn_2 e5 e37 c42a) (bwn_2 e12 e119 c124a))
          exact g_ireturn (gd rfl) rfl (nb01 (in_w 0 1 (in_c 0 rfl) rfl)) (hP _ _ ⟨s, hI, fr_rf, (Int32.ofInt 0), rfl, rfl, in_w 0 1 (in_c 0 rfl) rfl, n187⟩)
        · skip
          have c124a := lc_ne e123 c124
          have i124 := lr_ne1 (-9223372036854775808) 9223372036854775806 c124a (l_rng z119) (l_c 9223372036854775807 rfl) rfl
          refine g_aload_n 128 (gd rfl) rfl rfl ?_
          refine g_getA (q2 := 75) 131 (gd rfl) rfl rfl rfl rfl ?_
          refine g_iload 133 (gd rfl) rfl rfl ?_
          refine g_laload 134 (gd rfl) rfl (n := 32) rfl (in_ix i12 rfl) (fun z133 e133 => ?_)
          refine g_aload_n 135 (gd rfl) rfl rfl ?_
          refine g_getA (q2 := 71) 138 (gd rfl) rfl rfl rfl rfl ?_
          refine g_iload_n 139 (gd rfl) rfl rfl ?_
          refine g_iaload 140 (gd rfl) rfl (n := 160) rfl (in_ix h1 rfl) (fun z139 e139 => ?_)
          have i139 := inv_I hI (n := 160) (t := 0) (-1000000) 1000000 rfl (in_ix h1 rfl) rfl e139
          refine g_i2l 141 (gd rfl) rfl (fun z140 e140 => ?_)
          have i140 := l_i e140 i139
          refine g_lsub 142 (gd rfl) rfl (fun z141 e141 => ?_)
          refine g_aload_n 143 (gd rfl) rfl rfl ?_
          refine g_getA (q2 := 75) 146 (gd rfl) rfl rfl rfl rfl ?_
          refine g_iload_n 147 (gd rfl) rfl rfl ?_
          refine g_laload 148 (gd rfl) rfl (n := 32) rfl (in_ix i5 rfl) (fun z147 e147 => ?_)
          refine g_lcmp 149 (gd rfl) rfl (fun z148 e148 => ?_)
          have i148 := lc_in e148
          refine g_if_ge 152 186 (gd rfl) rfl rfl (fun c149 => ?_) (fun c149 => ?_)
          · skip
            have i149 := z_ge 0 1 c149 i148 rfl
            have c149a := lc_ge e148 c149
            refine g_iconst 0 187 (gd rfl) rfl rfl ?_
            have n187 : RLP (netC s) (fiC s) (x2).toInt (x1).toNatClampNeg (faC s) (viC s) (faC s) (viC s) ((Int32.ofInt 0)).toInt := by exact (show RLP _ _ _ _ _ _ _ _ 0 from rlp_n (fwn_2 e5 e37 c42a) (bwn_3 q_0 e5 e12 e139 i139 e133 e140 e141 e147 c149a))
            exact g_ireturn (gd rfl) rfl (nb01 (in_w 0 1 (in_c 0 rfl) rfl)) (hP _ _ ⟨s, hI, fr_rf, (Int32.ofInt 0), rfl, rfl, in_w 0 1 (in_c 0 rfl) rfl, n187⟩)
          · skip
            have i149 := z_lt (-1) (-1) c149 i148 rfl
            have c149a := lc_lt e148 c149
            have i149a := lr_lt1 (-9223372036854775808) 9223372036854775806 c149a (l_rng z141) (l_rng z147) rfl
            have i149b := lr_lt2 (-9223372036854775807) 9223372036854775807 c149a (l_rng z141) (l_rng z147) rfl
            refine g_aload_n 153 (gd rfl) rfl rfl ?_
            refine g_getA (q2 := 75) 156 (gd rfl) rfl rfl rfl rfl ?_
            refine g_iload_n 157 (gd rfl) rfl rfl ?_
            refine g_aload_n 158 (gd rfl) rfl rfl ?_
            refine g_getA (q2 := 75) 161 (gd rfl) rfl rfl rfl rfl ?_
            refine g_iload 163 (gd rfl) rfl rfl ?_
            refine g_laload 164 (gd rfl) rfl (n := 32) rfl (in_ix i12 rfl) (fun z163 e163 => ?_)
            refine g_aload_n 165 (gd rfl) rfl rfl ?_
            refine g_getA (q2 := 71) 168 (gd rfl) rfl rfl rfl rfl ?_
            refine g_iload_n 169 (gd rfl) rfl rfl ?_
            refine g_iaload 170 (gd rfl) rfl (n := 160) rfl (in_ix h1 rfl) (fun z169 e169 => ?_)
            have q169 : z139 = z169 := (e139).trans e169.symm
            subst q169
            refine g_i2l 171 (gd rfl) rfl (fun z170 e170 => ?_)
            have i170 := l_i e170 i139
            refine g_lsub 172 (gd rfl) rfl (fun z171 e171 => ?_)
            refine g_lastore 173 (gd rfl) rfl (n := 32) rfl (in_ix i5 rfl) ?_
            have hI172 := inv_sL (q := 75) (j := z5.toNatClampNeg) (x := z171) hI rfl (l_rng z171)
            refine g_aload_n 174 (gd rfl) rfl rfl ?_
            refine g_getA (q2 := 68) 177 (gd rfl) rfl rfl rfl rfl ?_
            refine g_iload_n 178 (gd rfl) rfl rfl ?_
            refine g_iconst 2 179 (gd rfl) rfl rfl ?_
            refine g_iload_n 180 (gd rfl) rfl rfl ?_
            refine g_imul 181 (gd rfl) rfl (fun z180 e180 => ?_)
            have i180 := in_mulc 2 0 318 (Or.inl e180) h1 rfl rfl
            refine g_iconst 1 182 (gd rfl) rfl rfl ?_
            refine g_iadd 183 (gd rfl) rfl (fun z182 e182 => ?_)
            have i182 := in_add 1 319 e182 i180 (in_c 1 rfl) rfl rfl
            refine g_iastore 184 (gd rfl) rfl (n := 32) rfl (in_ix i5 rfl) ?_
            have hI183 := inv_sI (q := 68) (j := z5.toNatClampNeg) hI172 rfl (in_w (-1) 319 i182 rfl)
            refine g_iconst 1 185 (gd rfl) rfl rfl ?_
            have n185 : RLP (netC s) (fiC s) (x2).toInt (x1).toNatClampNeg (faC s) (viC s) (faC (sI (sL s 75 z5.toNatClampNeg z171) 68 z5.toNatClampNeg z182)) (viC (sI (sL s 75 z5.toNatClampNeg z171) 68 z5.toNatClampNeg z182)) ((Int32.ofInt 1)).toInt := by exact (show RLP _ _ _ _ _ _ _ _ 1 from rlp_b q_0 (fwn_2 e5 e37 c42a) e5 e12 e139 i139 e26 c110 e119 c124a e133 e140 e141 e147 c149a e163 e170 e171 sL_qn (by rw [sI_q]; rfl) (show (z182).toInt = 2 * (((x1).toNatClampNeg : Nat) : Int) + 1 from (by rw [clx h1.1]; exact (have a0 := in_u h2; have a1 := in_u h1; have a2 := in_u i12; have a3 := in_u i5; have a4 := in_u i182; have a5 := t_add e182 i180 (in_c 1 rfl) rfl; have a6 := in_u ((in_c 1 rfl)); have a7 := in_u i180; have a8 := (t_mulc 2 (Or.inl e180) h1 rfl).1; have a9 := tx_i2l e170; have a10 := in_u i139; have a11 := tx_i2l e140; have oc := oc_87_65; by omega))))
            exact g_ireturn (gd rfl) rfl (nb01 (in_w 0 1 (in_c 1 rfl) rfl)) (hP _ _ ⟨(sI (sL s 75 z5.toNatClampNeg z171) 68 z5.toNatClampNeg z182), hI183, (fr_sI rfl (fr_sL rfl fr_rf)), (Int32.ofInt 1), rfl, rfl, in_w 0 1 (in_c 1 rfl) rfl, n185⟩)
    · skip
      have c42a := lc_ne e41 c42
      have i42 := lr_ne1 (-9223372036854775808) 9223372036854775806 c42a (l_rng z37) (l_c 9223372036854775807 rfl) rfl
      refine g_aload_n 46 (gd rfl) rfl rfl ?_
      refine g_getA (q2 := 75) 49 (gd rfl) rfl rfl rfl rfl ?_
      refine g_iload_n 50 (gd rfl) rfl rfl ?_
      refine g_laload 51 (gd rfl) rfl (n := 32) rfl (in_ix i5 rfl) (fun z50 e50 => ?_)
      refine g_aload_n 52 (gd rfl) rfl rfl ?_
      refine g_getA (q2 := 71) 55 (gd rfl) rfl rfl rfl rfl ?_
      refine g_iload_n 56 (gd rfl) rfl rfl ?_
      refine g_iaload 57 (gd rfl) rfl (n := 160) rfl (in_ix h1 rfl) (fun z56 e56 => ?_)
      have i56 := inv_I hI (n := 160) (t := 0) (-1000000) 1000000 rfl (in_ix h1 rfl) rfl e56
      refine g_i2l 58 (gd rfl) rfl (fun z57 e57 => ?_)
      have i57 := l_i e57 i56
      refine g_ladd 59 (gd rfl) rfl (fun z58 e58 => ?_)
      refine g_aload_n 60 (gd rfl) rfl rfl ?_
      refine g_getA (q2 := 75) 63 (gd rfl) rfl rfl rfl rfl ?_
      refine g_iload 65 (gd rfl) rfl rfl ?_
      refine g_laload 66 (gd rfl) rfl (n := 32) rfl (in_ix i12 rfl) (fun z65 e65 => ?_)
      refine g_lcmp 67 (gd rfl) rfl (fun z66 e66 => ?_)
      have i66 := lc_in e66
      refine g_if_ge 70 103 (gd rfl) rfl rfl (fun c67 => ?_) (fun c67 => ?_)
      · skip
        have i67 := z_ge 0 1 c67 i66 rfl
        have c67a := lc_ge e66 c67
        refine g_aload_n 104 (gd rfl) rfl rfl ?_
        refine g_getA (q2 := 73) 107 (gd rfl) rfl rfl rfl rfl ?_
        refine g_iload_n 108 (gd rfl) rfl rfl ?_
        refine g_iaload 109 (gd rfl) rfl (n := 160) rfl (in_ix h1 rfl) (fun z108 e108 => ?_)
        have q108 : z26 = z108 := (e26).trans e108.symm
        subst q108
        refine g_iload_n 110 (gd rfl) rfl rfl ?_
        refine g_cmp_lt 113 186 (gd rfl) rfl rfl (fun c110 => ?_) (fun c110 => ?_)
        · skip
          have i110 := r_lt1 (-2147483648) 1048575 c110 (i_rng z26) h2 rfl
          refine g_iconst 0 187 (gd rfl) rfl rfl ?_
          have n187 : RLP (netC s) (fiC s) (x2).toInt (x1).toNatClampNeg (faC s) (viC s) (faC s) (viC s) ((Int32.ofInt 0)).toInt := by exact (show RLP _ _ _ _ _ _ _ _ 0 from rlp_n (fwn_3 q_0 e5 e12 e56 i56 e50 e57 e58 e65 c67a) (bwn_1 e26 c110))
          exact g_ireturn (gd rfl) rfl (nb01 (in_w 0 1 (in_c 0 rfl) rfl)) (hP _ _ ⟨s, hI, fr_rf, (Int32.ofInt 0), rfl, rfl, in_w 0 1 (in_c 0 rfl) rfl, n187⟩)
        · skip
          have i110 := r_le2 1 2147483647 c110 h2 (i_rng z26) rfl
          refine g_aload_n 114 (gd rfl) rfl rfl ?_
          refine g_getA (q2 := 75) 117 (gd rfl) rfl rfl rfl rfl ?_
          refine g_iload 119 (gd rfl) rfl rfl ?_
          refine g_laload 120 (gd rfl) rfl (n := 32) rfl (in_ix i12 rfl) (fun z119 e119 => ?_)
          refine g_ldc2_w 9223372036854775807 123 (gd rfl) rfl rfl ?_
          refine g_lcmp 124 (gd rfl) rfl (fun z123 e123 => ?_)
          have i123 := lc_in e123
          refine g_if_eq 127 186 (gd rfl) rfl rfl (fun c124 => ?_) (fun c124 => ?_)
          · skip
            have i124 := z_eq 0 0 c124 i123 rfl
            have c124a := lc_eq e123 c124
            have i124a := lr_eq1 9223372036854775807 9223372036854775807 c124a (l_rng z119) (l_c 9223372036854775807 rfl) rfl
            refine g_iconst 0 187 (gd rfl) rfl rfl ?_
            have n187 : RLP (netC s) (fiC s) (x2).toInt (x1).toNatClampNeg (faC s) (viC s) (faC s) (viC s) ((Int32.ofInt 0)).toInt := by exact (show RLP _ _ _ _ _ _ _ _ 0 from rlp_n (fwn_3 q_0 e5 e12 e56 i56 e50 e57 e58 e65 c67a) (bwn_2 e12 e119 c124a))
            exact g_ireturn (gd rfl) rfl (nb01 (in_w 0 1 (in_c 0 rfl) rfl)) (hP _ _ ⟨s, hI, fr_rf, (Int32.ofInt 0), rfl, rfl, in_w 0 1 (in_c 0 rfl) rfl, n187⟩)
          · skip
            have c124a := lc_ne e123 c124
            have i124 := lr_ne1 (-9223372036854775808) 9223372036854775806 c124a (l_rng z119) (l_c 9223372036854775807 rfl) rfl
            refine g_aload_n 128 (gd rfl) rfl rfl ?_
            refine g_getA (q2 := 75) 131 (gd rfl) rfl rfl rfl rfl ?_
            refine g_iload 133 (gd rfl) rfl rfl ?_
            refine g_laload 134 (gd rfl) rfl (n := 32) rfl (in_ix i12 rfl) (fun z133 e133 => ?_)
            refine g_aload_n 135 (gd rfl) rfl rfl ?_
            refine g_getA (q2 := 71) 138 (gd rfl) rfl rfl rfl rfl ?_
            refine g_iload_n 139 (gd rfl) rfl rfl ?_
            refine g_iaload 140 (gd rfl) rfl (n := 160) rfl (in_ix h1 rfl) (fun z139 e139 => ?_)
            have q139 : z56 = z139 := (e56).trans e139.symm
            subst q139
            refine g_i2l 141 (gd rfl) rfl (fun z140 e140 => ?_)
            have i140 := l_i e140 i56
            refine g_lsub 142 (gd rfl) rfl (fun z141 e141 => ?_)
            refine g_aload_n 143 (gd rfl) rfl rfl ?_
            refine g_getA (q2 := 75) 146 (gd rfl) rfl rfl rfl rfl ?_
            refine g_iload_n 147 (gd rfl) rfl rfl ?_
            refine g_laload 148 (gd rfl) rfl (n := 32) rfl (in_ix i5 rfl) (fun z147 e147 => ?_)
            refine g_lcmp 149 (gd rfl) rfl (fun z148 e148 => ?_)
            have i148 := lc_in e148
            refine g_if_ge 152 186 (gd rfl) rfl rfl (fun c149 => ?_) (fun c149 => ?_)
            · skip
              have i149 := z_ge 0 1 c149 i148 rfl
              have c149a := lc_ge e148 c149
              refine g_iconst 0 187 (gd rfl) rfl rfl ?_
              have n187 : RLP (netC s) (fiC s) (x2).toInt (x1).toNatClampNeg (faC s) (viC s) (faC s) (viC s) ((Int32.ofInt 0)).toInt := by exact (show RLP _ _ _ _ _ _ _ _ 0 from rlp_n (fwn_3 q_0 e5 e12 e56 i56 e50 e57 e58 e65 c67a) (bwn_3 q_0 e5 e12 e56 i56 e133 e140 e141 e147 c149a))
              exact g_ireturn (gd rfl) rfl (nb01 (in_w 0 1 (in_c 0 rfl) rfl)) (hP _ _ ⟨s, hI, fr_rf, (Int32.ofInt 0), rfl, rfl, in_w 0 1 (in_c 0 rfl) rfl, n187⟩)
            · skip
              have i149 := z_lt (-1) (-1) c149 i148 rfl
              have c149a := lc_lt e148 c149
              have i149a := lr_lt1 (-9223372036854775808) 9223372036854775806 c149a (l_rng z141) (l_rng z147) rfl
              have i149b := lr_lt2 (-9223372036854775807) 9223372036854775807 c149a (l_rng z141) (l_rng z147) rfl
              refine g_aload_n 153 (gd rfl) rfl rfl ?_
              refine g_getA (q2 := 75) 156 (gd rfl) rfl rfl rfl rfl ?_
              refine g_iload_n 157 (gd rfl) rfl rfl ?_
              refine g_aload_n 158 (gd rfl) rfl rfl ?_
              refine g_getA (q2 := 75) 161 (gd rfl) rfl rfl rfl rfl ?_
              refine g_iload 163 (gd rfl) rfl rfl ?_
              refine g_laload 164 (gd rfl) rfl (n := 32) rfl (in_ix i12 rfl) (fun z163 e163 => ?_)
              refine g_aload_n 165 (gd rfl) rfl rfl ?_
              refine g_getA (q2 := 71) 168 (gd rfl) rfl rfl rfl rfl ?_
              refine g_iload_n 169 (gd rfl) rfl rfl ?_
              refine g_iaload 170 (gd rfl) rfl (n := 160) rfl (in_ix h1 rfl) (fun z169 e169 => ?_)
              have q169 : z56 = z169 := (e56).trans e169.symm
              subst q169
              refine g_i2l 171 (gd rfl) rfl (fun z170 e170 => ?_)
              have i170 := l_i e170 i56
              refine g_lsub 172 (gd rfl) rfl (fun z171 e171 => ?_)
              refine g_lastore 173 (gd rfl) rfl (n := 32) rfl (in_ix i5 rfl) ?_
              have hI172 := inv_sL (q := 75) (j := z5.toNatClampNeg) (x := z171) hI rfl (l_rng z171)
              refine g_aload_n 174 (gd rfl) rfl rfl ?_
              refine g_getA (q2 := 68) 177 (gd rfl) rfl rfl rfl rfl ?_
              refine g_iload_n 178 (gd rfl) rfl rfl ?_
              refine g_iconst 2 179 (gd rfl) rfl rfl ?_
              refine g_iload_n 180 (gd rfl) rfl rfl ?_
              refine g_imul 181 (gd rfl) rfl (fun z180 e180 => ?_)
              have i180 := in_mulc 2 0 318 (Or.inl e180) h1 rfl rfl
              refine g_iconst 1 182 (gd rfl) rfl rfl ?_
              refine g_iadd 183 (gd rfl) rfl (fun z182 e182 => ?_)
              have i182 := in_add 1 319 e182 i180 (in_c 1 rfl) rfl rfl
              refine g_iastore 184 (gd rfl) rfl (n := 32) rfl (in_ix i5 rfl) ?_
              have hI183 := inv_sI (q := 68) (j := z5.toNatClampNeg) hI172 rfl (in_w (-1) 319 i182 rfl)
              refine g_iconst 1 185 (gd rfl) rfl rfl ?_
              have n185 : RLP (netC s) (fiC s) (x2).toInt (x1).toNatClampNeg (faC s) (viC s) (faC (sI (sL s 75 z5.toNatClampNeg z171) 68 z5.toNatClampNeg z182)) (viC (sI (sL s 75 z5.toNatClampNeg z171) 68 z5.toNatClampNeg z182)) ((Int32.ofInt 1)).toInt := by exact (show RLP _ _ _ _ _ _ _ _ 1 from rlp_b q_0 (fwn_3 q_0 e5 e12 e56 i56 e50 e57 e58 e65 c67a) e5 e12 e56 i56 e26 c110 e119 c124a e133 e140 e141 e147 c149a e163 e170 e171 sL_qn (by rw [sI_q]; rfl) (show (z182).toInt = 2 * (((x1).toNatClampNeg : Nat) : Int) + 1 from (by rw [clx h1.1]; exact (have a0 := in_u h2; have a1 := in_u h1; have a2 := in_u i12; have a3 := in_u i5; have a4 := in_u i182; have a5 := t_add e182 i180 (in_c 1 rfl) rfl; have a6 := in_u ((in_c 1 rfl)); have a7 := in_u i180; have a8 := (t_mulc 2 (Or.inl e180) h1 rfl).1; have a9 := tx_i2l e170; have a10 := in_u i56; have a11 := tx_i2l e140; have a12 := tx_i2l e57; have oc := oc_87_65; by omega))))
              exact g_ireturn (gd rfl) rfl (nb01 (in_w 0 1 (in_c 1 rfl) rfl)) (hP _ _ ⟨(sI (sL s 75 z5.toNatClampNeg z171) 68 z5.toNatClampNeg z182), hI183, (fr_sI rfl (fr_sL rfl fr_rf)), (Int32.ofInt 1), rfl, rfl, in_w 0 1 (in_c 1 rfl) rfl, n185⟩)
      · skip
        have i67 := z_lt (-1) (-1) c67 i66 rfl
        have c67a := lc_lt e66 c67
        have i67a := lr_lt1 (-9223372036854775808) 9223372036854775806 c67a (l_rng z58) (l_rng z65) rfl
        have i67b := lr_lt2 (-9223372036854775807) 9223372036854775807 c67a (l_rng z58) (l_rng z65) rfl
        refine g_aload_n 71 (gd rfl) rfl rfl ?_
        refine g_getA (q2 := 75) 74 (gd rfl) rfl rfl rfl rfl ?_
        refine g_iload 76 (gd rfl) rfl rfl ?_
        refine g_aload_n 77 (gd rfl) rfl rfl ?_
        refine g_getA (q2 := 75) 80 (gd rfl) rfl rfl rfl rfl ?_
        refine g_iload_n 81 (gd rfl) rfl rfl ?_
        refine g_laload 82 (gd rfl) rfl (n := 32) rfl (in_ix i5 rfl) (fun z81 e81 => ?_)
        refine g_aload_n 83 (gd rfl) rfl rfl ?_
        refine g_getA (q2 := 71) 86 (gd rfl) rfl rfl rfl rfl ?_
        refine g_iload_n 87 (gd rfl) rfl rfl ?_
        refine g_iaload 88 (gd rfl) rfl (n := 160) rfl (in_ix h1 rfl) (fun z87 e87 => ?_)
        have q87 : z56 = z87 := (e56).trans e87.symm
        subst q87
        refine g_i2l 89 (gd rfl) rfl (fun z88 e88 => ?_)
        have i88 := l_i e88 i56
        refine g_ladd 90 (gd rfl) rfl (fun z89 e89 => ?_)
        refine g_lastore 91 (gd rfl) rfl (n := 32) rfl (in_ix i12 rfl) ?_
        have hI90 := inv_sL (q := 75) (j := z12.toNatClampNeg) (x := z89) hI rfl (l_rng z89)
        refine g_aload_n 92 (gd rfl) rfl rfl ?_
        refine g_getA (q2 := 68) 95 (gd rfl) rfl rfl rfl rfl ?_
        refine g_iload 97 (gd rfl) rfl rfl ?_
        refine g_iconst 2 98 (gd rfl) rfl rfl ?_
        refine g_iload_n 99 (gd rfl) rfl rfl ?_
        refine g_imul 100 (gd rfl) rfl (fun z99 e99 => ?_)
        have i99 := in_mulc 2 0 318 (Or.inl e99) h1 rfl rfl
        refine g_iastore 101 (gd rfl) rfl (n := 32) rfl (in_ix i12 rfl) ?_
        have hI100 := inv_sI (q := 68) (j := z12.toNatClampNeg) hI90 rfl (in_w (-1) 319 i99 rfl)
        refine g_iconst 1 102 (gd rfl) rfl rfl ?_
        have n102 : RLP (netC s) (fiC s) (x2).toInt (x1).toNatClampNeg (faC s) (viC s) (faC (sI (sL s 75 z12.toNatClampNeg z89) 68 z12.toNatClampNeg z99)) (viC (sI (sL s 75 z12.toNatClampNeg z89) 68 z12.toNatClampNeg z99)) ((Int32.ofInt 1)).toInt := by exact (show RLP _ _ _ _ _ _ _ _ 1 from rlp_f q_0 e5 e12 e56 i56 e20 e26 e27 i20 c29 e37 c42a e50 e57 e58 e65 c67a e81 e88 e89 sL_qn (by rw [sI_q]; rfl) (show (z99).toInt = 2 * (((x1).toNatClampNeg : Nat) : Int) from (by rw [clx h1.1]; exact (have a0 := in_u h2; have a1 := in_u h1; have a2 := in_u i12; have a3 := in_u i5; have a4 := in_u i99; have a5 := (t_mulc 2 (Or.inl e99) h1 rfl).1; have a6 := tx_i2l e88; have a7 := in_u i56; have a8 := tx_i2l e57; have oc := oc_87_65; by omega))))
        exact g_ireturn (gd rfl) rfl (nb01 (in_w 0 1 (in_c 1 rfl) rfl)) (hP _ _ ⟨(sI (sL s 75 z12.toNatClampNeg z89) 68 z12.toNatClampNeg z99), hI100, (fr_sI rfl (fr_sL rfl fr_rf)), (Int32.ofInt 1), rfl, rfl, in_w 0 1 (in_c 1 rfl) rfl, n102⟩)

theorem oc_86_65 : (Int32.ofInt (-1)).toInt = (-1) ∧ (Int32.ofInt 0).toInt = 0 ∧ (Int32.ofInt 1).toInt = 1 := ⟨rfl, rfl, rfl⟩
/-- GraphHouse$Flows.relaxAll -/
theorem f_86_65 {Z : AmZ} {A : Nat → Nat} {s : GS} {ex : va_W} {d : Nat} {X : AmX} {x1 : Int32} {x2 : Int32} (hd : 2 ≤ d) (hI : Inv s) (h1 : In x1 0 32) (h2 : In x2 1 1048576) (q_0 : RXP s (x2).toInt (x1).toNatClampNeg) : GC Z d 86 [.ref (A 65), .int x1, .int x2] (WW Z A s ++ ex) 0 0 (fun v u => ∃ t : GS, Inv t ∧ Fr fm_86_65 s t ∧ v = none ∧ u = WW Z A t ++ ex ∧ (RXE (netC s) (fiC s) (x2).toInt (x1).toNatClampNeg (faC s) (viC s) (faC t) (viC t))) X := by
  intro post xp hP hX
  obtain ⟨u_65_8, e_65_8⟩ : ∃ w, w = s.2.2.1 65 8 := ⟨_, rfl⟩
  have ro_65_8 := inv_F hI 0 160 rfl e_65_8
  have ct5 : ∀ (k5 : Nat) (sc5 : GS) (y5_3 : Int32) (y5_4 : Int32), Inv sc5 → Fr fm_86_65 s sc5 → (In y5_3 0 1) → (In y5_4 0 33) → (RXI (netC s) (fiC s) (x2).toInt (x1).toNatClampNeg (piN s (x2).toInt) (faC s) (viC s) (faC sc5) (viC sc5) (y5_4).toNatClampNeg (y5_3).toInt) → 33 - (y5_4).toInt < (k5 : Int) → GG Z (d - 1) 86 post (gx xp) (1 + k5 * 147601) 5 (fun j => xlook j [(0, .ref (A 65)), (1, .int x1), (2, .int x2), (3, .int y5_3), (4, .int y5_4)]) [] (WW Z A sc5 ++ ex) 0 0 := by
    intro k5
    induction k5 with
    | zero => intro sc5 y5_3 y5_4 hIc5 hFc5 j5_3 j5_4 g5_0 mm5; exact m_no mm5 j5_4 rfl
    | succ k5 ih5 =>
      intro sc5 y5_3 y5_4 hIc5 hFc5 j5_3 j5_4 g5_0 mm5
      refine gg_w (M := 1 + k5 * 147601 + 147601) gws ?_
      have ct20 : ∀ (k20 : Nat) (sc20 : GS) (y20_3 : Int32) (y20_5 : Int32), Inv sc20 → Fr fm_86_65 s sc20 → (In y20_3 0 1) → (In y5_4 0 32) → (In y20_5 0 160) → (RXJ (netC s) (fiC s) (x2).toInt (x1).toNatClampNeg (piN s (x2).toInt) (faC s) (viC s) (faC sc5) (faC sc20) (viC sc20) (y20_5).toNatClampNeg (y20_3).toInt) → 160 - (y20_5).toInt < (k20 : Int) → GG Z (d - 1) 86 post (gx xp) (1 + k5 * 147601 + 1 + k20 * 900) 20 (fun j => xlook j [(0, .ref (A 65)), (1, .int x1), (2, .int x2), (3, .int y20_3), (4, .int y5_4), (5, .int y20_5)]) [] (WW Z A sc20 ++ ex) 0 0 := by
        intro k20
        induction k20 with
        | zero => intro sc20 y20_3 y20_5 hIc20 hFc20 j20_3 j20_4 j20_5 g20_0 mm20; exact m_no mm20 j20_5 rfl
        | succ k20 ih20 =>
          intro sc20 y20_3 y20_5 hIc20 hFc20 j20_3 j20_4 j20_5 g20_0 mm20
          refine gg_w (M := 1 + k5 * 147601 + 1 + k20 * 900 + 900) gws ?_
          refine g_iload 22 (gd rfl) rfl rfl ?_
          refine g_aload_n 23 (gd rfl) rfl rfl ?_
          refine g_getI 26 (gd rfl) rfl rfl rfl (fun z23 e23 => ?_)
          have q23 : u_65_8 = z23 := (fr_F e_65_8 hFc20 rfl).trans e23.symm
          subst q23
          refine g_cmp_ge 29 45 (gd rfl) rfl rfl (fun c26 => ?_) (fun c26 => ?_)
          · skip
            refine g_iinc 48 (gd rfl) rfl rfl (Nat.le_of_ble_eq_true rfl) (fun z45 e45 => ?_)
            have i45 := in_add 1 33 e45 j20_4 (in_c 1 rfl) rfl rfl
            refine g_goto 5 (gd rfl) rfl ?_
            have n5 : RXI (netC s) (fiC s) (x2).toInt (x1).toNatClampNeg (piN s (x2).toInt) (faC s) (viC s) (faC sc20) (viC sc20) (z45).toNatClampNeg (y20_3).toInt := by rw [(show (z45).toNatClampNeg = (y5_4).toNatClampNeg + 1 from (by show (z45).toInt.toNat = (y5_4).toInt.toNat + 1; exact (have a0 := in_u j20_4; have a1 := in_u h2; have a2 := in_u h1; have a3 := in_u ro_65_8; have a4 := in_u j20_5; have a5 := in_u j20_3; have a6 := in_u i45; have a7 := t_add e45 j20_4 (in_c 1 rfl) rfl; have a8 := in_u ((in_c 1 rfl)); have oc := oc_86_65; by omega)))]; exact rxi_s (piN_ok q_0).1 q_0.1 g5_0 (rxj_w g20_0 (show (netC s).1 ≤ (y20_5).toNatClampNeg from (by show (s.2.2.1 65 8).toInt.toNat ≤ (y20_5).toInt.toNat; rw [← e_65_8]; exact (have a0 := in_u j20_4; have a1 := in_u h2; have a2 := in_u h1; have a3 := in_u ro_65_8; have a4 := in_u j20_5; have a5 := in_u j20_3; have a6 := in_u i45; have a7 := t_add e45 j20_4 (in_c 1 rfl) rfl; have a8 := in_u ((in_c 1 rfl)); have oc := oc_86_65; by omega))))
            exact gg_w (by first | exact Nat.le_add_right _ _ | exact gw2 | exact gw3 | exact gwe rfl | exact gwf rfl | exact gwg rfl | exact gwh rfl | omega) (gg_f (gf_cons rfl (gf_cons rfl (gf_cons rfl (gf_cons rfl (gf_cons rfl gf_nil))))) (ih5 sc20 y20_3 z45 hIc20 hFc20 (in_w 0 1 j20_3 rfl) (in_w 0 33 i45 rfl) n5 (m_up mm5 (t_add e45 j20_4 (in_c 1 rfl) rfl) (in_w 1 1 (in_c 1 rfl) rfl))))
          · skip
            have i26 := r_lt1 0 159 c26 j20_5 ro_65_8 rfl
            have i26a := r_lt2 1 160 c26 j20_5 ro_65_8 rfl
            refine g_iload_n 30 (gd rfl) rfl rfl ?_
            refine g_aload_n 31 (gd rfl) rfl rfl ?_
            refine g_iload 33 (gd rfl) rfl rfl ?_
            refine g_iload_n 34 (gd rfl) rfl rfl ?_
            have p34 : RPX sc20 (y20_5).toNatClampNeg := by exact rxj_x q_0 (net_fr hFc20 rfl) (fi_fr hFc20 rfl) g20_0 (show (y20_5).toNatClampNeg < (netC s).1 from (by show (y20_5).toInt.toNat < (s.2.2.1 65 8).toInt.toNat; rw [← e_65_8]; exact (have a0 := in_u j20_4; have a1 := in_u h2; have a2 := in_u h1; have a3 := in_u i26a; have a4 := in_u i26; have a5 := in_u j20_3; have oc := oc_86_65; by omega)))
            refine g_callv (X := _) (As := [.int y20_5, .int x2]) (r := [.int y20_3]) (b := A 65) (q := 65) 37 (gd rfl) rfl rfl rfl rfl rfl (ww_o rfl) (Nat.le_of_ble_eq_true rfl) (Nat.zero_le _) (Nat.zero_le _) (f_87_65 (by first | exact dq1 hd rfl | exact dq0 hd rfl | exact dq2 hd rfl | exact dq3 hd rfl | omega) hIc20 (in_w 0 159 i26 rfl) (in_w 1 1048576 h2 rfl) p34) (fun e u h => h) (fun v u h => ?_)
            obtain ⟨s34, hI34, hF34, z34, rfl, rfl, i34, p34a⟩ := h
            show GG _ _ _ _ _ _ _ _ [.int z34, .int y20_3] _ _ _
            refine g_ior 38 (gd rfl) rfl (fun z37 e37 => ?_)
            have i37 := in_or 1 e37 (in_w 0 1 j20_3 rfl) (in_w 0 1 i34 rfl) rfl
            refine g_istore_n 39 (gd rfl) rfl (Nat.le_of_ble_eq_true rfl) ?_
            refine g_iinc 42 (gd rfl) rfl rfl (Nat.le_of_ble_eq_true rfl) (fun z39 e39 => ?_)
            have i39 := in_add 1 160 e39 i26 (in_c 1 rfl) rfl rfl
            refine g_goto 20 (gd rfl) rfl ?_
            have n20 : RXJ (netC s) (fiC s) (x2).toInt (x1).toNatClampNeg (piN s (x2).toInt) (faC s) (viC s) (faC sc5) (faC s34) (viC s34) (z39).toNatClampNeg (z37).toInt := by rw [(show (z39).toNatClampNeg = (y20_5).toNatClampNeg + 1 from (by show (z39).toInt.toNat = (y20_5).toInt.toNat + 1; exact (have a0 := in_u j20_4; have a1 := in_u h2; have a2 := in_u h1; have a3 := in_u i26a; have a4 := in_u i26; have a5 := in_u j20_3; have a6 := in_u i39; have a7 := t_add e39 i26 (in_c 1 rfl) rfl; have a8 := in_u ((in_c 1 rfl)); have a9 := in_u i37; have oc := oc_86_65; by omega)))]; have r9 := p34a; rw [net_fr hFc20 rfl, fi_fr hFc20 rfl] at r9; exact rxj_s (piN_ok q_0).1 (piN_ok q_0).2 q_0.1 g20_0 (show (y20_5).toNatClampNeg < (netC s).1 from (by show (y20_5).toInt.toNat < (s.2.2.1 65 8).toInt.toNat; rw [← e_65_8]; exact (have a0 := in_u j20_4; have a1 := in_u h2; have a2 := in_u h1; have a3 := in_u i26a; have a4 := in_u i26; have a5 := in_u j20_3; have a6 := in_u i39; have a7 := t_add e39 i26 (in_c 1 rfl) rfl; have a8 := in_u ((in_c 1 rfl)); have a9 := in_u i37; have oc := oc_86_65; by omega))) r9 (or01 e37 j20_3 i34)
            exact gg_w (by first | exact Nat.le_add_right _ _ | exact gw2 | exact gw3 | exact gwe rfl | exact gwf rfl | exact gwg rfl | exact gwh rfl | omega) (gg_f (gf_cons rfl (gf_cons rfl (gf_cons rfl (gf_cons rfl (gf_cons rfl (gf_cons rfl gf_nil)))))) (ih20 s34 z37 z39 hI34 (fr_tr rfl hFc20 hF34) (in_w 0 1 i37 rfl) (in_w 0 32 j20_4 rfl) (in_w 0 160 i39 rfl) n20 (m_up mm20 (t_add e39 i26 (in_c 1 rfl) rfl) (in_w 1 1 (in_c 1 rfl) rfl))))
      refine g_iload 7 (gd rfl) rfl rfl ?_
      refine g_iload_n 8 (gd rfl) rfl rfl ?_
      refine g_cmp_gt 11 51 (gd rfl) rfl rfl (fun c8 => ?_) (fun c8 => ?_)
      · skip
        have i8 := r_lt2 1 33 c8 h1 j5_4 rfl
        have n51 : RXE (netC s) (fiC s) (x2).toInt (x1).toNatClampNeg (faC s) (viC s) (faC sc5) (viC sc5) := by exact rxe_i (piN_ok q_0).1 (piN_ok q_0).2 q_0.1 q_0.2.2.1 g5_0 (Or.inr (show (x1).toNatClampNeg < (y5_4).toNatClampNeg from (by show (x1).toInt.toNat < (y5_4).toInt.toNat; exact (have a0 := in_u h2; have a1 := in_u h1; have a2 := in_u ro_65_8; have a3 := in_u i8; have a4 := in_u j5_3; have oc := oc_86_65; by omega))))
        exact g_return (gd rfl) rfl (hP _ _ ⟨sc5, hIc5, hFc5, rfl, rfl, n51⟩)
      · skip
        have i8 := r_le1 0 32 c8 j5_4 h1 rfl
        refine g_iload_n 12 (gd rfl) rfl rfl ?_
        refine g_if_eq 15 51 (gd rfl) rfl rfl (fun c12 => ?_) (fun c12 => ?_)
        · skip
          have i12 := z_eq 0 0 c12 j5_3 rfl
          have n51 : RXE (netC s) (fiC s) (x2).toInt (x1).toNatClampNeg (faC s) (viC s) (faC sc5) (viC sc5) := by exact rxe_i (piN_ok q_0).1 (piN_ok q_0).2 q_0.1 q_0.2.2.1 g5_0 (Or.inl c12)
          exact g_return (gd rfl) rfl (hP _ _ ⟨sc5, hIc5, hFc5, rfl, rfl, n51⟩)
        · skip
          have i12 := z_ne 1 1 c12 j5_3 rfl
          refine g_iconst 0 16 (gd rfl) rfl rfl ?_
          refine g_istore_n 17 (gd rfl) rfl (Nat.le_of_ble_eq_true rfl) ?_
          refine g_iconst 0 18 (gd rfl) rfl rfl ?_
          refine g_istore 20 (gd rfl) rfl (Nat.le_of_ble_eq_true rfl) ?_
          have n20 : RXJ (netC s) (fiC s) (x2).toInt (x1).toNatClampNeg (piN s (x2).toInt) (faC s) (viC s) (faC sc5) (faC sc5) (viC sc5) ((Int32.ofInt 0)).toNatClampNeg ((Int32.ofInt 0)).toInt := by exact (show RXJ _ _ _ _ _ _ _ _ _ _ 0 0 from rxj_0 g5_0.1)
          exact gg_w (by first | exact Nat.le_add_right _ _ | exact gw2 | exact gw3 | exact gwe rfl | exact gwf rfl | exact gwg rfl | exact gwh rfl | omega) (gg_f (gf_cons rfl (gf_cons rfl (gf_cons rfl (gf_cons rfl (gf_cons rfl (gf_cons rfl gf_nil)))))) (ct20 161 sc5 (Int32.ofInt 0) (Int32.ofInt 0) hIc5 hFc5 (in_w 0 1 (in_c 0 rfl) rfl) (in_w 0 32 i8 rfl) (in_w 0 160 (in_c 0 rfl) rfl) n20 (m_in 161 (in_w 0 160 (in_c 0 rfl) rfl) rfl)))
  refine g_enter2 (k := 86) (N := 5019335) (by first | exact dq1 hd rfl | exact dq0 hd rfl | exact dq2 hd rfl | exact dq3 hd rfl | omega) rfl (Nat.le_of_ble_eq_true rfl) ?_
  refine g_iconst 1 1 (gd rfl) rfl rfl ?_
  refine g_istore_n 2 (gd rfl) rfl (Nat.le_of_ble_eq_true rfl) ?_
  refine g_iconst 0 3 (gd rfl) rfl rfl ?_
  refine g_istore 5 (gd rfl) rfl (Nat.le_of_ble_eq_true rfl) ?_
  have n5 : RXI (netC s) (fiC s) (x2).toInt (x1).toNatClampNeg (piN s (x2).toInt) (faC s) (viC s) (faC s) (viC s) ((Int32.ofInt 0)).toNatClampNeg ((Int32.ofInt 1)).toInt := by exact (show RXI _ _ _ _ _ _ _ _ _ 0 1 from rxi_0 (piN_ok q_0).1 q_0.2.2.1)
  exact gg_w (by first | exact Nat.le_of_ble_eq_true rfl | omega) (gg_f (gf_cons rfl (gf_cons rfl (gf_cons rfl (gf_cons rfl (gf_cons rfl gf_nil))))) (ct5 34 s (Int32.ofInt 1) (Int32.ofInt 0) hI fr_rf (in_w 0 1 (in_c 1 rfl) rfl) (in_w 0 33 (in_c 0 rfl) rfl) n5 (m_in 34 (in_w 0 33 (in_c 0 rfl) rfl) rfl)))

theorem oc_85_65 : (Int32.ofInt (-1)).toInt = (-1) ∧ (Int32.ofInt 0).toInt = 0 ∧ (Int32.ofInt 1).toInt = 1 ∧ (Int64.ofInt 0).toInt = 0 ∧ (Int64.ofInt 9223372036854775807).toInt = 9223372036854775807 := ⟨rfl, rfl, rfl, rfl, rfl⟩
/-- GraphHouse$Flows.nearestLack -/
theorem f_85_65 {Z : AmZ} {A : Nat → Nat} {s : GS} {ex : va_W} {d : Nat} {X : AmX} {x1 : Int32} {x2 : Int32} (hd : 3 ≤ d) (hI : Inv s) (h1 : In x1 0 32) (h2 : In x2 1 65536) (q_0 : NLP s (x2).toInt (x1).toNatClampNeg) : GC Z d 85 [.ref (A 65), .int x1, .int x2] (WW Z A s ++ ex) 0 0 (fun v u => ∃ t : GS, Inv t ∧ Fr fm_85_65 s t ∧ ∃ z : Int32, v = some (.int z) ∧ u = WW Z A t ++ ex ∧ In z (-1) 31 ∧ (∃ r : Nat → Nat, NLF (netC s) (fiC s) (x2).toInt (x1).toNatClampNeg (exC s) (faC t) (viC t) r) ∧ (NBT (exC s) (faC t) (x2).toInt (x1).toNatClampNeg (z).toInt)) X := by
  intro post xp hP hX
  have ct54 : ∀ (k54 : Nat) (sc54 : GS) (y54_3 : Int32) (y54_4 : Int32), Inv sc54 → Fr fm_85_65 s sc54 → (In y54_3 (-1) 31) → (In y54_4 0 32) → ((y54_4).toInt ≤ (x1).toInt) → (∃ r : Nat → Nat, NLF (netC s) (fiC s) (x2).toInt (x1).toNatClampNeg (exC s) (faC sc54) (viC sc54) r) → (NBT (exC s) (faC sc54) (x2).toInt (y54_4).toNatClampNeg (y54_3).toInt) → 32 - (y54_4).toInt < (k54 : Int) → GG Z (d - 1) 85 post (gx xp) (1 + k54 * 900) 54 (fun j => xlook j [(0, .ref (A 65)), (1, .int x1), (2, .int x2), (3, .int y54_3), (4, .int y54_4)]) [] (WW Z A sc54 ++ ex) 0 0 := by
    intro k54
    induction k54 with
    | zero => intro sc54 y54_3 y54_4 hIc54 hFc54 j54_3 j54_4 n54_0 g54_0 g54_1 mm54; exact m_no mm54 j54_4 rfl
    | succ k54 ih54 =>
      intro sc54 y54_3 y54_4 hIc54 hFc54 j54_3 j54_4 n54_0 g54_0 g54_1 mm54
      refine gg_w (M := 1 + k54 * 900 + 900) gws ?_
      refine g_iload 56 (gd rfl) rfl rfl ?_
      refine g_iload_n 57 (gd rfl) rfl rfl ?_
      refine g_cmp_ge 60 117 (gd rfl) rfl rfl (fun c57 => ?_) (fun c57 => ?_)
      · skip
        refine g_iload_n 118 (gd rfl) rfl rfl ?_
        have n118 : ∃ r : Nat → Nat, NLF (netC s) (fiC s) (x2).toInt (x1).toNatClampNeg (exC s) (faC sc54) (viC sc54) r := by exact g54_0
        have n118a : NBT (exC s) (faC sc54) (x2).toInt (x1).toNatClampNeg (y54_3).toInt := by rw [← (show (y54_4).toNatClampNeg = (x1).toNatClampNeg from (by show (y54_4).toInt.toNat = (x1).toInt.toNat; exact (have a0 := in_u h2; have a1 := in_u h1; have a2 := in_u j54_4; have a3 := in_u j54_3; have oc := oc_85_65; by omega)))]; exact g54_1
        exact g_ireturn (gd rfl) rfl rfl (hP _ _ ⟨sc54, hIc54, hFc54, y54_3, rfl, rfl, in_w (-1) 31 j54_3 rfl, n118, n118a⟩)
      · skip
        have i57 := r_lt1 0 31 c57 j54_4 h1 rfl
        have i57a := r_lt2 1 32 c57 j54_4 h1 rfl
        refine g_aload_n 61 (gd rfl) rfl rfl ?_
        refine g_getA (q2 := 74) 64 (gd rfl) rfl rfl rfl rfl ?_
        refine g_iload 66 (gd rfl) rfl rfl ?_
        refine g_iaload 67 (gd rfl) rfl (n := 32) rfl (in_ix i57 rfl) (fun z66 e66 => ?_)
        refine g_iload_n 68 (gd rfl) rfl rfl ?_
        refine g_ineg 69 (gd rfl) rfl (fun z68 e68 => ?_)
        have i68 := in_neg (-65536) (-1) e68 h2 rfl
        refine g_cmp_gt 72 111 (gd rfl) rfl rfl (fun c69 => ?_) (fun c69 => ?_)
        · skip
          have i69 := r_lt2 (-65535) 2147483647 c69 i68 (i_rng z66) rfl
          refine g_iinc 114 (gd rfl) rfl rfl (Nat.le_of_ble_eq_true rfl) (fun z111 e111 => ?_)
          have i111 := in_add 1 32 e111 i57 (in_c 1 rfl) rfl rfl
          refine g_goto 54 (gd rfl) rfl ?_
          have n54 : (z111).toInt ≤ (x1).toInt := by exact (have a0 := in_u h2; have a1 := in_u i57a; have a2 := in_u i57; have a3 := in_u j54_3; have a4 := in_u i111; have a5 := t_add e111 i57 (in_c 1 rfl) rfl; have a6 := in_u ((in_c 1 rfl)); have oc := oc_85_65; by omega)
          have n54a : ∃ r : Nat → Nat, NLF (netC s) (fiC s) (x2).toInt (x1).toNatClampNeg (exC s) (faC sc54) (viC sc54) r := by exact g54_0
          have n54b : NBT (exC s) (faC sc54) (x2).toInt (z111).toNatClampNeg (y54_3).toInt := by rw [(show (z111).toNatClampNeg = (y54_4).toNatClampNeg + 1 from (by show (z111).toInt.toNat = (y54_4).toInt.toNat + 1; exact (have a0 := in_u h2; have a1 := in_u i57a; have a2 := in_u i57; have a3 := in_u j54_3; have a4 := in_u i111; have a5 := t_add e111 i57 (in_c 1 rfl) rfl; have a6 := in_u ((in_c 1 rfl)); have oc := oc_85_65; by omega)))]; exact nb_1 g54_1 e66 (hFc54.1 74 rfl) (show -(x2).toInt < (z66).toInt from (by have h9 := c69; have h8 := ineg_v e68 (by exact (have a0 := in_u h2; have a1 := in_u i57a; have a2 := in_u i57; have a3 := in_u j54_3; have a4 := in_u i111; have a5 := t_add e111 i57 (in_c 1 rfl) rfl; have a6 := in_u ((in_c 1 rfl)); have oc := oc_85_65; by omega)); exact (have a0 := in_u h2; have a1 := in_u i57a; have a2 := in_u i57; have a3 := in_u j54_3; have a4 := in_u i111; have a5 := t_add e111 i57 (in_c 1 rfl) rfl; have a6 := in_u ((in_c 1 rfl)); have oc := oc_85_65; by omega)))
          exact gg_w (by first | exact Nat.le_add_right _ _ | exact gw2 | exact gw3 | exact gwe rfl | exact gwf rfl | exact gwg rfl | exact gwh rfl | omega) (gg_f (gf_cons rfl (gf_cons rfl (gf_cons rfl (gf_cons rfl (gf_cons rfl gf_nil))))) (ih54 sc54 y54_3 z111 hIc54 hFc54 (in_w (-1) 31 j54_3 rfl) (in_w 0 32 i111 rfl) n54 n54a n54b (m_up mm54 (t_add e111 i57 (in_c 1 rfl) rfl) (in_w 1 1 (in_c 1 rfl) rfl))))
        · skip
          have i69 := r_le1 (-2147483648) (-1) c69 (i_rng z66) i68 rfl
          refine g_aload_n 73 (gd rfl) rfl rfl ?_
          refine g_getA (q2 := 75) 76 (gd rfl) rfl rfl rfl rfl ?_
          refine g_iload 78 (gd rfl) rfl rfl ?_
          refine g_laload 79 (gd rfl) rfl (n := 32) rfl (in_ix i57 rfl) (fun z78 e78 => ?_)
          refine g_ldc2_w 9223372036854775807 82 (gd rfl) rfl rfl ?_
          refine g_lcmp 83 (gd rfl) rfl (fun z82 e82 => ?_)
          have i82 := lc_in e82
          refine g_if_eq 86 111 (gd rfl) rfl rfl (fun c83 => ?_) (fun c83 => ?_)
          · skip
            have i83 := z_eq 0 0 c83 i82 rfl
            have c83a := lc_eq e82 c83
            have i83a := lr_eq1 9223372036854775807 9223372036854775807 c83a (l_rng z78) (l_c 9223372036854775807 rfl) rfl
            refine g_iinc 114 (gd rfl) rfl rfl (Nat.le_of_ble_eq_true rfl) (fun z111 e111 => ?_)
            have i111 := in_add 1 32 e111 i57 (in_c 1 rfl) rfl rfl
            refine g_goto 54 (gd rfl) rfl ?_
            have n54 : (z111).toInt ≤ (x1).toInt := by exact (have a0 := in_u h2; have a1 := in_u i57a; have a2 := in_u i57; have a3 := in_u j54_3; have a4 := in_u i111; have a5 := t_add e111 i57 (in_c 1 rfl) rfl; have a6 := in_u ((in_c 1 rfl)); have oc := oc_85_65; by omega)
            have n54a : ∃ r : Nat → Nat, NLF (netC s) (fiC s) (x2).toInt (x1).toNatClampNeg (exC s) (faC sc54) (viC sc54) r := by exact g54_0
            have n54b : NBT (exC s) (faC sc54) (x2).toInt (z111).toNatClampNeg (y54_3).toInt := by rw [(show (z111).toNatClampNeg = (y54_4).toNatClampNeg + 1 from (by show (z111).toInt.toNat = (y54_4).toInt.toNat + 1; exact (have a0 := in_u h2; have a1 := in_u i57a; have a2 := in_u i57; have a3 := in_u j54_3; have a4 := in_u i111; have a5 := t_add e111 i57 (in_c 1 rfl) rfl; have a6 := in_u ((in_c 1 rfl)); have oc := oc_85_65; by omega)))]; exact nb_2 g54_1 e78 c83a
            exact gg_w (by first | exact Nat.le_add_right _ _ | exact gw2 | exact gw3 | exact gwe rfl | exact gwf rfl | exact gwg rfl | exact gwh rfl | omega) (gg_f (gf_cons rfl (gf_cons rfl (gf_cons rfl (gf_cons rfl (gf_cons rfl gf_nil))))) (ih54 sc54 y54_3 z111 hIc54 hFc54 (in_w (-1) 31 j54_3 rfl) (in_w 0 32 i111 rfl) n54 n54a n54b (m_up mm54 (t_add e111 i57 (in_c 1 rfl) rfl) (in_w 1 1 (in_c 1 rfl) rfl))))
          · skip
            have c83a := lc_ne e82 c83
            have i83 := lr_ne1 (-9223372036854775808) 9223372036854775806 c83a (l_rng z78) (l_c 9223372036854775807 rfl) rfl
            refine g_iload_n 87 (gd rfl) rfl rfl ?_
            refine g_iconst (-1) 88 (gd rfl) rfl rfl ?_
            refine g_cmp_eq 91 108 (gd rfl) rfl rfl (fun c88 => ?_) (fun c88 => ?_)
            · skip
              have i88 := r_eq1 (-1) (-1) c88 j54_3 (in_c (-1) rfl) rfl
              refine g_iload 110 (gd rfl) rfl rfl ?_
              refine g_istore_n 111 (gd rfl) rfl (Nat.le_of_ble_eq_true rfl) ?_
              refine g_iinc 114 (gd rfl) rfl rfl (Nat.le_of_ble_eq_true rfl) (fun z111 e111 => ?_)
              have i111 := in_add 1 32 e111 i57 (in_c 1 rfl) rfl rfl
              refine g_goto 54 (gd rfl) rfl ?_
              have n54 : (z111).toInt ≤ (x1).toInt := by exact (have a0 := in_u h2; have a1 := in_u i57a; have a2 := in_u i57; have a3 := in_u i88; have a4 := in_u i111; have a5 := t_add e111 i57 (in_c 1 rfl) rfl; have a6 := in_u ((in_c 1 rfl)); have oc := oc_85_65; by omega)
              have n54a : ∃ r : Nat → Nat, NLF (netC s) (fiC s) (x2).toInt (x1).toNatClampNeg (exC s) (faC sc54) (viC sc54) r := by exact g54_0
              have n54b : NBT (exC s) (faC sc54) (x2).toInt (z111).toNatClampNeg (y54_4).toInt := by rw [(show (z111).toNatClampNeg = (y54_4).toNatClampNeg + 1 from (by show (z111).toInt.toNat = (y54_4).toInt.toNat + 1; exact (have a0 := in_u h2; have a1 := in_u i57a; have a2 := in_u i57; have a3 := in_u i88; have a4 := in_u i111; have a5 := t_add e111 i57 (in_c 1 rfl) rfl; have a6 := in_u ((in_c 1 rfl)); have oc := oc_85_65; by omega)))]; exact nb_3 g54_1 (show 0 ≤ (y54_4).toInt from (by exact (have a0 := in_u h2; have a1 := in_u i57a; have a2 := in_u i57; have a3 := in_u i88; have a4 := in_u i111; have a5 := t_add e111 i57 (in_c 1 rfl) rfl; have a6 := in_u ((in_c 1 rfl)); have oc := oc_85_65; by omega))) e66 (hFc54.1 74 rfl) (show (z66).toInt ≤ -(x2).toInt from (by have h9 := c69; have h8 := ineg_v e68 (by exact (have a0 := in_u h2; have a1 := in_u i57a; have a2 := in_u i57; have a3 := in_u i88; have a4 := in_u i111; have a5 := t_add e111 i57 (in_c 1 rfl) rfl; have a6 := in_u ((in_c 1 rfl)); have oc := oc_85_65; by omega)); exact (have a0 := in_u h2; have a1 := in_u i57a; have a2 := in_u i57; have a3 := in_u i88; have a4 := in_u i111; have a5 := t_add e111 i57 (in_c 1 rfl) rfl; have a6 := in_u ((in_c 1 rfl)); have oc := oc_85_65; by omega))) e78 c83a c88
              exact gg_w (by first | exact Nat.le_add_right _ _ | exact gw2 | exact gw3 | exact gwe rfl | exact gwf rfl | exact gwg rfl | exact gwh rfl | omega) (gg_f (gf_cons rfl (gf_cons rfl (gf_cons rfl (gf_cons rfl (gf_cons rfl gf_nil))))) (ih54 sc54 y54_4 z111 hIc54 hFc54 (in_w (-1) 31 i57 rfl) (in_w 0 32 i111 rfl) n54 n54a n54b (m_up mm54 (t_add e111 i57 (in_c 1 rfl) rfl) (in_w 1 1 (in_c 1 rfl) rfl))))
            · skip
              have i88 := r_ne1 0 31 c88 j54_3 (in_c (-1) rfl) rfl
              refine g_aload_n 92 (gd rfl) rfl rfl ?_
              refine g_getA (q2 := 75) 95 (gd rfl) rfl rfl rfl rfl ?_
              refine g_iload 97 (gd rfl) rfl rfl ?_
              refine g_laload 98 (gd rfl) rfl (n := 32) rfl (in_ix i57 rfl) (fun z97 e97 => ?_)
              refine g_aload_n 99 (gd rfl) rfl rfl ?_
              refine g_getA (q2 := 75) 102 (gd rfl) rfl rfl rfl rfl ?_
              refine g_iload_n 103 (gd rfl) rfl rfl ?_
              refine g_laload 104 (gd rfl) rfl (n := 32) rfl (in_ix i88 rfl) (fun z103 e103 => ?_)
              refine g_lcmp 105 (gd rfl) rfl (fun z104 e104 => ?_)
              have i104 := lc_in e104
              refine g_if_ge 108 111 (gd rfl) rfl rfl (fun c105 => ?_) (fun c105 => ?_)
              · skip
                have i105 := z_ge 0 1 c105 i104 rfl
                have c105a := lc_ge e104 c105
                refine g_iinc 114 (gd rfl) rfl rfl (Nat.le_of_ble_eq_true rfl) (fun z111 e111 => ?_)
                have i111 := in_add 1 32 e111 i57 (in_c 1 rfl) rfl rfl
                refine g_goto 54 (gd rfl) rfl ?_
                have n54 : (z111).toInt ≤ (x1).toInt := by exact (have a0 := in_u h2; have a1 := in_u i57a; have a2 := in_u i57; have a3 := in_u i88; have a4 := in_u i111; have a5 := t_add e111 i57 (in_c 1 rfl) rfl; have a6 := in_u ((in_c 1 rfl)); have oc := oc_85_65; by omega)
                have n54a : ∃ r : Nat → Nat, NLF (netC s) (fiC s) (x2).toInt (x1).toNatClampNeg (exC s) (faC sc54) (viC sc54) r := by exact g54_0
                have n54b : NBT (exC s) (faC sc54) (x2).toInt (z111).toNatClampNeg (y54_3).toInt := by rw [(show (z111).toNatClampNeg = (y54_4).toNatClampNeg + 1 from (by show (z111).toInt.toNat = (y54_4).toInt.toNat + 1; exact (have a0 := in_u h2; have a1 := in_u i57a; have a2 := in_u i57; have a3 := in_u i88; have a4 := in_u i111; have a5 := t_add e111 i57 (in_c 1 rfl) rfl; have a6 := in_u ((in_c 1 rfl)); have oc := oc_85_65; by omega)))]; first | exact nb_4 g54_1 (show 0 ≤ (y54_4).toInt from (by exact (have a0 := in_u h2; have a1 := in_u i57a; have a2 := in_u i57; have a3 := in_u i88; have a4 := in_u i111; have a5 := t_add e111 i57 (in_c 1 rfl) rfl; have a6 := in_u ((in_c 1 rfl)); have oc := oc_85_65; by omega))) e66 (hFc54.1 74 rfl) (show (z66).toInt ≤ -(x2).toInt from (by have h9 := c69; have h8 := ineg_v e68 (by exact (have a0 := in_u h2; have a1 := in_u i57a; have a2 := in_u i57; have a3 := in_u i88; have a4 := in_u i111; have a5 := t_add e111 i57 (in_c 1 rfl) rfl; have a6 := in_u ((in_c 1 rfl)); have oc := oc_85_65; by omega)); exact (have a0 := in_u h2; have a1 := in_u i57a; have a2 := in_u i57; have a3 := in_u i88; have a4 := in_u i111; have a5 := t_add e111 i57 (in_c 1 rfl) rfl; have a6 := in_u ((in_c 1 rfl)); have oc := oc_85_65; by omega))) e78 c83a e97 e103 c105a | exact nb_5 g54_1 (show 0 ≤ (y54_3).toInt from i88.1) e97 e103 c105a
                exact gg_w (by first | exact Nat.le_add_right _ _ | exact gw2 | exact gw3 | exact gwe rfl | exact gwf rfl | exact gwg rfl | exact gwh rfl | omega) (gg_f (gf_cons rfl (gf_cons rfl (gf_cons rfl (gf_cons rfl (gf_cons rfl gf_nil))))) (ih54 sc54 y54_3 z111 hIc54 hFc54 (in_w (-1) 31 i88 rfl) (in_w 0 32 i111 rfl) n54 n54a n54b (m_up mm54 (t_add e111 i57 (in_c 1 rfl) rfl) (in_w 1 1 (in_c 1 rfl) rfl))))
              · skip
                have i105 := z_lt (-1) (-1) c105 i104 rfl
                have c105a := lc_lt e104 c105
                have i105a := lr_lt1 (-9223372036854775808) 9223372036854775806 c105a (l_rng z97) (l_rng z103) rfl
                have i105b := lr_lt2 (-9223372036854775807) 9223372036854775807 c105a (l_rng z97) (l_rng z103) rfl
                refine g_iload 110 (gd rfl) rfl rfl ?_
                refine g_istore_n 111 (gd rfl) rfl (Nat.le_of_ble_eq_true rfl) ?_
                refine g_iinc 114 (gd rfl) rfl rfl (Nat.le_of_ble_eq_true rfl) (fun z111 e111 => ?_)
                have i111 := in_add 1 32 e111 i57 (in_c 1 rfl) rfl rfl
                refine g_goto 54 (gd rfl) rfl ?_
                have n54 : (z111).toInt ≤ (x1).toInt := by exact (have a0 := in_u h2; have a1 := in_u i57a; have a2 := in_u i57; have a3 := in_u i88; have a4 := in_u i111; have a5 := t_add e111 i57 (in_c 1 rfl) rfl; have a6 := in_u ((in_c 1 rfl)); have oc := oc_85_65; by omega)
                have n54a : ∃ r : Nat → Nat, NLF (netC s) (fiC s) (x2).toInt (x1).toNatClampNeg (exC s) (faC sc54) (viC sc54) r := by exact g54_0
                have n54b : NBT (exC s) (faC sc54) (x2).toInt (z111).toNatClampNeg (y54_4).toInt := by rw [(show (z111).toNatClampNeg = (y54_4).toNatClampNeg + 1 from (by show (z111).toInt.toNat = (y54_4).toInt.toNat + 1; exact (have a0 := in_u h2; have a1 := in_u i57a; have a2 := in_u i57; have a3 := in_u i88; have a4 := in_u i111; have a5 := t_add e111 i57 (in_c 1 rfl) rfl; have a6 := in_u ((in_c 1 rfl)); have oc := oc_85_65; by omega)))]; first | exact nb_4 g54_1 (show 0 ≤ (y54_4).toInt from (by exact (have a0 := in_u h2; have a1 := in_u i57a; have a2 := in_u i57; have a3 := in_u i88; have a4 := in_u i111; have a5 := t_add e111 i57 (in_c 1 rfl) rfl; have a6 := in_u ((in_c 1 rfl)); have oc := oc_85_65; by omega))) e66 (hFc54.1 74 rfl) (show (z66).toInt ≤ -(x2).toInt from (by have h9 := c69; have h8 := ineg_v e68 (by exact (have a0 := in_u h2; have a1 := in_u i57a; have a2 := in_u i57; have a3 := in_u i88; have a4 := in_u i111; have a5 := t_add e111 i57 (in_c 1 rfl) rfl; have a6 := in_u ((in_c 1 rfl)); have oc := oc_85_65; by omega)); exact (have a0 := in_u h2; have a1 := in_u i57a; have a2 := in_u i57; have a3 := in_u i88; have a4 := in_u i111; have a5 := t_add e111 i57 (in_c 1 rfl) rfl; have a6 := in_u ((in_c 1 rfl)); have oc := oc_85_65; by omega))) e78 c83a e97 e103 c105a | exact nb_5 g54_1 (show 0 ≤ (y54_3).toInt from i88.1) e97 e103 c105a
                exact gg_w (by first | exact Nat.le_add_right _ _ | exact gw2 | exact gw3 | exact gwe rfl | exact gwf rfl | exact gwg rfl | exact gwh rfl | omega) (gg_f (gf_cons rfl (gf_cons rfl (gf_cons rfl (gf_cons rfl (gf_cons rfl gf_nil))))) (ih54 sc54 y54_4 z111 hIc54 hFc54 (in_w (-1) 31 i57 rfl) (in_w 0 32 i111 rfl) n54 n54a n54b (m_up mm54 (t_add e111 i57 (in_c 1 rfl) rfl) (in_w 1 1 (in_c 1 rfl) rfl))))
  have ct2 : ∀ (k2 : Nat) (sc2 : GS) (y2_3 : Int32), Inv sc2 → Fr fm_85_65 s sc2 → (In y2_3 0 32) → (NLI (exC s) (x2).toInt (faC sc2) (viC sc2) (y2_3).toNatClampNeg) → 32 - (y2_3).toInt < (k2 : Int) → GG Z (d - 1) 85 post (gx xp) (29702 + k2 * 900) 2 (fun j => xlook j [(0, .ref (A 65)), (1, .int x1), (2, .int x2), (3, .int y2_3)]) [] (WW Z A sc2 ++ ex) 0 0 := by
    intro k2
    induction k2 with
    | zero => intro sc2 y2_3 hIc2 hFc2 j2_3 g2_0 mm2; exact m_no mm2 j2_3 rfl
    | succ k2 ih2 =>
      intro sc2 y2_3 hIc2 hFc2 j2_3 g2_0 mm2
      refine gg_w (M := 29702 + k2 * 900 + 900) gws ?_
      refine g_iload_n 3 (gd rfl) rfl rfl ?_
      refine g_iload_n 4 (gd rfl) rfl rfl ?_
      refine g_cmp_ge 7 43 (gd rfl) rfl rfl (fun c4 => ?_) (fun c4 => ?_)
      · skip
        refine g_aload_n 44 (gd rfl) rfl rfl ?_
        refine g_iload_n 45 (gd rfl) rfl rfl ?_
        refine g_iload_n 46 (gd rfl) rfl rfl ?_
        have p46 : RXP sc2 (x2).toInt (x1).toNatClampNeg := by exact nlp_x q_0 (net_fr hFc2 rfl) (fi_fr hFc2 rfl) (nli_0 (show NLI (exC s) (x2).toInt (faC sc2) (viC sc2) (x1).toNatClampNeg from fun v hv => g2_0 v (Nat.lt_of_lt_of_le hv (show (x1).toNatClampNeg ≤ (y2_3).toNatClampNeg from (by show (x1).toInt.toNat ≤ (y2_3).toInt.toNat; exact (have a0 := in_u h2; have a1 := in_u h1; have a2 := in_u j2_3; have oc := oc_85_65; by omega))))))
        refine g_callv (X := _) (As := [.int x1, .int x2]) (r := []) (b := A 65) (q := 65) 49 (gd rfl) rfl rfl rfl rfl rfl (ww_o rfl) (Nat.le_of_ble_eq_true rfl) (Nat.zero_le _) (Nat.zero_le _) (f_86_65 (by first | exact dq1 hd rfl | exact dq0 hd rfl | exact dq2 hd rfl | exact dq3 hd rfl | omega) hIc2 (in_w 0 32 h1 rfl) (in_w 1 1048576 h2 rfl) p46) (fun e u h => h) (fun v u h => ?_)
        obtain ⟨s46, hI46, hF46, rfl, rfl, p46a⟩ := h
        show GG _ _ _ _ _ _ _ _ [] _ _ _
        refine g_iconst (-1) 50 (gd rfl) rfl rfl ?_
        refine g_istore_n 51 (gd rfl) rfl (Nat.le_of_ble_eq_true rfl) ?_
        refine g_iconst 0 52 (gd rfl) rfl rfl ?_
        refine g_istore 54 (gd rfl) rfl (Nat.le_of_ble_eq_true rfl) ?_
        have n54 : ((Int32.ofInt 0)).toInt ≤ (x1).toInt := by exact (have a0 := in_u h2; have a1 := in_u h1; have a2 := in_u j2_3; have a3 := in_u ((in_c 0 rfl)); have a4 := in_u ((in_c (-1) rfl)); have oc := oc_85_65; by omega)
        have n54a : ∃ r : Nat → Nat, NLF (netC s) (fiC s) (x2).toInt (x1).toNatClampNeg (exC s) (faC s46) (viC s46) r := by have r9 := p46a; rw [net_fr hFc2 rfl, fi_fr hFc2 rfl] at r9; exact nlf_i (show NLI (exC s) (x2).toInt (faC sc2) (viC sc2) (x1).toNatClampNeg from fun v hv => g2_0 v (Nat.lt_of_lt_of_le hv (show (x1).toNatClampNeg ≤ (y2_3).toNatClampNeg from (by show (x1).toInt.toNat ≤ (y2_3).toInt.toNat; exact (have a0 := in_u h2; have a1 := in_u h1; have a2 := in_u j2_3; have a3 := in_u ((in_c 0 rfl)); have a4 := in_u ((in_c (-1) rfl)); have oc := oc_85_65; by omega))))) r9
        have n54b : NBT (exC s) (faC s46) (x2).toInt ((Int32.ofInt 0)).toNatClampNeg ((Int32.ofInt (-1))).toInt := by exact (show NBT _ _ _ 0 (-1) from nbt_0)
        exact gg_w (by first | exact Nat.le_add_right _ _ | exact gw2 | exact gw3 | exact gwe rfl | exact gwf rfl | exact gwg rfl | exact gwh rfl | omega) (gg_f (gf_cons rfl (gf_cons rfl (gf_cons rfl (gf_cons rfl (gf_cons rfl gf_nil))))) (ct54 33 s46 (Int32.ofInt (-1)) (Int32.ofInt 0) hI46 (fr_tr rfl hFc2 hF46) (in_w (-1) 31 (in_c (-1) rfl) rfl) (in_w 0 32 (in_c 0 rfl) rfl) n54 n54a n54b (m_in 33 (in_w 0 32 (in_c 0 rfl) rfl) rfl)))
      · skip
        have i4 := r_lt1 0 31 c4 j2_3 h1 rfl
        have i4a := r_lt2 1 32 c4 j2_3 h1 rfl
        refine g_aload_n 8 (gd rfl) rfl rfl ?_
        refine g_getA (q2 := 75) 11 (gd rfl) rfl rfl rfl rfl ?_
        refine g_iload_n 12 (gd rfl) rfl rfl ?_
        refine g_aload_n 13 (gd rfl) rfl rfl ?_
        refine g_getA (q2 := 74) 16 (gd rfl) rfl rfl rfl rfl ?_
        refine g_iload_n 17 (gd rfl) rfl rfl ?_
        refine g_iaload 18 (gd rfl) rfl (n := 32) rfl (in_ix i4 rfl) (fun z17 e17 => ?_)
        refine g_iload_n 19 (gd rfl) rfl rfl ?_
        refine g_cmp_lt 22 26 (gd rfl) rfl rfl (fun c19 => ?_) (fun c19 => ?_)
        · skip
          have i19 := r_lt1 (-2147483648) 65535 c19 (i_rng z17) h2 rfl
          refine g_ldc2_w 9223372036854775807 29 (gd rfl) rfl rfl ?_
          refine g_lastore 30 (gd rfl) rfl (n := 32) rfl (in_ix i4 rfl) ?_
          have hI29 := inv_sL (q := 75) (j := y2_3.toNatClampNeg) (x := (Int64.ofInt 9223372036854775807)) hIc2 rfl (l_rng (Int64.ofInt 9223372036854775807))
          refine g_aload_n 31 (gd rfl) rfl rfl ?_
          refine g_getA (q2 := 68) 34 (gd rfl) rfl rfl rfl rfl ?_
          refine g_iload_n 35 (gd rfl) rfl rfl ?_
          refine g_iconst (-1) 36 (gd rfl) rfl rfl ?_
          refine g_iastore 37 (gd rfl) rfl (n := 32) rfl (in_ix i4 rfl) ?_
          have hI36 := inv_sI (q := 68) (j := y2_3.toNatClampNeg) hI29 rfl (in_w (-1) 319 (in_c (-1) rfl) rfl)
          refine g_iinc 40 (gd rfl) rfl rfl (Nat.le_of_ble_eq_true rfl) (fun z37 e37 => ?_)
          have i37 := in_add 1 32 e37 i4 (in_c 1 rfl) rfl rfl
          refine g_goto 2 (gd rfl) rfl ?_
          have n2 : NLI (exC s) (x2).toInt (faC (sI (sL sc2 75 y2_3.toNatClampNeg (Int64.ofInt 9223372036854775807)) 68 y2_3.toNatClampNeg (Int32.ofInt (-1)))) (viC (sI (sL sc2 75 y2_3.toNatClampNeg (Int64.ofInt 9223372036854775807)) 68 y2_3.toNatClampNeg (Int32.ofInt (-1)))) (z37).toNatClampNeg := by rw [(show (z37).toNatClampNeg = (y2_3).toNatClampNeg + 1 from (by show (z37).toInt.toNat = (y2_3).toInt.toNat + 1; exact (have a0 := in_u h2; have a1 := in_u i4a; have a2 := in_u i4; have a3 := in_u i37; have a4 := t_add e37 i4 (in_c 1 rfl) rfl; have a5 := in_u ((in_c 1 rfl)); have oc := oc_85_65; by omega)))]; first | exact nl_a g2_0 e17 (hFc2.1 74 rfl) c19 | exact nl_b g2_0 e17 (hFc2.1 74 rfl) c19
          exact gg_w (by first | exact Nat.le_add_right _ _ | exact gw2 | exact gw3 | exact gwe rfl | exact gwf rfl | exact gwg rfl | exact gwh rfl | omega) (gg_f (gf_cons rfl (gf_cons rfl (gf_cons rfl (gf_cons rfl gf_nil)))) (ih2 (sI (sL sc2 75 y2_3.toNatClampNeg (Int64.ofInt 9223372036854775807)) 68 y2_3.toNatClampNeg (Int32.ofInt (-1))) z37 hI36 (fr_sI rfl (fr_sL rfl hFc2)) (in_w 0 32 i37 rfl) n2 (m_up mm2 (t_add e37 i4 (in_c 1 rfl) rfl) (in_w 1 1 (in_c 1 rfl) rfl))))
        · skip
          have i19 := r_le2 1 2147483647 c19 h2 (i_rng z17) rfl
          refine g_lconst 0 23 (gd rfl) rfl rfl ?_
          refine g_goto 29 (gd rfl) rfl ?_
          refine g_lastore 30 (gd rfl) rfl (n := 32) rfl (in_ix i4 rfl) ?_
          have hI29 := inv_sL (q := 75) (j := y2_3.toNatClampNeg) (x := (Int64.ofInt 0)) hIc2 rfl (l_rng (Int64.ofInt 0))
          refine g_aload_n 31 (gd rfl) rfl rfl ?_
          refine g_getA (q2 := 68) 34 (gd rfl) rfl rfl rfl rfl ?_
          refine g_iload_n 35 (gd rfl) rfl rfl ?_
          refine g_iconst (-1) 36 (gd rfl) rfl rfl ?_
          refine g_iastore 37 (gd rfl) rfl (n := 32) rfl (in_ix i4 rfl) ?_
          have hI36 := inv_sI (q := 68) (j := y2_3.toNatClampNeg) hI29 rfl (in_w (-1) 319 (in_c (-1) rfl) rfl)
          refine g_iinc 40 (gd rfl) rfl rfl (Nat.le_of_ble_eq_true rfl) (fun z37 e37 => ?_)
          have i37 := in_add 1 32 e37 i4 (in_c 1 rfl) rfl rfl
          refine g_goto 2 (gd rfl) rfl ?_
          have n2 : NLI (exC s) (x2).toInt (faC (sI (sL sc2 75 y2_3.toNatClampNeg (Int64.ofInt 0)) 68 y2_3.toNatClampNeg (Int32.ofInt (-1)))) (viC (sI (sL sc2 75 y2_3.toNatClampNeg (Int64.ofInt 0)) 68 y2_3.toNatClampNeg (Int32.ofInt (-1)))) (z37).toNatClampNeg := by rw [(show (z37).toNatClampNeg = (y2_3).toNatClampNeg + 1 from (by show (z37).toInt.toNat = (y2_3).toInt.toNat + 1; exact (have a0 := in_u h2; have a1 := in_u i4a; have a2 := in_u i4; have a3 := in_u i37; have a4 := t_add e37 i4 (in_c 1 rfl) rfl; have a5 := in_u ((in_c 1 rfl)); have oc := oc_85_65; by omega)))]; first | exact nl_a g2_0 e17 (hFc2.1 74 rfl) c19 | exact nl_b g2_0 e17 (hFc2.1 74 rfl) c19
          exact gg_w (by first | exact Nat.le_add_right _ _ | exact gw2 | exact gw3 | exact gwe rfl | exact gwf rfl | exact gwg rfl | exact gwh rfl | omega) (gg_f (gf_cons rfl (gf_cons rfl (gf_cons rfl (gf_cons rfl gf_nil)))) (ih2 (sI (sL sc2 75 y2_3.toNatClampNeg (Int64.ofInt 0)) 68 y2_3.toNatClampNeg (Int32.ofInt (-1))) z37 hI36 (fr_sI rfl (fr_sL rfl hFc2)) (in_w 0 32 i37 rfl) n2 (m_up mm2 (t_add e37 i4 (in_c 1 rfl) rfl) (in_w 1 1 (in_c 1 rfl) rfl))))
  refine g_enter2 (k := 85) (N := 60302) (by first | exact dq1 hd rfl | exact dq0 hd rfl | exact dq2 hd rfl | exact dq3 hd rfl | omega) rfl (Nat.le_of_ble_eq_true rfl) ?_
  refine g_iconst 0 1 (gd rfl) rfl rfl ?_
  refine g_istore_n 2 (gd rfl) rfl (Nat.le_of_ble_eq_true rfl) ?_
  have n2 : NLI (exC s) (x2).toInt (faC s) (viC s) ((Int32.ofInt 0)).toNatClampNeg := by exact (show NLI _ _ _ _ 0 from fun v hv => absurd hv (Nat.not_lt_zero v))
  exact gg_w (by first | exact Nat.le_of_ble_eq_true rfl | omega) (gg_f (gf_cons rfl (gf_cons rfl (gf_cons rfl (gf_cons rfl gf_nil)))) (ct2 33 s (Int32.ofInt 0) hI fr_rf (in_w 0 32 (in_c 0 rfl) rfl) n2 (m_in 33 (in_w 0 32 (in_c 0 rfl) rfl) rfl)))
end
