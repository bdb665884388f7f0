section
/-! FUNCTIONAL CONTRACTS, by fgen.py -/
theorem oc_136_1_46 : (Int32.ofInt (-1)).toInt = (-1) ∧ (Int32.ofInt 0).toInt = 0 ∧ (Int32.ofInt 1).toInt = 1 ∧ (Int32.ofInt 2).toInt = 2 ∧ (Int32.ofInt 3).toInt = 3 ∧ (Int32.ofInt 4).toInt = 4 ∧ (Int32.ofInt 7).toInt = 7 ∧ (Int32.ofInt 59).toInt = 59 ∧ (Int32.ofInt 108).toInt = 108 := ⟨rfl, rfl, rfl, rfl, rfl, rfl, rfl, rfl, rfl⟩
/-- GraphHouse$Ledger.readCommand -/
theorem f_136_1_46 {Z : AmZ} {A : Nat → Nat} {s : GS} {ex : va_W} {d : Nat} {X : AmX} {u_2_0 : Int32} {u_2_1 : Int32} {u_30_0 : Int32} {u_46_2 : Int32} {u_46_1 : Int32} {u_46_3 : Int32} {u_46_4 : Int32} {u_46_5 : Int32} (hd : 9 ≤ d) (hI : Inv s) (e_2_0 : u_2_0 = s.2.2.1 2 0) (e_2_1 : u_2_1 = s.2.2.1 2 1) (e_30_0 : u_30_0 = s.2.2.1 30 0) (e_46_2 : u_46_2 = s.2.2.1 46 2) (e_46_1 : u_46_1 = s.2.2.1 46 1) (e_46_3 : u_46_3 = s.2.2.1 46 3) (e_46_4 : u_46_4 = s.2.2.1 46 4) (e_46_5 : u_46_5 = s.2.2.1 46 5) (p_0 : (u_46_2).toInt ≤ (u_46_1).toInt) (q_0 : KL s) (q_1 : (s.2.2.1 46 3).toInt = 1 → In (s.2.2.1 46 5) 0 25) (q_2 : ∃ a : Nat, TKN (s.1 47) (s.2.2.1 46 1).toInt.toNat a (s.2.2.1 46 4).toInt.toNat (s.2.2.1 46 2).toInt.toNat (s.2.2.1 46 3).toInt (s.2.2.1 46 5).toInt) (q_3 : TQ s) (q_4 : (s.2.2.1 46 3).toInt ≠ 0) : GC Z d 136 [.ref (A 1), .ref (A 46)] (WW Z A s ++ ex) (lc s) (lsl s) (fun v u => ∃ a : Nat, ∃ t : GS, Inv t ∧ Fr fm_136_1_46 s t ∧ ((t.2.2.1 46 2).toInt ≤ (t.2.2.1 46 1).toInt) ∧ ((s.2.2.1 2 0).toInt ≤ (t.2.2.1 2 0).toInt) ∧ ∃ z : Int32, v = some (.int z) ∧ u = WW Z (ax A 30 a) t ++ ex ∧ In z 0 1 ∧ (KL t) ∧ ((z).toInt ≠ 0 → (t.2.2.1 30 0).toInt = nln s) ∧ ((z).toInt ≠ 0 → (s.2.2.1 2 0).toInt ≤ 3999) ∧ (∀ k : Nat, (k : Int) < 7 * (s.2.2.1 2 0).toInt → t.1 30 k = s.1 30 k) ∧ ((z).toInt ≠ 0 → ∀ a : Nat, TKN (s.1 47) (s.2.2.1 46 1).toInt.toNat a (s.2.2.1 46 4).toInt.toNat (s.2.2.1 46 2).toInt.toNat (s.2.2.1 46 3).toInt (s.2.2.1 46 5).toInt → ∃ c V, CMP (s.1 47) (s.2.2.1 46 1).toInt.toNat a (s.2.2.1 46 4).toInt.toNat c V (t.2.2.1 46 2).toInt.toNat ∧ dkC (gvC s) c V ∧ gvC t = opC (gvC s) c V) ∧ ((z).toInt = 0 → ∀ a : Nat, TKN (s.1 47) (s.2.2.1 46 1).toInt.toNat a (s.2.2.1 46 4).toInt.toNat (s.2.2.1 46 2).toInt.toNat (s.2.2.1 46 3).toInt (s.2.2.1 46 5).toInt → CMX (s.1 47) (s.2.2.1 46 1).toInt.toNat a (t.2.2.1 46 6).toInt (t.2.2.1 46 7).toInt.toNat ∨ ∃ c V e, CMP (s.1 47) (s.2.2.1 46 1).toInt.toNat a (t.2.2.1 46 7).toInt.toNat c V e ∧ ¬ dkC (gvC s) c V ∧ (t.2.2.1 46 6).toInt = 4) ∧ ((z).toInt ≠ 0 → TQ t) ∧ ((z).toInt ≠ 0 → t.2.2.1 46 6 = s.2.2.1 46 6 ∧ t.2.2.1 46 7 = s.2.2.1 46 7) ∧ ((z).toInt = 0 → 0 ≤ (t.2.2.1 46 7).toInt)) X := by
  intro post xp hP hX
  have ro_46_1 := inv_F hI 0 1000 rfl e_46_1
  have ct46 : ∀ (k46 : Nat) (sc46 : GS) (y46_2 : Int32) (y46_3 : Int32) (y46_4 : Int32) (y46_5 : Int32) (w46_46_2 : Int32) (w46_2_0 : Int32) (w46_2_1 : Int32) (w46_30_0 : Int32), Inv sc46 → Fr fm_136_1_46 s sc46 → (In y46_2 0 1000) → (In y46_3 (-1) 25) → (In y46_4 1 5) → (In y46_5 0 5) → (w46_46_2 = sc46.2.2.1 46 2) → (w46_2_0 = sc46.2.2.1 2 0) → (w46_2_1 = sc46.2.2.1 2 1) → (w46_30_0 = sc46.2.2.1 30 0) → ((w46_46_2).toInt ≤ (u_46_1).toInt) → ((u_2_0).toInt ≤ (w46_2_0).toInt) → ((y46_3).toInt = 13 → (y46_4).toInt = 1) → ((y46_4).toInt = 1 → 1 ≤ (y46_5).toInt → In (sc46.1 31 0) 0 25) → (Fr ([31], [], [(46, 2), (46, 3), (46, 4), (46, 5), (46, 6), (46, 7)], []) s sc46) → (SHQ (y46_3).toInt (y46_4).toInt) → ((s.2.2.1 46 3).toInt = 1 ∧ (s.2.2.1 46 5).toInt = (y46_3).toInt ∧ (y46_2) = s.2.2.1 46 4) → ((y46_5).toInt ≤ (cmA (y46_3).toInt : Int)) → (∀ a : Nat, TKN (s.1 47) (s.2.2.1 46 1).toInt.toNat a (s.2.2.1 46 4).toInt.toNat (s.2.2.1 46 2).toInt.toNat (s.2.2.1 46 3).toInt (s.2.2.1 46 5).toInt → (∀ j, j < (y46_5).toInt.toNat → ∃ q f, TSQ (s.1 47) (s.2.2.1 46 1).toInt.toNat a (j + 1) q f (cmK (y46_3).toInt (j + 1)) (sc46.1 31 j).toInt) ∧ ∃ p k v, TSQ (s.1 47) (s.2.2.1 46 1).toInt.toNat a (y46_5).toInt.toNat p (w46_46_2).toInt.toNat k v) → (sc46.2.2.1 46 6 = s.2.2.1 46 6 ∧ sc46.2.2.1 46 7 = s.2.2.1 46 7) → 5 - (y46_5).toInt < (k46 : Int) → GG Z (d - 1) 136 post (gx xp) (1 + k46 * 900) 46 (fun j => xlook j [(0, .ref (A 1)), (1, .ref (A 46)), (2, .int y46_2), (3, .int y46_3), (4, .ref (zq Z y46_4)), (5, .int y46_5)]) [] (WW Z A sc46 ++ ex) (lc s) (lsl s) := by
    intro k46
    induction k46 with
    | zero => intro sc46 y46_2 y46_3 y46_4 y46_5 w46_46_2 w46_2_0 w46_2_1 w46_30_0 hIc46 hFc46 j46_2 j46_3 j46_4 j46_5 v46_46_2 v46_2_0 v46_2_1 v46_30_0 n46_0 n46_1 g46_0 g46_1 g46_2 g46_3 g46_4 g46_5 g46_6 g46_7 mm46; exact m_no mm46 j46_5 rfl
    | succ k46 ih46 =>
      intro sc46 y46_2 y46_3 y46_4 y46_5 w46_46_2 w46_2_0 w46_2_1 w46_30_0 hIc46 hFc46 j46_2 j46_3 j46_4 j46_5 v46_46_2 v46_2_0 v46_2_1 v46_30_0 n46_0 n46_1 g46_0 g46_1 g46_2 g46_3 g46_4 g46_5 g46_6 g46_7 mm46
      refine gg_w (M := 1 + k46 * 900 + 900) gws ?_
      refine g_iload 48 (gd rfl) rfl rfl ?_
      refine g_aload 50 (gd rfl) rfl rfl ?_
      have i50 : In y46_4 0 6 := in_w 0 6 j46_4 rfl
      refine g_callS (X := _) (As := []) (r := [.int y46_5]) (x := y46_4) 53 (gd rfl) rfl rfl rfl zm_427 rfl rfl rfl i50 (Nat.le_of_ble_eq_true rfl) (k_427 i50 (by omega)) (fun e u h => h) (fun v u h => ?_)
      obtain ⟨z50, rfl, rfl, p50⟩ := h
      have i50a : In z50 0 9 := by have a := zn_9 i50; exact ⟨by omega, by omega⟩
      show GG _ _ _ _ _ _ _ _ [.int z50, .int y46_5] _ _ _
      refine g_cmp_ge 56 125 (gd rfl) rfl rfl (fun c53 => ?_) (fun c53 => ?_)
      · skip
        have i53 := r_le1 0 5 c53 i50a j46_5 rfl
        refine g_aload_n 126 (gd rfl) rfl rfl ?_
        refine g_bipush 7 128 (gd rfl) rfl rfl ?_
        refine g_iconst 1 129 (gd rfl) rfl rfl ?_
        have v129 : u_46_1 = sc46.2.2.1 46 1 := fr_F e_46_1 hFc46 rfl
        have n129 : (w46_46_2).toInt ≤ (u_46_1).toInt := by first | exact n46_0 | (have a0 := oa9 ro_46_1 ((inv_F hIc46 448 28000 rfl v46_30_0)) ((inv_F hIc46 0 32 rfl v46_2_1)) ((inv_F hIc46 0 4000 rfl v46_2_0)) ((inv_F hIc46 0 1000 rfl v46_46_2)) j46_5 j46_4 j46_3 j46_2; have oc := oc_136_1_46; omega)
        refine g_callv (X := _) (As := [.int (Int32.ofInt 7), .int (Int32.ofInt 1)]) (r := []) (b := A 46) (q := 46) 132 (gd rfl) rfl rfl rfl rfl rfl (ww_o rfl) (Nat.le_of_ble_eq_true rfl) (Nat.zero_le _) (Nat.zero_le _) (f_171_46 (by first | exact dq1 hd rfl | exact dq0 hd rfl | exact dq2 hd rfl | exact dq3 hd rfl | omega) hIc46 (in_w 7 7 (in_c 7 rfl) rfl) (in_w 1 1 (in_c 1 rfl) rfl) v46_46_2 v129 n129) (fun e u h => h) (fun v u h => ?_)
        obtain ⟨s129, hI129, hF129, n129a, n129b, n129c, rfl, rfl, p129, p129a, p129b⟩ := h
        obtain ⟨z129a, e129⟩ : ∃ w, w = s129.2.2.1 46 2 := ⟨_, rfl⟩
        have i129a := inv_F hI129 0 1000 rfl e129
        obtain ⟨z129b, e129a⟩ : ∃ w, w = s129.2.2.1 46 4 := ⟨_, rfl⟩
        have i129b := inv_F hI129 0 1000 rfl e129a
        rw [← (show z129a = s129.2.2.1 46 2 from e129)] at n129a
        rw [← (show u_46_1 = s129.2.2.1 46 1 from fr_F (fr_F e_46_1 hFc46 rfl) hF129 rfl)] at n129a
        rw [← (show z129a = s129.2.2.1 46 2 from e129)] at n129b
        rw [← (show z129b = s129.2.2.1 46 4 from e129a)] at n129b
        rw [← (show w46_46_2 = sc46.2.2.1 46 2 from v46_46_2)] at n129c
        rw [← (show z129b = s129.2.2.1 46 4 from e129a)] at n129c
        show GG _ _ _ _ _ _ _ _ [] _ _ _
        refine g_aload_n 133 (gd rfl) rfl rfl ?_
        refine g_bipush 59 135 (gd rfl) rfl rfl ?_
        refine g_callv (X := _) (As := [.int (Int32.ofInt 59)]) (r := []) (b := A 46) (q := 46) 138 (gd rfl) rfl rfl rfl rfl rfl (ww_o rfl) (Nat.le_of_ble_eq_true rfl) (mc := 0) (ms := 0) (Nat.zero_le _) (Nat.zero_le _) (P := fun v u => _) ?_ (fun e u h => h) (fun v u h => h)
        intro po135 xx135 hp135 hx135
        refine g_enter2 (k := 170) (N := 300) (by first | exact dq1 hd rfl | exact dq0 hd rfl | exact dq2 hd rfl | exact dq3 hd rfl | omega) rfl (Nat.le_of_ble_eq_true rfl) ?_
        refine g_aload_n 1 (gd rfl) rfl rfl ?_
        refine g_getI 4 (gd rfl) rfl rfl rfl (fun z135x1 e135x1 => ?_)
        have i135x1 := inv_F hI129 0 5 rfl e135x1
        refine g_iconst 3 5 (gd rfl) rfl rfl ?_
        refine g_cmp_ne 8 20 (gd rfl) rfl rfl (fun c135x5 => ?_) (fun c135x5 => ?_)
        · skip
          refine g_iconst 0 21 (gd rfl) rfl rfl ?_
          refine g_ireturn (gd rfl) rfl (nb01 (in_w 0 1 (in_c 0 rfl) rfl)) (hp135 _ _ ?_)
          show GG _ _ _ _ _ _ _ _ [.int (Int32.ofInt 0)] _ _ _
          refine g_if_ne 141 148 (gd rfl) rfl rfl (fun c138 => ?_) (fun c138 => ?_)
          · skip
            exact zn_ne c138 (in_c 0 rfl) rfl
          · skip
            refine g_aload_n 142 (gd rfl) rfl rfl ?_
            refine g_iconst 2 143 (gd rfl) rfl rfl ?_
            refine g_iconst 3 144 (gd rfl) rfl rfl ?_
            refine g_callv (X := _) (As := [.int (Int32.ofInt 2), .int (Int32.ofInt 3)]) (r := []) (b := A 46) (q := 46) 147 (gd rfl) rfl rfl rfl rfl rfl (ww_o rfl) (Nat.le_of_ble_eq_true rfl) (Nat.zero_le _) (Nat.zero_le _) (f_169_46 (by first | exact dq1 hd rfl | exact dq0 hd rfl | exact dq2 hd rfl | exact dq3 hd rfl | omega) hI129 (in_w 2 2 (in_c 2 rfl) rfl) (in_w 3 3 (in_c 3 rfl) rfl) e135x1 e129a) (fun e u h => h) (fun v u h => ?_)
            obtain ⟨s144, hI144, hF144, z144, rfl, rfl, i144, p144⟩ := h
            show GG _ _ _ _ _ _ _ _ [.int z144] _ _ _
            have n147 : KL s144 := by have hL9 : Fr ([31], [], [(46, 2), (46, 3), (46, 4), (46, 5), (46, 6), (46, 7)], []) s s144 := (fr_tr rfl (fr_tr rfl g46_2 hF129) hF144); exact kl_fr q_0 hL9 rfl
            have n147a : (z144).toInt ≠ 0 → (s144.2.2.1 30 0).toInt = nln s := by first | (intro h; exact absurd rfl h) | (intro h; exfalso; revert h; first | (unfold In at i39; omega) | (unfold In at i104; omega) | (unfold In at i144; omega))
            have n147b : (z144).toInt ≠ 0 → (s.2.2.1 2 0).toInt ≤ 3999 := by first | (intro h; exact absurd rfl h) | (intro h; exfalso; revert h; first | (unfold In at i39; omega) | (unfold In at i104; omega) | (unfold In at i144; omega))
            have n147c : ∀ k : Nat, (k : Int) < 7 * (s.2.2.1 2 0).toInt → s144.1 30 k = s.1 30 k := by have hL9 : Fr ([31], [], [(46, 2), (46, 3), (46, 4), (46, 5), (46, 6), (46, 7)], []) s s144 := (fr_tr rfl (fr_tr rfl g46_2 hF129) hF144); exact fun k _ => by rw [hL9.1 30 rfl]
            have n147d : (z144).toInt ≠ 0 → ∀ a : Nat, TKN (s.1 47) (s.2.2.1 46 1).toInt.toNat a (s.2.2.1 46 4).toInt.toNat (s.2.2.1 46 2).toInt.toNat (s.2.2.1 46 3).toInt (s.2.2.1 46 5).toInt → ∃ c V, CMP (s.1 47) (s.2.2.1 46 1).toInt.toNat a (s.2.2.1 46 4).toInt.toNat c V (s144.2.2.1 46 2).toInt.toNat ∧ dkC (gvC s) c V ∧ gvC s144 = opC (gvC s) c V := by first | (intro h; exact absurd rfl h) | (intro h; exfalso; revert h; first | (unfold In at i39; omega) | (unfold In at i104; omega) | (unfold In at i144; omega))
            have n147e : (z144).toInt = 0 → ∀ a : Nat, TKN (s.1 47) (s.2.2.1 46 1).toInt.toNat a (s.2.2.1 46 4).toInt.toNat (s.2.2.1 46 2).toInt.toNat (s.2.2.1 46 3).toInt (s.2.2.1 46 5).toInt → CMX (s.1 47) (s.2.2.1 46 1).toInt.toNat a (s144.2.2.1 46 6).toInt (s144.2.2.1 46 7).toInt.toNat ∨ ∃ c V e, CMP (s.1 47) (s.2.2.1 46 1).toInt.toNat a (s144.2.2.1 46 7).toInt.toNat c V e ∧ ¬ dkC (gvC s) c V ∧ (s144.2.2.1 46 6).toInt = 4 := by intro _ a ha; obtain ⟨h1, p1, k1, v1, h2⟩ := g46_6 a ha; have hk9 := p129b; rw [show sc46.1 47 = s.1 47 from g46_2.1 47 rfl, show sc46.2.2.1 46 1 = s.2.2.1 46 1 from g46_2.2.2.1 46 1 rfl, ← v46_46_2] at hk9; have h5 : y46_5.toInt.toNat = cmA y46_3.toInt := (by have h9 := shq_n g46_3; have h8 := p50; rw [h9] at h8; have h7 := (shq_5 g46_3).1; have h6 := g46_5; have a0 := oa12 ro_46_1 ((inv_F hIc46 448 28000 rfl v46_30_0)) ((inv_F hIc46 0 32 rfl v46_2_1)) ((inv_F hIc46 0 4000 rfl v46_2_0)) ((inv_F hIc46 0 1000 rfl v46_46_2)) j46_5 j46_4 j46_3 j46_2 i135x1 i129b i129a; have oc := oc_136_1_46; omega); refine Or.inl (Or.inr ⟨_, _, _, shq_i g46_3, by have h9 := ha; rw [g46_4.1, g46_4.2.1] at h9; exact h9, cmA y46_3.toInt, Nat.le_refl _, fun j hj => by obtain ⟨q, f, h9⟩ := h1 j (by omega); exact ⟨q, f, _, h9⟩, (s129.2.2.1 46 2).toInt.toNat, (s129.2.2.1 46 3).toInt, (s129.2.2.1 46 5).toInt, ?_, ?_, p144.1⟩); (rw [p144.2, ← h5]; exact ⟨p1, w46_46_2.toInt.toNat, k1, v1, h2, hk9⟩); (intro h9; unfold cmK at h9; rw [if_pos rfl] at h9; have h8 := tkn_v3 hk9 h9; first | (rw [← e135x1] at h9; have a0 := oa12 ro_46_1 ((inv_F hIc46 448 28000 rfl v46_30_0)) ((inv_F hIc46 0 32 rfl v46_2_1)) ((inv_F hIc46 0 4000 rfl v46_2_0)) ((inv_F hIc46 0 1000 rfl v46_46_2)) j46_5 j46_4 j46_3 j46_2 i135x1 i129b i129a; have oc := oc_136_1_46; omega) | (rw [← e135x9] at h8; have a0 := oa12 ro_46_1 ((inv_F hIc46 448 28000 rfl v46_30_0)) ((inv_F hIc46 0 32 rfl v46_2_1)) ((inv_F hIc46 0 4000 rfl v46_2_0)) ((inv_F hIc46 0 1000 rfl v46_46_2)) j46_5 j46_4 j46_3 j46_2 i135x1 i129b i129a; have oc := oc_136_1_46; omega))
            have n147f : (z144).toInt ≠ 0 → TQ s144 := by first | (intro h; exact absurd rfl h) | (intro h; exfalso; revert h; first | (unfold In at i39; omega) | (unfold In at i104; omega) | (unfold In at i144; omega))
            have n147g : (z144).toInt ≠ 0 → s144.2.2.1 46 6 = s.2.2.1 46 6 ∧ s144.2.2.1 46 7 = s.2.2.1 46 7 := by first | (intro h; exact absurd rfl h) | (intro h; exfalso; revert h; first | (unfold In at i39; omega) | (unfold In at i104; omega) | (unfold In at i144; omega))
            have n147h : (z144).toInt = 0 → 0 ≤ (s144.2.2.1 46 7).toInt := by intro _; rw [p144.2, ← e129a]; have a0 := oa12 ro_46_1 ((inv_F hIc46 448 28000 rfl v46_30_0)) ((inv_F hIc46 0 32 rfl v46_2_1)) ((inv_F hIc46 0 4000 rfl v46_2_0)) ((inv_F hIc46 0 1000 rfl v46_46_2)) j46_5 j46_4 j46_3 j46_2 i135x1 i129b i129a; have oc := oc_136_1_46; omega
            have n147i : (z129a).toInt ≤ (u_46_1).toInt := by have a0 := oa12 ro_46_1 ((inv_F hIc46 448 28000 rfl v46_30_0)) ((inv_F hIc46 0 32 rfl v46_2_1)) ((inv_F hIc46 0 4000 rfl v46_2_0)) ((inv_F hIc46 0 1000 rfl v46_46_2)) j46_5 j46_4 j46_3 j46_2 i135x1 i129b i129a; have oc := oc_136_1_46; omega
            have n147j : (s144.2.2.1 46 2).toInt ≤ (s144.2.2.1 46 1).toInt := by have b0 : z129a = s144.2.2.1 46 2 := fr_F (e129) hF144 rfl; have b1 : u_46_1 = s144.2.2.1 46 1 := fr_F (fr_F (fr_F e_46_1 hFc46 rfl) hF129 rfl) hF144 rfl; rw [← b0, ← b1]; exact n147i
            have n147k : (u_2_0).toInt ≤ (w46_2_0).toInt := by first | exact n46_1 | (have a0 := oa12 ro_46_1 ((inv_F hIc46 448 28000 rfl v46_30_0)) ((inv_F hIc46 0 32 rfl v46_2_1)) ((inv_F hIc46 0 4000 rfl v46_2_0)) ((inv_F hIc46 0 1000 rfl v46_46_2)) j46_5 j46_4 j46_3 j46_2 i135x1 i129b i129a; have oc := oc_136_1_46; omega)
            have n147l : (s.2.2.1 2 0).toInt ≤ (s144.2.2.1 2 0).toInt := by have b0 : w46_2_0 = s144.2.2.1 2 0 := fr_F (fr_F (v46_2_0) hF129 rfl) hF144 rfl; first | (rw [← b0, ← e_2_0]; exact n147k) | (rw [← b0]; exact n147k)
            exact g_ireturn (gd rfl) rfl (nb01 (in_w 0 1 i144 rfl)) (hP _ _ ⟨(A 30), s144, hI144, (fr_tr rfl (fr_tr rfl hFc46 hF129) hF144), n147j, n147l, z144, rfl, (by rw [ax_id]), in_w 0 1 i144 rfl, n147, n147a, n147b, n147c, n147d, n147e, n147f, n147g, n147h⟩)
        · skip
          have i135x5 := r_eq1 3 3 c135x5 i135x1 (in_c 3 rfl) rfl
          refine g_aload_n 9 (gd rfl) rfl rfl ?_
          refine g_getI 12 (gd rfl) rfl rfl rfl (fun z135x9 e135x9 => ?_)
          refine g_iload_n 13 (gd rfl) rfl rfl ?_
          refine g_cmp_ne 16 20 (gd rfl) rfl rfl (fun c135x13 => ?_) (fun c135x13 => ?_)
          · skip
            refine g_iconst 0 21 (gd rfl) rfl rfl ?_
            refine g_ireturn (gd rfl) rfl (nb01 (in_w 0 1 (in_c 0 rfl) rfl)) (hp135 _ _ ?_)
            show GG _ _ _ _ _ _ _ _ [.int (Int32.ofInt 0)] _ _ _
            refine g_if_ne 141 148 (gd rfl) rfl rfl (fun c138 => ?_) (fun c138 => ?_)
            · skip
              exact zn_ne c138 (in_c 0 rfl) rfl
            · skip
              refine g_aload_n 142 (gd rfl) rfl rfl ?_
              refine g_iconst 2 143 (gd rfl) rfl rfl ?_
              refine g_iconst 3 144 (gd rfl) rfl rfl ?_
              refine g_callv (X := _) (As := [.int (Int32.ofInt 2), .int (Int32.ofInt 3)]) (r := []) (b := A 46) (q := 46) 147 (gd rfl) rfl rfl rfl rfl rfl (ww_o rfl) (Nat.le_of_ble_eq_true rfl) (Nat.zero_le _) (Nat.zero_le _) (f_169_46 (by first | exact dq1 hd rfl | exact dq0 hd rfl | exact dq2 hd rfl | exact dq3 hd rfl | omega) hI129 (in_w 2 2 (in_c 2 rfl) rfl) (in_w 3 3 (in_c 3 rfl) rfl) e135x1 e129a) (fun e u h => h) (fun v u h => ?_)
              obtain ⟨s144, hI144, hF144, z144, rfl, rfl, i144, p144⟩ := h
              show GG _ _ _ _ _ _ _ _ [.int z144] _ _ _
              have n147 : KL s144 := by have hL9 : Fr ([31], [], [(46, 2), (46, 3), (46, 4), (46, 5), (46, 6), (46, 7)], []) s s144 := (fr_tr rfl (fr_tr rfl g46_2 hF129) hF144); exact kl_fr q_0 hL9 rfl
              have n147a : (z144).toInt ≠ 0 → (s144.2.2.1 30 0).toInt = nln s := by first | (intro h; exact absurd rfl h) | (intro h; exfalso; revert h; first | (unfold In at i39; omega) | (unfold In at i104; omega) | (unfold In at i144; omega))
              have n147b : (z144).toInt ≠ 0 → (s.2.2.1 2 0).toInt ≤ 3999 := by first | (intro h; exact absurd rfl h) | (intro h; exfalso; revert h; first | (unfold In at i39; omega) | (unfold In at i104; omega) | (unfold In at i144; omega))
              have n147c : ∀ k : Nat, (k : Int) < 7 * (s.2.2.1 2 0).toInt → s144.1 30 k = s.1 30 k := by have hL9 : Fr ([31], [], [(46, 2), (46, 3), (46, 4), (46, 5), (46, 6), (46, 7)], []) s s144 := (fr_tr rfl (fr_tr rfl g46_2 hF129) hF144); exact fun k _ => by rw [hL9.1 30 rfl]
              have n147d : (z144).toInt ≠ 0 → ∀ a : Nat, TKN (s.1 47) (s.2.2.1 46 1).toInt.toNat a (s.2.2.1 46 4).toInt.toNat (s.2.2.1 46 2).toInt.toNat (s.2.2.1 46 3).toInt (s.2.2.1 46 5).toInt → ∃ c V, CMP (s.1 47) (s.2.2.1 46 1).toInt.toNat a (s.2.2.1 46 4).toInt.toNat c V (s144.2.2.1 46 2).toInt.toNat ∧ dkC (gvC s) c V ∧ gvC s144 = opC (gvC s) c V := by first | (intro h; exact absurd rfl h) | (intro h; exfalso; revert h; first | (unfold In at i39; omega) | (unfold In at i104; omega) | (unfold In at i144; omega))
              have n147e : (z144).toInt = 0 → ∀ a : Nat, TKN (s.1 47) (s.2.2.1 46 1).toInt.toNat a (s.2.2.1 46 4).toInt.toNat (s.2.2.1 46 2).toInt.toNat (s.2.2.1 46 3).toInt (s.2.2.1 46 5).toInt → CMX (s.1 47) (s.2.2.1 46 1).toInt.toNat a (s144.2.2.1 46 6).toInt (s144.2.2.1 46 7).toInt.toNat ∨ ∃ c V e, CMP (s.1 47) (s.2.2.1 46 1).toInt.toNat a (s144.2.2.1 46 7).toInt.toNat c V e ∧ ¬ dkC (gvC s) c V ∧ (s144.2.2.1 46 6).toInt = 4 := by intro _ a ha; obtain ⟨h1, p1, k1, v1, h2⟩ := g46_6 a ha; have hk9 := p129b; rw [show sc46.1 47 = s.1 47 from g46_2.1 47 rfl, show sc46.2.2.1 46 1 = s.2.2.1 46 1 from g46_2.2.2.1 46 1 rfl, ← v46_46_2] at hk9; have h5 : y46_5.toInt.toNat = cmA y46_3.toInt := (by have h9 := shq_n g46_3; have h8 := p50; rw [h9] at h8; have h7 := (shq_5 g46_3).1; have h6 := g46_5; have a0 := oa12 ro_46_1 ((inv_F hIc46 448 28000 rfl v46_30_0)) ((inv_F hIc46 0 32 rfl v46_2_1)) ((inv_F hIc46 0 4000 rfl v46_2_0)) ((inv_F hIc46 0 1000 rfl v46_46_2)) j46_5 j46_4 j46_3 j46_2 i135x5 i129b i129a; have oc := oc_136_1_46; omega); refine Or.inl (Or.inr ⟨_, _, _, shq_i g46_3, by have h9 := ha; rw [g46_4.1, g46_4.2.1] at h9; exact h9, cmA y46_3.toInt, Nat.le_refl _, fun j hj => by obtain ⟨q, f, h9⟩ := h1 j (by omega); exact ⟨q, f, _, h9⟩, (s129.2.2.1 46 2).toInt.toNat, (s129.2.2.1 46 3).toInt, (s129.2.2.1 46 5).toInt, ?_, ?_, p144.1⟩); (rw [p144.2, ← h5]; exact ⟨p1, w46_46_2.toInt.toNat, k1, v1, h2, hk9⟩); (intro h9; unfold cmK at h9; rw [if_pos rfl] at h9; have h8 := tkn_v3 hk9 h9; first | (rw [← e135x1] at h9; have a0 := oa12 ro_46_1 ((inv_F hIc46 448 28000 rfl v46_30_0)) ((inv_F hIc46 0 32 rfl v46_2_1)) ((inv_F hIc46 0 4000 rfl v46_2_0)) ((inv_F hIc46 0 1000 rfl v46_46_2)) j46_5 j46_4 j46_3 j46_2 i135x5 i129b i129a; have oc := oc_136_1_46; omega) | (rw [← e135x9] at h8; have a0 := oa12 ro_46_1 ((inv_F hIc46 448 28000 rfl v46_30_0)) ((inv_F hIc46 0 32 rfl v46_2_1)) ((inv_F hIc46 0 4000 rfl v46_2_0)) ((inv_F hIc46 0 1000 rfl v46_46_2)) j46_5 j46_4 j46_3 j46_2 i135x5 i129b i129a; have oc := oc_136_1_46; omega))
              have n147f : (z144).toInt ≠ 0 → TQ s144 := by first | (intro h; exact absurd rfl h) | (intro h; exfalso; revert h; first | (unfold In at i39; omega) | (unfold In at i104; omega) | (unfold In at i144; omega))
              have n147g : (z144).toInt ≠ 0 → s144.2.2.1 46 6 = s.2.2.1 46 6 ∧ s144.2.2.1 46 7 = s.2.2.1 46 7 := by first | (intro h; exact absurd rfl h) | (intro h; exfalso; revert h; first | (unfold In at i39; omega) | (unfold In at i104; omega) | (unfold In at i144; omega))
              have n147h : (z144).toInt = 0 → 0 ≤ (s144.2.2.1 46 7).toInt := by intro _; rw [p144.2, ← e129a]; have a0 := oa12 ro_46_1 ((inv_F hIc46 448 28000 rfl v46_30_0)) ((inv_F hIc46 0 32 rfl v46_2_1)) ((inv_F hIc46 0 4000 rfl v46_2_0)) ((inv_F hIc46 0 1000 rfl v46_46_2)) j46_5 j46_4 j46_3 j46_2 i135x5 i129b i129a; have oc := oc_136_1_46; omega
              have n147i : (z129a).toInt ≤ (u_46_1).toInt := by have a0 := oa12 ro_46_1 ((inv_F hIc46 448 28000 rfl v46_30_0)) ((inv_F hIc46 0 32 rfl v46_2_1)) ((inv_F hIc46 0 4000 rfl v46_2_0)) ((inv_F hIc46 0 1000 rfl v46_46_2)) j46_5 j46_4 j46_3 j46_2 i135x5 i129b i129a; have oc := oc_136_1_46; omega
              have n147j : (s144.2.2.1 46 2).toInt ≤ (s144.2.2.1 46 1).toInt := by have b0 : z129a = s144.2.2.1 46 2 := fr_F (e129) hF144 rfl; have b1 : u_46_1 = s144.2.2.1 46 1 := fr_F (fr_F (fr_F e_46_1 hFc46 rfl) hF129 rfl) hF144 rfl; rw [← b0, ← b1]; exact n147i
              have n147k : (u_2_0).toInt ≤ (w46_2_0).toInt := by first | exact n46_1 | (have a0 := oa12 ro_46_1 ((inv_F hIc46 448 28000 rfl v46_30_0)) ((inv_F hIc46 0 32 rfl v46_2_1)) ((inv_F hIc46 0 4000 rfl v46_2_0)) ((inv_F hIc46 0 1000 rfl v46_46_2)) j46_5 j46_4 j46_3 j46_2 i135x5 i129b i129a; have oc := oc_136_1_46; omega)
              have n147l : (s.2.2.1 2 0).toInt ≤ (s144.2.2.1 2 0).toInt := by have b0 : w46_2_0 = s144.2.2.1 2 0 := fr_F (fr_F (v46_2_0) hF129 rfl) hF144 rfl; first | (rw [← b0, ← e_2_0]; exact n147k) | (rw [← b0]; exact n147k)
              exact g_ireturn (gd rfl) rfl (nb01 (in_w 0 1 i144 rfl)) (hP _ _ ⟨(A 30), s144, hI144, (fr_tr rfl (fr_tr rfl hFc46 hF129) hF144), n147j, n147l, z144, rfl, (by rw [ax_id]), in_w 0 1 i144 rfl, n147, n147a, n147b, n147c, n147d, n147e, n147f, n147g, n147h⟩)
          · skip
            have i135x13 := r_eq1 59 59 c135x13 (i_rng z135x9) (in_c 59 rfl) rfl
            refine g_iconst 1 17 (gd rfl) rfl rfl ?_
            refine g_goto 21 (gd rfl) rfl ?_
            refine g_ireturn (gd rfl) rfl (nb01 (in_w 0 1 (in_c 1 rfl) rfl)) (hp135 _ _ ?_)
            show GG _ _ _ _ _ _ _ _ [.int (Int32.ofInt 1)] _ _ _
            refine g_if_ne 141 148 (gd rfl) rfl rfl (fun c138 => ?_) (fun c138 => ?_)
            · skip
              refine g_aload_n 149 (gd rfl) rfl rfl ?_
              refine g_iload_n 150 (gd rfl) rfl rfl ?_
              have hL : Fr ([31], [], [(46, 2), (46, 3), (46, 4), (46, 5), (46, 6), (46, 7)], []) s s129 := (fr_tr rfl g46_2 hF129)
              have v150 : w46_2_0 = s129.2.2.1 2 0 := fr_F (v46_2_0) hF129 rfl
              have v150a : w46_2_1 = s129.2.2.1 2 1 := fr_F (v46_2_1) hF129 rfl
              have v150b : w46_30_0 = s129.2.2.1 30 0 := fr_F (v46_30_0) hF129 rfl
              have p150 : KL s129 := by exact kl_fr q_0 hL rfl
              have p150a : (y46_3).toInt = 13 → In (s129.1 31 0) 0 25 := by intro h13; rw [hF129.1 31 rfl]; exact g46_1 (g46_0 h13) (by have hz1 := zn_1 (g46_0 h13); have h9 := p50; have a0 := oa13 ro_46_1 ((inv_F hIc46 448 28000 rfl v46_30_0)) ((inv_F hIc46 0 32 rfl v46_2_1)) ((inv_F hIc46 0 4000 rfl v46_2_0)) ((inv_F hIc46 0 1000 rfl v46_46_2)) j46_5 j46_4 j46_3 j46_2 i135x13 i135x5 i129b i129a; have oc := oc_136_1_46; omega)
              have p150b : cmI (y46_3).toInt := by exact shq_i g46_3
              have p150c : TQ s129 := by exact tq_fr q_3 hL rfl
              have p150d : (y46_3).toInt = 0 → In (s129.1 31 4) 0 25 := by intro h0; obtain ⟨a, ha⟩ := q_2; obtain ⟨q, f, h5⟩ := (g46_6 a ha).1 4 (by have h9 := shq_n g46_3; have h8 := p50; rw [h9, h0] at h8; have h7 : (cmA 0 : Int) = 5 := rfl; have a0 := oa13 ro_46_1 ((inv_F hIc46 448 28000 rfl v46_30_0)) ((inv_F hIc46 0 32 rfl v46_2_1)) ((inv_F hIc46 0 4000 rfl v46_2_0)) ((inv_F hIc46 0 1000 rfl v46_46_2)) j46_5 j46_4 j46_3 j46_2 i135x13 i135x5 i129b i129a; have oc := oc_136_1_46; omega); rw [hF129.1 31 rfl]; rw [h0] at h5; obtain ⟨p8, e8, k8, v8, -, h6⟩ := h5; exact tkn_v1 h6 rfl
              refine g_callv (X := _) (As := [.int y46_3]) (r := []) (b := A 1) (q := 1) 153 (gd rfl) rfl rfl rfl rfl rfl (ww_o rfl) (Nat.le_of_ble_eq_true rfl) (Nat.le_of_eq (lc_cg ((show Fr ([31], [], [(46, 2), (46, 3), (46, 4), (46, 5), (46, 6), (46, 7)], []) s s129 from (fr_tr rfl g46_2 hF129)).2.2.1 30 0 rfl) ((show Fr ([31], [], [(46, 2), (46, 3), (46, 4), (46, 5), (46, 6), (46, 7)], []) s s129 from (fr_tr rfl g46_2 hF129)).2.2.1 2 0 rfl)).1) (Nat.le_of_eq (lc_cg ((show Fr ([31], [], [(46, 2), (46, 3), (46, 4), (46, 5), (46, 6), (46, 7)], []) s s129 from (fr_tr rfl g46_2 hF129)).2.2.1 30 0 rfl) ((show Fr ([31], [], [(46, 2), (46, 3), (46, 4), (46, 5), (46, 6), (46, 7)], []) s s129 from (fr_tr rfl g46_2 hF129)).2.2.1 2 0 rfl)).2.1) (f_138_1 (by first | exact dq1 hd rfl | exact dq0 hd rfl | exact dq2 hd rfl | exact dq3 hd rfl | omega) hI129 (in_w (-1) 25 j46_3 rfl) v150 v150a v150b rfl p150 p150a p150b p150c p150d) (fun e u h => h) (fun v u h => ?_)
              obtain ⟨a150, s150, hI150, hF150, n150, z150, rfl, rfl, i150, p150e, p150f, p150g, p150h, p150i, p150j⟩ := h
              obtain ⟨z150a, e150⟩ : ∃ w, w = s150.2.2.1 2 0 := ⟨_, rfl⟩
              have i150a := inv_F hI150 0 4000 rfl e150
              rw [← (show w46_2_0 = s129.2.2.1 2 0 from fr_F (v46_2_0) hF129 rfl)] at n150
              rw [← (show z150a = s150.2.2.1 2 0 from e150)] at n150
              show GG _ _ _ _ _ _ _ _ [.int z150] _ _ _
              refine g_if_ne 156 165 (gd rfl) rfl rfl (fun c153 => ?_) (fun c153 => ?_)
              · skip
                have i153 := z_ne 1 1 c153 i150 rfl
                refine g_iconst 1 166 (gd rfl) rfl rfl ?_
                refine g_goto 170 (gd rfl) rfl ?_
                have n170 : KL s150 := by exact p150e
                have n170a : ((Int32.ofInt 1)).toInt ≠ 0 → (s150.2.2.1 30 0).toInt = nln s := by first | (intro h; exact absurd rfl h) | (intro _; rw [← (lc_cg (s := s) (hL.2.2.1 30 0 rfl) (hL.2.2.1 2 0 rfl)).2.2]; exact p150f c153)
                have n170b : ((Int32.ofInt 1)).toInt ≠ 0 → (s.2.2.1 2 0).toInt ≤ 3999 := by first | (intro h; exact absurd rfl h) | (intro _; rw [← hL.2.2.1 2 0 rfl]; exact p150g c153)
                have n170c : ∀ k : Nat, (k : Int) < 7 * (s.2.2.1 2 0).toInt → s150.1 30 k = s.1 30 k := by exact fun k hk => by rw [p150h k (by rw [hL.2.2.1 2 0 rfl]; exact hk), hL.1 30 rfl]
                have n170d : ((Int32.ofInt 1)).toInt ≠ 0 → ∀ a : Nat, TKN (s.1 47) (s.2.2.1 46 1).toInt.toNat a (s.2.2.1 46 4).toInt.toNat (s.2.2.1 46 2).toInt.toNat (s.2.2.1 46 3).toInt (s.2.2.1 46 5).toInt → ∃ c V, CMP (s.1 47) (s.2.2.1 46 1).toInt.toNat a (s.2.2.1 46 4).toInt.toNat c V (s150.2.2.1 46 2).toInt.toNat ∧ dkC (gvC s) c V ∧ gvC s150 = opC (gvC s) c V := by first | (intro h; exact absurd rfl h) | (intro _ a ha; obtain ⟨h1, p1, k1, v1, h2⟩ := g46_6 a ha; have hk9 := p129b; rw [show sc46.1 47 = s.1 47 from g46_2.1 47 rfl, show sc46.2.2.1 46 1 = s.2.2.1 46 1 from g46_2.2.2.1 46 1 rfl, ← v46_46_2] at hk9; have h5 : y46_5.toInt.toNat = cmA y46_3.toInt := (by have h9 := shq_n g46_3; have h8 := p50; rw [h9] at h8; have h7 := (shq_5 g46_3).1; have h6 := g46_5; have a0 := oa14 ro_46_1 ((inv_F hIc46 448 28000 rfl v46_30_0)) ((inv_F hIc46 0 32 rfl v46_2_1)) ((inv_F hIc46 0 4000 rfl v46_2_0)) ((inv_F hIc46 0 1000 rfl v46_46_2)) j46_5 j46_4 j46_3 j46_2 i150a i135x13 i135x5 i129b i129a; have oc := oc_136_1_46; omega); have hcm : CMP (s.1 47) (s.2.2.1 46 1).toInt.toNat a (s.2.2.1 46 4).toInt.toNat y46_3.toInt (V31 s129) (s129.2.2.1 46 2).toInt.toNat := ⟨shq_i g46_3, ⟨_, by have h9 := ha; rw [g46_4.1, g46_4.2.1] at h9; exact h9⟩, fun i hi => by show ∃ q f, TSQ _ _ _ _ q f _ (s129.1 31 i).toInt; rw [hF129.1 31 rfl]; exact h1 i (by omega), (s129.2.2.1 46 4).toInt.toNat, (s129.2.2.1 46 5).toInt, by rw [← h5]; exact ⟨p1, w46_46_2.toInt.toNat, k1, v1, h2, by have h9 := hk9; rw [show (s129.2.2.1 46 3).toInt = 3 from (by rw [← e135x1]; have a0 := oa14 ro_46_1 ((inv_F hIc46 448 28000 rfl v46_30_0)) ((inv_F hIc46 0 32 rfl v46_2_1)) ((inv_F hIc46 0 4000 rfl v46_2_0)) ((inv_F hIc46 0 1000 rfl v46_46_2)) j46_5 j46_4 j46_3 j46_2 i150a i135x13 i135x5 i129b i129a; have oc := oc_136_1_46; omega)] at h9; exact h9⟩⟩; have h3 := p150i c153; rw [gvC_cg hL rfl] at h3; exact ⟨_, _, by rw [hF150.2.2.1 46 2 rfl]; exact hcm, h3.1, h3.2.1⟩)
                have n170e : ((Int32.ofInt 1)).toInt = 0 → ∀ a : Nat, TKN (s.1 47) (s.2.2.1 46 1).toInt.toNat a (s.2.2.1 46 4).toInt.toNat (s.2.2.1 46 2).toInt.toNat (s.2.2.1 46 3).toInt (s.2.2.1 46 5).toInt → CMX (s.1 47) (s.2.2.1 46 1).toInt.toNat a (s150.2.2.1 46 6).toInt (s150.2.2.1 46 7).toInt.toNat ∨ ∃ c V e, CMP (s.1 47) (s.2.2.1 46 1).toInt.toNat a (s150.2.2.1 46 7).toInt.toNat c V e ∧ ¬ dkC (gvC s) c V ∧ (s150.2.2.1 46 6).toInt = 4 := by intro h; exact absurd h (by decide)
                have n170f : ((Int32.ofInt 1)).toInt ≠ 0 → TQ s150 := by first | (intro h; exact absurd rfl h) | (intro _; exact (p150i c153).2.2)
                have n170g : ((Int32.ofInt 1)).toInt ≠ 0 → s150.2.2.1 46 6 = s.2.2.1 46 6 ∧ s150.2.2.1 46 7 = s.2.2.1 46 7 := by first | (intro h; exact absurd rfl h) | (intro _; exact ⟨(hF150.2.2.1 46 6 rfl).trans ((hF129.2.2.1 46 6 rfl).trans g46_7.1), (hF150.2.2.1 46 7 rfl).trans ((hF129.2.2.1 46 7 rfl).trans g46_7.2)⟩)
                have n170h : ((Int32.ofInt 1)).toInt = 0 → 0 ≤ (s150.2.2.1 46 7).toInt := by intro h; exact absurd h (by decide)
                have n170i : (z129a).toInt ≤ (u_46_1).toInt := by have a0 := oa14 ro_46_1 ((inv_F hIc46 448 28000 rfl v46_30_0)) ((inv_F hIc46 0 32 rfl v46_2_1)) ((inv_F hIc46 0 4000 rfl v46_2_0)) ((inv_F hIc46 0 1000 rfl v46_46_2)) j46_5 j46_4 j46_3 j46_2 i150a i135x13 i135x5 i129b i129a; have oc := oc_136_1_46; omega
                have n170j : (s150.2.2.1 46 2).toInt ≤ (s150.2.2.1 46 1).toInt := by have b0 : z129a = s150.2.2.1 46 2 := fr_F (e129) hF150 rfl; have b1 : u_46_1 = s150.2.2.1 46 1 := fr_F (fr_F (fr_F e_46_1 hFc46 rfl) hF129 rfl) hF150 rfl; rw [← b0, ← b1]; exact n170i
                have n170k : (u_2_0).toInt ≤ (z150a).toInt := by have a0 := oa14 ro_46_1 ((inv_F hIc46 448 28000 rfl v46_30_0)) ((inv_F hIc46 0 32 rfl v46_2_1)) ((inv_F hIc46 0 4000 rfl v46_2_0)) ((inv_F hIc46 0 1000 rfl v46_46_2)) j46_5 j46_4 j46_3 j46_2 i150a i135x13 i135x5 i129b i129a; have oc := oc_136_1_46; omega
                have n170l : (s.2.2.1 2 0).toInt ≤ (s150.2.2.1 2 0).toInt := by have b0 : z150a = s150.2.2.1 2 0 := e150; first | (rw [← b0, ← e_2_0]; exact n170k) | (rw [← b0]; exact n170k)
                exact g_ireturn (gd rfl) rfl (nb01 (in_w 0 1 (in_c 1 rfl) rfl)) (hP _ _ ⟨a150, s150, hI150, (fr_tr rfl (fr_tr rfl hFc46 hF129) hF150), n170j, n170l, (Int32.ofInt 1), rfl, rfl, in_w 0 1 (in_c 1 rfl) rfl, n170, n170a, n170b, n170c, n170d, n170e, n170f, n170g, n170h⟩)
              · skip
                have i153 := z_eq 0 0 c153 i150 rfl
                refine g_aload_n 157 (gd rfl) rfl rfl ?_
                refine g_iconst 4 158 (gd rfl) rfl rfl ?_
                refine g_iload_n 159 (gd rfl) rfl rfl ?_
                refine g_callv (X := _) (As := [.int (Int32.ofInt 4), .int y46_2]) (r := []) (b := A 46) (q := 46) 162 (gd rfl) rfl rfl rfl rfl rfl (ww_o rfl) (Nat.le_of_ble_eq_true rfl) (Nat.zero_le _) (Nat.zero_le _) (f_168_46 (A := (ax A 30 a150)) (by omega) hI150 (in_w 1 5 (in_c 4 rfl) rfl) (in_w 0 1000 j46_2 rfl)) (fun e u h => h) (fun v u h => ?_)
                obtain ⟨s159, hI159, hF159, z159, rfl, rfl, i159, p159⟩ := h
                show GG _ _ _ _ _ _ _ _ [.int z159] _ _ _
                refine g_if_eq 165 169 (gd rfl) rfl rfl (fun c162 => ?_) (fun c162 => ?_)
                · skip
                  refine g_iconst 0 170 (gd rfl) rfl rfl ?_
                  have n170 : KL s159 := by exact kl_fr p150e hF159 rfl
                  have n170a : ((Int32.ofInt 0)).toInt ≠ 0 → (s159.2.2.1 30 0).toInt = nln s := by intro h; exact absurd rfl h
                  have n170b : ((Int32.ofInt 0)).toInt ≠ 0 → (s.2.2.1 2 0).toInt ≤ 3999 := by intro h; exact absurd rfl h
                  have n170c : ∀ k : Nat, (k : Int) < 7 * (s.2.2.1 2 0).toInt → s159.1 30 k = s.1 30 k := by exact fun k hk => by rw [hF159.1 30 rfl, p150h k (by rw [hL.2.2.1 2 0 rfl]; exact hk), hL.1 30 rfl]
                  have n170d : ((Int32.ofInt 0)).toInt ≠ 0 → ∀ a : Nat, TKN (s.1 47) (s.2.2.1 46 1).toInt.toNat a (s.2.2.1 46 4).toInt.toNat (s.2.2.1 46 2).toInt.toNat (s.2.2.1 46 3).toInt (s.2.2.1 46 5).toInt → ∃ c V, CMP (s.1 47) (s.2.2.1 46 1).toInt.toNat a (s.2.2.1 46 4).toInt.toNat c V (s159.2.2.1 46 2).toInt.toNat ∧ dkC (gvC s) c V ∧ gvC s159 = opC (gvC s) c V := by exact fun h => absurd rfl h
                  have n170e : ((Int32.ofInt 0)).toInt = 0 → ∀ a : Nat, TKN (s.1 47) (s.2.2.1 46 1).toInt.toNat a (s.2.2.1 46 4).toInt.toNat (s.2.2.1 46 2).toInt.toNat (s.2.2.1 46 3).toInt (s.2.2.1 46 5).toInt → CMX (s.1 47) (s.2.2.1 46 1).toInt.toNat a (s159.2.2.1 46 6).toInt (s159.2.2.1 46 7).toInt.toNat ∨ ∃ c V e, CMP (s.1 47) (s.2.2.1 46 1).toInt.toNat a (s159.2.2.1 46 7).toInt.toNat c V e ∧ ¬ dkC (gvC s) c V ∧ (s159.2.2.1 46 6).toInt = 4 := by first | (intro h; exact absurd h (by decide)) | (intro _ a ha; obtain ⟨h1, p1, k1, v1, h2⟩ := g46_6 a ha; have hk9 := p129b; rw [show sc46.1 47 = s.1 47 from g46_2.1 47 rfl, show sc46.2.2.1 46 1 = s.2.2.1 46 1 from g46_2.2.2.1 46 1 rfl, ← v46_46_2] at hk9; have h5 : y46_5.toInt.toNat = cmA y46_3.toInt := (by have h9 := shq_n g46_3; have h8 := p50; rw [h9] at h8; have h7 := (shq_5 g46_3).1; have h6 := g46_5; have a0 := oa14 ro_46_1 ((inv_F hIc46 448 28000 rfl v46_30_0)) ((inv_F hIc46 0 32 rfl v46_2_1)) ((inv_F hIc46 0 4000 rfl v46_2_0)) ((inv_F hIc46 0 1000 rfl v46_46_2)) j46_5 j46_4 j46_3 j46_2 i150a i135x13 i135x5 i129b i129a; have oc := oc_136_1_46; omega); have hcm : CMP (s.1 47) (s.2.2.1 46 1).toInt.toNat a (s.2.2.1 46 4).toInt.toNat y46_3.toInt (V31 s129) (s129.2.2.1 46 2).toInt.toNat := ⟨shq_i g46_3, ⟨_, by have h9 := ha; rw [g46_4.1, g46_4.2.1] at h9; exact h9⟩, fun i hi => by show ∃ q f, TSQ _ _ _ _ q f _ (s129.1 31 i).toInt; rw [hF129.1 31 rfl]; exact h1 i (by omega), (s129.2.2.1 46 4).toInt.toNat, (s129.2.2.1 46 5).toInt, by rw [← h5]; exact ⟨p1, w46_46_2.toInt.toNat, k1, v1, h2, by have h9 := hk9; rw [show (s129.2.2.1 46 3).toInt = 3 from (by rw [← e135x1]; have a0 := oa14 ro_46_1 ((inv_F hIc46 448 28000 rfl v46_30_0)) ((inv_F hIc46 0 32 rfl v46_2_1)) ((inv_F hIc46 0 4000 rfl v46_2_0)) ((inv_F hIc46 0 1000 rfl v46_46_2)) j46_5 j46_4 j46_3 j46_2 i150a i135x13 i135x5 i129b i129a; have oc := oc_136_1_46; omega)] at h9; exact h9⟩⟩; have h3 := p150j (by have a0 := oa14 ro_46_1 ((inv_F hIc46 448 28000 rfl v46_30_0)) ((inv_F hIc46 0 32 rfl v46_2_1)) ((inv_F hIc46 0 4000 rfl v46_2_0)) ((inv_F hIc46 0 1000 rfl v46_46_2)) j46_5 j46_4 j46_3 j46_2 i150a i135x13 i135x5 i129b i129a; have oc := oc_136_1_46; omega); rw [gvC_cg hL rfl] at h3; refine Or.inr ⟨y46_3.toInt, V31 s129, (s129.2.2.1 46 2).toInt.toNat, ?_, h3, by rw [p159.1]; rfl⟩; rw [p159.2, g46_4.2.2]; exact hcm)
                  have n170f : ((Int32.ofInt 0)).toInt ≠ 0 → TQ s159 := by first | (intro h; exact absurd rfl h) | (intro _; exact (p150i c153).2.2)
                  have n170g : ((Int32.ofInt 0)).toInt ≠ 0 → s159.2.2.1 46 6 = s.2.2.1 46 6 ∧ s159.2.2.1 46 7 = s.2.2.1 46 7 := by exact fun h => absurd rfl h
                  have n170h : ((Int32.ofInt 0)).toInt = 0 → 0 ≤ (s159.2.2.1 46 7).toInt := by first | (intro h; exact absurd h (by decide)) | (intro _; rw [p159.2]; have a0 := oa14 ro_46_1 ((inv_F hIc46 448 28000 rfl v46_30_0)) ((inv_F hIc46 0 32 rfl v46_2_1)) ((inv_F hIc46 0 4000 rfl v46_2_0)) ((inv_F hIc46 0 1000 rfl v46_46_2)) j46_5 j46_4 j46_3 j46_2 i150a i135x13 i135x5 i129b i129a; have oc := oc_136_1_46; omega)
                  have n170i : (z129a).toInt ≤ (u_46_1).toInt := by have a0 := oa14 ro_46_1 ((inv_F hIc46 448 28000 rfl v46_30_0)) ((inv_F hIc46 0 32 rfl v46_2_1)) ((inv_F hIc46 0 4000 rfl v46_2_0)) ((inv_F hIc46 0 1000 rfl v46_46_2)) j46_5 j46_4 j46_3 j46_2 i150a i135x13 i135x5 i129b i129a; have oc := oc_136_1_46; omega
                  have n170j : (s159.2.2.1 46 2).toInt ≤ (s159.2.2.1 46 1).toInt := by have b0 : z129a = s159.2.2.1 46 2 := fr_F (fr_F (e129) hF150 rfl) hF159 rfl; have b1 : u_46_1 = s159.2.2.1 46 1 := fr_F (fr_F (fr_F (fr_F e_46_1 hFc46 rfl) hF129 rfl) hF150 rfl) hF159 rfl; rw [← b0, ← b1]; exact n170i
                  have n170k : (u_2_0).toInt ≤ (z150a).toInt := by have a0 := oa14 ro_46_1 ((inv_F hIc46 448 28000 rfl v46_30_0)) ((inv_F hIc46 0 32 rfl v46_2_1)) ((inv_F hIc46 0 4000 rfl v46_2_0)) ((inv_F hIc46 0 1000 rfl v46_46_2)) j46_5 j46_4 j46_3 j46_2 i150a i135x13 i135x5 i129b i129a; have oc := oc_136_1_46; omega
                  have n170l : (s.2.2.1 2 0).toInt ≤ (s159.2.2.1 2 0).toInt := by have b0 : z150a = s159.2.2.1 2 0 := fr_F (e150) hF159 rfl; first | (rw [← b0, ← e_2_0]; exact n170k) | (rw [← b0]; exact n170k)
                  exact g_ireturn (gd rfl) rfl (nb01 (in_w 0 1 (in_c 0 rfl) rfl)) (hP _ _ ⟨a150, s159, hI159, (fr_tr rfl (fr_tr rfl (fr_tr rfl hFc46 hF129) hF150) hF159), n170j, n170l, (Int32.ofInt 0), rfl, rfl, in_w 0 1 (in_c 0 rfl) rfl, n170, n170a, n170b, n170c, n170d, n170e, n170f, n170g, n170h⟩)
                · skip
                  exact zn_ne c162 i159 rfl
            · skip
              exact zn_eq c138 (in_c 1 rfl) rfl
      · skip
        have i53 := r_lt2 1 9 c53 j46_5 i50a rfl
        refine g_iload 58 (gd rfl) rfl rfl ?_
        refine g_aload_n 59 (gd rfl) rfl rfl ?_
        refine g_getA (q2 := 31) 62 (gd rfl) rfl rfl rfl rfl ?_
        refine g_alen (n := 5) (t := 0) 5 63 (gd rfl) rfl rfl (Nat.le_of_ble_eq_true rfl) rfl ?_
        refine g_cmp_ge 66 125 (gd rfl) rfl rfl (fun c63 => ?_) (fun c63 => ?_)
        · skip
          have i63 := r_le2 5 5 c63 (in_c 5 rfl) j46_5 rfl
          refine g_aload_n 126 (gd rfl) rfl rfl ?_
          refine g_bipush 7 128 (gd rfl) rfl rfl ?_
          refine g_iconst 1 129 (gd rfl) rfl rfl ?_
          have v129 : u_46_1 = sc46.2.2.1 46 1 := fr_F e_46_1 hFc46 rfl
          have n129 : (w46_46_2).toInt ≤ (u_46_1).toInt := by first | exact n46_0 | (have a0 := oa9 ro_46_1 ((inv_F hIc46 448 28000 rfl v46_30_0)) ((inv_F hIc46 0 32 rfl v46_2_1)) ((inv_F hIc46 0 4000 rfl v46_2_0)) ((inv_F hIc46 0 1000 rfl v46_46_2)) i63 j46_4 j46_3 j46_2; have oc := oc_136_1_46; omega)
          refine g_callv (X := _) (As := [.int (Int32.ofInt 7), .int (Int32.ofInt 1)]) (r := []) (b := A 46) (q := 46) 132 (gd rfl) rfl rfl rfl rfl rfl (ww_o rfl) (Nat.le_of_ble_eq_true rfl) (Nat.zero_le _) (Nat.zero_le _) (f_171_46 (by first | exact dq1 hd rfl | exact dq0 hd rfl | exact dq2 hd rfl | exact dq3 hd rfl | omega) hIc46 (in_w 7 7 (in_c 7 rfl) rfl) (in_w 1 1 (in_c 1 rfl) rfl) v46_46_2 v129 n129) (fun e u h => h) (fun v u h => ?_)
          obtain ⟨s129, hI129, hF129, n129a, n129b, n129c, rfl, rfl, p129, p129a, p129b⟩ := h
          obtain ⟨z129a, e129⟩ : ∃ w, w = s129.2.2.1 46 2 := ⟨_, rfl⟩
          have i129a := inv_F hI129 0 1000 rfl e129
          obtain ⟨z129b, e129a⟩ : ∃ w, w = s129.2.2.1 46 4 := ⟨_, rfl⟩
          have i129b := inv_F hI129 0 1000 rfl e129a
          rw [← (show z129a = s129.2.2.1 46 2 from e129)] at n129a
          rw [← (show u_46_1 = s129.2.2.1 46 1 from fr_F (fr_F e_46_1 hFc46 rfl) hF129 rfl)] at n129a
          rw [← (show z129a = s129.2.2.1 46 2 from e129)] at n129b
          rw [← (show z129b = s129.2.2.1 46 4 from e129a)] at n129b
          rw [← (show w46_46_2 = sc46.2.2.1 46 2 from v46_46_2)] at n129c
          rw [← (show z129b = s129.2.2.1 46 4 from e129a)] at n129c
          show GG _ _ _ _ _ _ _ _ [] _ _ _
          refine g_aload_n 133 (gd rfl) rfl rfl ?_
          refine g_bipush 59 135 (gd rfl) rfl rfl ?_
          refine g_callv (X := _) (As := [.int (Int32.ofInt 59)]) (r := []) (b := A 46) (q := 46) 138 (gd rfl) rfl rfl rfl rfl rfl (ww_o rfl) (Nat.le_of_ble_eq_true rfl) (mc := 0) (ms := 0) (Nat.zero_le _) (Nat.zero_le _) (P := fun v u => _) ?_ (fun e u h => h) (fun v u h => h)
          intro po135 xx135 hp135 hx135
          refine g_enter2 (k := 170) (N := 300) (by first | exact dq1 hd rfl | exact dq0 hd rfl | exact dq2 hd rfl | exact dq3 hd rfl | omega) rfl (Nat.le_of_ble_eq_true rfl) ?_
          refine g_aload_n 1 (gd rfl) rfl rfl ?_
          refine g_getI 4 (gd rfl) rfl rfl rfl (fun z135x1 e135x1 => ?_)
          have i135x1 := inv_F hI129 0 5 rfl e135x1
          refine g_iconst 3 5 (gd rfl) rfl rfl ?_
          refine g_cmp_ne 8 20 (gd rfl) rfl rfl (fun c135x5 => ?_) (fun c135x5 => ?_)
          · skip
            refine g_iconst 0 21 (gd rfl) rfl rfl ?_
            refine g_ireturn (gd rfl) rfl (nb01 (in_w 0 1 (in_c 0 rfl) rfl)) (hp135 _ _ ?_)
            show GG _ _ _ _ _ _ _ _ [.int (Int32.ofInt 0)] _ _ _
            refine g_if_ne 141 148 (gd rfl) rfl rfl (fun c138 => ?_) (fun c138 => ?_)
            · skip
              exact zn_ne c138 (in_c 0 rfl) rfl
            · skip
              refine g_aload_n 142 (gd rfl) rfl rfl ?_
              refine g_iconst 2 143 (gd rfl) rfl rfl ?_
              refine g_iconst 3 144 (gd rfl) rfl rfl ?_
              refine g_callv (X := _) (As := [.int (Int32.ofInt 2), .int (Int32.ofInt 3)]) (r := []) (b := A 46) (q := 46) 147 (gd rfl) rfl rfl rfl rfl rfl (ww_o rfl) (Nat.le_of_ble_eq_true rfl) (Nat.zero_le _) (Nat.zero_le _) (f_169_46 (by first | exact dq1 hd rfl | exact dq0 hd rfl | exact dq2 hd rfl | exact dq3 hd rfl | omega) hI129 (in_w 2 2 (in_c 2 rfl) rfl) (in_w 3 3 (in_c 3 rfl) rfl) e135x1 e129a) (fun e u h => h) (fun v u h => ?_)
              obtain ⟨s144, hI144, hF144, z144, rfl, rfl, i144, p144⟩ := h
              show GG _ _ _ _ _ _ _ _ [.int z144] _ _ _
              have n147 : KL s144 := by have hL9 : Fr ([31], [], [(46, 2), (46, 3), (46, 4), (46, 5), (46, 6), (46, 7)], []) s s144 := (fr_tr rfl (fr_tr rfl g46_2 hF129) hF144); exact kl_fr q_0 hL9 rfl
              have n147a : (z144).toInt ≠ 0 → (s144.2.2.1 30 0).toInt = nln s := by first | (intro h; exact absurd rfl h) | (intro h; exfalso; revert h; first | (unfold In at i39; omega) | (unfold In at i104; omega) | (unfold In at i144; omega))
              have n147b : (z144).toInt ≠ 0 → (s.2.2.1 2 0).toInt ≤ 3999 := by first | (intro h; exact absurd rfl h) | (intro h; exfalso; revert h; first | (unfold In at i39; omega) | (unfold In at i104; omega) | (unfold In at i144; omega))
              have n147c : ∀ k : Nat, (k : Int) < 7 * (s.2.2.1 2 0).toInt → s144.1 30 k = s.1 30 k := by have hL9 : Fr ([31], [], [(46, 2), (46, 3), (46, 4), (46, 5), (46, 6), (46, 7)], []) s s144 := (fr_tr rfl (fr_tr rfl g46_2 hF129) hF144); exact fun k _ => by rw [hL9.1 30 rfl]
              have n147d : (z144).toInt ≠ 0 → ∀ a : Nat, TKN (s.1 47) (s.2.2.1 46 1).toInt.toNat a (s.2.2.1 46 4).toInt.toNat (s.2.2.1 46 2).toInt.toNat (s.2.2.1 46 3).toInt (s.2.2.1 46 5).toInt → ∃ c V, CMP (s.1 47) (s.2.2.1 46 1).toInt.toNat a (s.2.2.1 46 4).toInt.toNat c V (s144.2.2.1 46 2).toInt.toNat ∧ dkC (gvC s) c V ∧ gvC s144 = opC (gvC s) c V := by first | (intro h; exact absurd rfl h) | (intro h; exfalso; revert h; first | (unfold In at i39; omega) | (unfold In at i104; omega) | (unfold In at i144; omega))
              have n147e : (z144).toInt = 0 → ∀ a : Nat, TKN (s.1 47) (s.2.2.1 46 1).toInt.toNat a (s.2.2.1 46 4).toInt.toNat (s.2.2.1 46 2).toInt.toNat (s.2.2.1 46 3).toInt (s.2.2.1 46 5).toInt → CMX (s.1 47) (s.2.2.1 46 1).toInt.toNat a (s144.2.2.1 46 6).toInt (s144.2.2.1 46 7).toInt.toNat ∨ ∃ c V e, CMP (s.1 47) (s.2.2.1 46 1).toInt.toNat a (s144.2.2.1 46 7).toInt.toNat c V e ∧ ¬ dkC (gvC s) c V ∧ (s144.2.2.1 46 6).toInt = 4 := by intro _ a ha; obtain ⟨h1, p1, k1, v1, h2⟩ := g46_6 a ha; have hk9 := p129b; rw [show sc46.1 47 = s.1 47 from g46_2.1 47 rfl, show sc46.2.2.1 46 1 = s.2.2.1 46 1 from g46_2.2.2.1 46 1 rfl, ← v46_46_2] at hk9; have h5 : y46_5.toInt.toNat = cmA y46_3.toInt := (by have h9 := shq_n g46_3; have h8 := p50; rw [h9] at h8; have h7 := (shq_5 g46_3).1; have h6 := g46_5; have a0 := oa12 ro_46_1 ((inv_F hIc46 448 28000 rfl v46_30_0)) ((inv_F hIc46 0 32 rfl v46_2_1)) ((inv_F hIc46 0 4000 rfl v46_2_0)) ((inv_F hIc46 0 1000 rfl v46_46_2)) i63 j46_4 j46_3 j46_2 i135x1 i129b i129a; have oc := oc_136_1_46; omega); refine Or.inl (Or.inr ⟨_, _, _, shq_i g46_3, by have h9 := ha; rw [g46_4.1, g46_4.2.1] at h9; exact h9, cmA y46_3.toInt, Nat.le_refl _, fun j hj => by obtain ⟨q, f, h9⟩ := h1 j (by omega); exact ⟨q, f, _, h9⟩, (s129.2.2.1 46 2).toInt.toNat, (s129.2.2.1 46 3).toInt, (s129.2.2.1 46 5).toInt, ?_, ?_, p144.1⟩); (rw [p144.2, ← h5]; exact ⟨p1, w46_46_2.toInt.toNat, k1, v1, h2, hk9⟩); (intro h9; unfold cmK at h9; rw [if_pos rfl] at h9; have h8 := tkn_v3 hk9 h9; first | (rw [← e135x1] at h9; have a0 := oa12 ro_46_1 ((inv_F hIc46 448 28000 rfl v46_30_0)) ((inv_F hIc46 0 32 rfl v46_2_1)) ((inv_F hIc46 0 4000 rfl v46_2_0)) ((inv_F hIc46 0 1000 rfl v46_46_2)) i63 j46_4 j46_3 j46_2 i135x1 i129b i129a; have oc := oc_136_1_46; omega) | (rw [← e135x9] at h8; have a0 := oa12 ro_46_1 ((inv_F hIc46 448 28000 rfl v46_30_0)) ((inv_F hIc46 0 32 rfl v46_2_1)) ((inv_F hIc46 0 4000 rfl v46_2_0)) ((inv_F hIc46 0 1000 rfl v46_46_2)) i63 j46_4 j46_3 j46_2 i135x1 i129b i129a; have oc := oc_136_1_46; omega))
              have n147f : (z144).toInt ≠ 0 → TQ s144 := by first | (intro h; exact absurd rfl h) | (intro h; exfalso; revert h; first | (unfold In at i39; omega) | (unfold In at i104; omega) | (unfold In at i144; omega))
              have n147g : (z144).toInt ≠ 0 → s144.2.2.1 46 6 = s.2.2.1 46 6 ∧ s144.2.2.1 46 7 = s.2.2.1 46 7 := by first | (intro h; exact absurd rfl h) | (intro h; exfalso; revert h; first | (unfold In at i39; omega) | (unfold In at i104; omega) | (unfold In at i144; omega))
              have n147h : (z144).toInt = 0 → 0 ≤ (s144.2.2.1 46 7).toInt := by intro _; rw [p144.2, ← e129a]; have a0 := oa12 ro_46_1 ((inv_F hIc46 448 28000 rfl v46_30_0)) ((inv_F hIc46 0 32 rfl v46_2_1)) ((inv_F hIc46 0 4000 rfl v46_2_0)) ((inv_F hIc46 0 1000 rfl v46_46_2)) i63 j46_4 j46_3 j46_2 i135x1 i129b i129a; have oc := oc_136_1_46; omega
              have n147i : (z129a).toInt ≤ (u_46_1).toInt := by have a0 := oa12 ro_46_1 ((inv_F hIc46 448 28000 rfl v46_30_0)) ((inv_F hIc46 0 32 rfl v46_2_1)) ((inv_F hIc46 0 4000 rfl v46_2_0)) ((inv_F hIc46 0 1000 rfl v46_46_2)) i63 j46_4 j46_3 j46_2 i135x1 i129b i129a; have oc := oc_136_1_46; omega
              have n147j : (s144.2.2.1 46 2).toInt ≤ (s144.2.2.1 46 1).toInt := by have b0 : z129a = s144.2.2.1 46 2 := fr_F (e129) hF144 rfl; have b1 : u_46_1 = s144.2.2.1 46 1 := fr_F (fr_F (fr_F e_46_1 hFc46 rfl) hF129 rfl) hF144 rfl; rw [← b0, ← b1]; exact n147i
              have n147k : (u_2_0).toInt ≤ (w46_2_0).toInt := by first | exact n46_1 | (have a0 := oa12 ro_46_1 ((inv_F hIc46 448 28000 rfl v46_30_0)) ((inv_F hIc46 0 32 rfl v46_2_1)) ((inv_F hIc46 0 4000 rfl v46_2_0)) ((inv_F hIc46 0 1000 rfl v46_46_2)) i63 j46_4 j46_3 j46_2 i135x1 i129b i129a; have oc := oc_136_1_46; omega)
              have n147l : (s.2.2.1 2 0).toInt ≤ (s144.2.2.1 2 0).toInt := by have b0 : w46_2_0 = s144.2.2.1 2 0 := fr_F (fr_F (v46_2_0) hF129 rfl) hF144 rfl; first | (rw [← b0, ← e_2_0]; exact n147k) | (rw [← b0]; exact n147k)
              exact g_ireturn (gd rfl) rfl (nb01 (in_w 0 1 i144 rfl)) (hP _ _ ⟨(A 30), s144, hI144, (fr_tr rfl (fr_tr rfl hFc46 hF129) hF144), n147j, n147l, z144, rfl, (by rw [ax_id]), in_w 0 1 i144 rfl, n147, n147a, n147b, n147c, n147d, n147e, n147f, n147g, n147h⟩)
          · skip
            have i135x5 := r_eq1 3 3 c135x5 i135x1 (in_c 3 rfl) rfl
            refine g_aload_n 9 (gd rfl) rfl rfl ?_
            refine g_getI 12 (gd rfl) rfl rfl rfl (fun z135x9 e135x9 => ?_)
            refine g_iload_n 13 (gd rfl) rfl rfl ?_
            refine g_cmp_ne 16 20 (gd rfl) rfl rfl (fun c135x13 => ?_) (fun c135x13 => ?_)
            · skip
              refine g_iconst 0 21 (gd rfl) rfl rfl ?_
              refine g_ireturn (gd rfl) rfl (nb01 (in_w 0 1 (in_c 0 rfl) rfl)) (hp135 _ _ ?_)
              show GG _ _ _ _ _ _ _ _ [.int (Int32.ofInt 0)] _ _ _
              refine g_if_ne 141 148 (gd rfl) rfl rfl (fun c138 => ?_) (fun c138 => ?_)
              · skip
                exact zn_ne c138 (in_c 0 rfl) rfl
              · skip
                refine g_aload_n 142 (gd rfl) rfl rfl ?_
                refine g_iconst 2 143 (gd rfl) rfl rfl ?_
                refine g_iconst 3 144 (gd rfl) rfl rfl ?_
                refine g_callv (X := _) (As := [.int (Int32.ofInt 2), .int (Int32.ofInt 3)]) (r := []) (b := A 46) (q := 46) 147 (gd rfl) rfl rfl rfl rfl rfl (ww_o rfl) (Nat.le_of_ble_eq_true rfl) (Nat.zero_le _) (Nat.zero_le _) (f_169_46 (by first | exact dq1 hd rfl | exact dq0 hd rfl | exact dq2 hd rfl | exact dq3 hd rfl | omega) hI129 (in_w 2 2 (in_c 2 rfl) rfl) (in_w 3 3 (in_c 3 rfl) rfl) e135x1 e129a) (fun e u h => h) (fun v u h => ?_)
                obtain ⟨s144, hI144, hF144, z144, rfl, rfl, i144, p144⟩ := h
                show GG _ _ _ _ _ _ _ _ [.int z144] _ _ _
                have n147 : KL s144 := by have hL9 : Fr ([31], [], [(46, 2), (46, 3), (46, 4), (46, 5), (46, 6), (46, 7)], []) s s144 := (fr_tr rfl (fr_tr rfl g46_2 hF129) hF144); exact kl_fr q_0 hL9 rfl
                have n147a : (z144).toInt ≠ 0 → (s144.2.2.1 30 0).toInt = nln s := by first | (intro h; exact absurd rfl h) | (intro h; exfalso; revert h; first | (unfold In at i39; omega) | (unfold In at i104; omega) | (unfold In at i144; omega))
                have n147b : (z144).toInt ≠ 0 → (s.2.2.1 2 0).toInt ≤ 3999 := by first | (intro h; exact absurd rfl h) | (intro h; exfalso; revert h; first | (unfold In at i39; omega) | (unfold In at i104; omega) | (unfold In at i144; omega))
                have n147c : ∀ k : Nat, (k : Int) < 7 * (s.2.2.1 2 0).toInt → s144.1 30 k = s.1 30 k := by have hL9 : Fr ([31], [], [(46, 2), (46, 3), (46, 4), (46, 5), (46, 6), (46, 7)], []) s s144 := (fr_tr rfl (fr_tr rfl g46_2 hF129) hF144); exact fun k _ => by rw [hL9.1 30 rfl]
                have n147d : (z144).toInt ≠ 0 → ∀ a : Nat, TKN (s.1 47) (s.2.2.1 46 1).toInt.toNat a (s.2.2.1 46 4).toInt.toNat (s.2.2.1 46 2).toInt.toNat (s.2.2.1 46 3).toInt (s.2.2.1 46 5).toInt → ∃ c V, CMP (s.1 47) (s.2.2.1 46 1).toInt.toNat a (s.2.2.1 46 4).toInt.toNat c V (s144.2.2.1 46 2).toInt.toNat ∧ dkC (gvC s) c V ∧ gvC s144 = opC (gvC s) c V := by first | (intro h; exact absurd rfl h) | (intro h; exfalso; revert h; first | (unfold In at i39; omega) | (unfold In at i104; omega) | (unfold In at i144; omega))
                have n147e : (z144).toInt = 0 → ∀ a : Nat, TKN (s.1 47) (s.2.2.1 46 1).toInt.toNat a (s.2.2.1 46 4).toInt.toNat (s.2.2.1 46 2).toInt.toNat (s.2.2.1 46 3).toInt (s.2.2.1 46 5).toInt → CMX (s.1 47) (s.2.2.1 46 1).toInt.toNat a (s144.2.2.1 46 6).toInt (s144.2.2.1 46 7).toInt.toNat ∨ ∃ c V e, CMP (s.1 47) (s.2.2.1 46 1).toInt.toNat a (s144.2.2.1 46 7).toInt.toNat c V e ∧ ¬ dkC (gvC s) c V ∧ (s144.2.2.1 46 6).toInt = 4 := by intro _ a ha; obtain ⟨h1, p1, k1, v1, h2⟩ := g46_6 a ha; have hk9 := p129b; rw [show sc46.1 47 = s.1 47 from g46_2.1 47 rfl, show sc46.2.2.1 46 1 = s.2.2.1 46 1 from g46_2.2.2.1 46 1 rfl, ← v46_46_2] at hk9; have h5 : y46_5.toInt.toNat = cmA y46_3.toInt := (by have h9 := shq_n g46_3; have h8 := p50; rw [h9] at h8; have h7 := (shq_5 g46_3).1; have h6 := g46_5; have a0 := oa12 ro_46_1 ((inv_F hIc46 448 28000 rfl v46_30_0)) ((inv_F hIc46 0 32 rfl v46_2_1)) ((inv_F hIc46 0 4000 rfl v46_2_0)) ((inv_F hIc46 0 1000 rfl v46_46_2)) i63 j46_4 j46_3 j46_2 i135x5 i129b i129a; have oc := oc_136_1_46; omega); refine Or.inl (Or.inr ⟨_, _, _, shq_i g46_3, by have h9 := ha; rw [g46_4.1, g46_4.2.1] at h9; exact h9, cmA y46_3.toInt, Nat.le_refl _, fun j hj => by obtain ⟨q, f, h9⟩ := h1 j (by omega); exact ⟨q, f, _, h9⟩, (s129.2.2.1 46 2).toInt.toNat, (s129.2.2.1 46 3).toInt, (s129.2.2.1 46 5).toInt, ?_, ?_, p144.1⟩); (rw [p144.2, ← h5]; exact ⟨p1, w46_46_2.toInt.toNat, k1, v1, h2, hk9⟩); (intro h9; unfold cmK at h9; rw [if_pos rfl] at h9; have h8 := tkn_v3 hk9 h9; first | (rw [← e135x1] at h9; have a0 := oa12 ro_46_1 ((inv_F hIc46 448 28000 rfl v46_30_0)) ((inv_F hIc46 0 32 rfl v46_2_1)) ((inv_F hIc46 0 4000 rfl v46_2_0)) ((inv_F hIc46 0 1000 rfl v46_46_2)) i63 j46_4 j46_3 j46_2 i135x5 i129b i129a; have oc := oc_136_1_46; omega) | (rw [← e135x9] at h8; have a0 := oa12 ro_46_1 ((inv_F hIc46 448 28000 rfl v46_30_0)) ((inv_F hIc46 0 32 rfl v46_2_1)) ((inv_F hIc46 0 4000 rfl v46_2_0)) ((inv_F hIc46 0 1000 rfl v46_46_2)) i63 j46_4 j46_3 j46_2 i135x5 i129b i129a; have oc := oc_136_1_46; omega))
                have n147f : (z144).toInt ≠ 0 → TQ s144 := by first | (intro h; exact absurd rfl h) | (intro h; exfalso; revert h; first | (unfold In at i39; omega) | (unfold In at i104; omega) | (unfold In at i144; omega))
                have n147g : (z144).toInt ≠ 0 → s144.2.2.1 46 6 = s.2.2.1 46 6 ∧ s144.2.2.1 46 7 = s.2.2.1 46 7 := by first | (intro h; exact absurd rfl h) | (intro h; exfalso; revert h; first | (unfold In at i39; omega) | (unfold In at i104; omega) | (unfold In at i144; omega))
                have n147h : (z144).toInt = 0 → 0 ≤ (s144.2.2.1 46 7).toInt := by intro _; rw [p144.2, ← e129a]; have a0 := oa12 ro_46_1 ((inv_F hIc46 448 28000 rfl v46_30_0)) ((inv_F hIc46 0 32 rfl v46_2_1)) ((inv_F hIc46 0 4000 rfl v46_2_0)) ((inv_F hIc46 0 1000 rfl v46_46_2)) i63 j46_4 j46_3 j46_2 i135x5 i129b i129a; have oc := oc_136_1_46; omega
                have n147i : (z129a).toInt ≤ (u_46_1).toInt := by have a0 := oa12 ro_46_1 ((inv_F hIc46 448 28000 rfl v46_30_0)) ((inv_F hIc46 0 32 rfl v46_2_1)) ((inv_F hIc46 0 4000 rfl v46_2_0)) ((inv_F hIc46 0 1000 rfl v46_46_2)) i63 j46_4 j46_3 j46_2 i135x5 i129b i129a; have oc := oc_136_1_46; omega
                have n147j : (s144.2.2.1 46 2).toInt ≤ (s144.2.2.1 46 1).toInt := by have b0 : z129a = s144.2.2.1 46 2 := fr_F (e129) hF144 rfl; have b1 : u_46_1 = s144.2.2.1 46 1 := fr_F (fr_F (fr_F e_46_1 hFc46 rfl) hF129 rfl) hF144 rfl; rw [← b0, ← b1]; exact n147i
                have n147k : (u_2_0).toInt ≤ (w46_2_0).toInt := by first | exact n46_1 | (have a0 := oa12 ro_46_1 ((inv_F hIc46 448 28000 rfl v46_30_0)) ((inv_F hIc46 0 32 rfl v46_2_1)) ((inv_F hIc46 0 4000 rfl v46_2_0)) ((inv_F hIc46 0 1000 rfl v46_46_2)) i63 j46_4 j46_3 j46_2 i135x5 i129b i129a; have oc := oc_136_1_46; omega)
                have n147l : (s.2.2.1 2 0).toInt ≤ (s144.2.2.1 2 0).toInt := by have b0 : w46_2_0 = s144.2.2.1 2 0 := fr_F (fr_F (v46_2_0) hF129 rfl) hF144 rfl; first | (rw [← b0, ← e_2_0]; exact n147k) | (rw [← b0]; exact n147k)
                exact g_ireturn (gd rfl) rfl (nb01 (in_w 0 1 i144 rfl)) (hP _ _ ⟨(A 30), s144, hI144, (fr_tr rfl (fr_tr rfl hFc46 hF129) hF144), n147j, n147l, z144, rfl, (by rw [ax_id]), in_w 0 1 i144 rfl, n147, n147a, n147b, n147c, n147d, n147e, n147f, n147g, n147h⟩)
            · skip
              have i135x13 := r_eq1 59 59 c135x13 (i_rng z135x9) (in_c 59 rfl) rfl
              refine g_iconst 1 17 (gd rfl) rfl rfl ?_
              refine g_goto 21 (gd rfl) rfl ?_
              refine g_ireturn (gd rfl) rfl (nb01 (in_w 0 1 (in_c 1 rfl) rfl)) (hp135 _ _ ?_)
              show GG _ _ _ _ _ _ _ _ [.int (Int32.ofInt 1)] _ _ _
              refine g_if_ne 141 148 (gd rfl) rfl rfl (fun c138 => ?_) (fun c138 => ?_)
              · skip
                refine g_aload_n 149 (gd rfl) rfl rfl ?_
                refine g_iload_n 150 (gd rfl) rfl rfl ?_
                have hL : Fr ([31], [], [(46, 2), (46, 3), (46, 4), (46, 5), (46, 6), (46, 7)], []) s s129 := (fr_tr rfl g46_2 hF129)
                have v150 : w46_2_0 = s129.2.2.1 2 0 := fr_F (v46_2_0) hF129 rfl
                have v150a : w46_2_1 = s129.2.2.1 2 1 := fr_F (v46_2_1) hF129 rfl
                have v150b : w46_30_0 = s129.2.2.1 30 0 := fr_F (v46_30_0) hF129 rfl
                have p150 : KL s129 := by exact kl_fr q_0 hL rfl
                have p150a : (y46_3).toInt = 13 → In (s129.1 31 0) 0 25 := by intro h13; rw [hF129.1 31 rfl]; exact g46_1 (g46_0 h13) (by have hz1 := zn_1 (g46_0 h13); have h9 := p50; have a0 := oa13 ro_46_1 ((inv_F hIc46 448 28000 rfl v46_30_0)) ((inv_F hIc46 0 32 rfl v46_2_1)) ((inv_F hIc46 0 4000 rfl v46_2_0)) ((inv_F hIc46 0 1000 rfl v46_46_2)) i63 j46_4 j46_3 j46_2 i135x13 i135x5 i129b i129a; have oc := oc_136_1_46; omega)
                have p150b : cmI (y46_3).toInt := by exact shq_i g46_3
                have p150c : TQ s129 := by exact tq_fr q_3 hL rfl
                have p150d : (y46_3).toInt = 0 → In (s129.1 31 4) 0 25 := by intro h0; obtain ⟨a, ha⟩ := q_2; obtain ⟨q, f, h5⟩ := (g46_6 a ha).1 4 (by have h9 := shq_n g46_3; have h8 := p50; rw [h9, h0] at h8; have h7 : (cmA 0 : Int) = 5 := rfl; have a0 := oa13 ro_46_1 ((inv_F hIc46 448 28000 rfl v46_30_0)) ((inv_F hIc46 0 32 rfl v46_2_1)) ((inv_F hIc46 0 4000 rfl v46_2_0)) ((inv_F hIc46 0 1000 rfl v46_46_2)) i63 j46_4 j46_3 j46_2 i135x13 i135x5 i129b i129a; have oc := oc_136_1_46; omega); rw [hF129.1 31 rfl]; rw [h0] at h5; obtain ⟨p8, e8, k8, v8, -, h6⟩ := h5; exact tkn_v1 h6 rfl
                refine g_callv (X := _) (As := [.int y46_3]) (r := []) (b := A 1) (q := 1) 153 (gd rfl) rfl rfl rfl rfl rfl (ww_o rfl) (Nat.le_of_ble_eq_true rfl) (Nat.le_of_eq (lc_cg ((show Fr ([31], [], [(46, 2), (46, 3), (46, 4), (46, 5), (46, 6), (46, 7)], []) s s129 from (fr_tr rfl g46_2 hF129)).2.2.1 30 0 rfl) ((show Fr ([31], [], [(46, 2), (46, 3), (46, 4), (46, 5), (46, 6), (46, 7)], []) s s129 from (fr_tr rfl g46_2 hF129)).2.2.1 2 0 rfl)).1) (Nat.le_of_eq (lc_cg ((show Fr ([31], [], [(46, 2), (46, 3), (46, 4), (46, 5), (46, 6), (46, 7)], []) s s129 from (fr_tr rfl g46_2 hF129)).2.2.1 30 0 rfl) ((show Fr ([31], [], [(46, 2), (46, 3), (46, 4), (46, 5), (46, 6), (46, 7)], []) s s129 from (fr_tr rfl g46_2 hF129)).2.2.1 2 0 rfl)).2.1) (f_138_1 (by first | exact dq1 hd rfl | exact dq0 hd rfl | exact dq2 hd rfl | exact dq3 hd rfl | omega) hI129 (in_w (-1) 25 j46_3 rfl) v150 v150a v150b rfl p150 p150a p150b p150c p150d) (fun e u h => h) (fun v u h => ?_)
                obtain ⟨a150, s150, hI150, hF150, n150, z150, rfl, rfl, i150, p150e, p150f, p150g, p150h, p150i, p150j⟩ := h
                obtain ⟨z150a, e150⟩ : ∃ w, w = s150.2.2.1 2 0 := ⟨_, rfl⟩
                have i150a := inv_F hI150 0 4000 rfl e150
                rw [← (show w46_2_0 = s129.2.2.1 2 0 from fr_F (v46_2_0) hF129 rfl)] at n150
                rw [← (show z150a = s150.2.2.1 2 0 from e150)] at n150
                show GG _ _ _ _ _ _ _ _ [.int z150] _ _ _
                refine g_if_ne 156 165 (gd rfl) rfl rfl (fun c153 => ?_) (fun c153 => ?_)
                · skip
                  have i153 := z_ne 1 1 c153 i150 rfl
                  refine g_iconst 1 166 (gd rfl) rfl rfl ?_
                  refine g_goto 170 (gd rfl) rfl ?_
                  have n170 : KL s150 := by exact p150e
                  have n170a : ((Int32.ofInt 1)).toInt ≠ 0 → (s150.2.2.1 30 0).toInt = nln s := by first | (intro h; exact absurd rfl h) | (intro _; rw [← (lc_cg (s := s) (hL.2.2.1 30 0 rfl) (hL.2.2.1 2 0 rfl)).2.2]; exact p150f c153)
                  have n170b : ((Int32.ofInt 1)).toInt ≠ 0 → (s.2.2.1 2 0).toInt ≤ 3999 := by first | (intro h; exact absurd rfl h) | (intro _; rw [← hL.2.2.1 2 0 rfl]; exact p150g c153)
                  have n170c : ∀ k : Nat, (k : Int) < 7 * (s.2.2.1 2 0).toInt → s150.1 30 k = s.1 30 k := by exact fun k hk => by rw [p150h k (by rw [hL.2.2.1 2 0 rfl]; exact hk), hL.1 30 rfl]
                  have n170d : ((Int32.ofInt 1)).toInt ≠ 0 → ∀ a : Nat, TKN (s.1 47) (s.2.2.1 46 1).toInt.toNat a (s.2.2.1 46 4).toInt.toNat (s.2.2.1 46 2).toInt.toNat (s.2.2.1 46 3).toInt (s.2.2.1 46 5).toInt → ∃ c V, CMP (s.1 47) (s.2.2.1 46 1).toInt.toNat a (s.2.2.1 46 4).toInt.toNat c V (s150.2.2.1 46 2).toInt.toNat ∧ dkC (gvC s) c V ∧ gvC s150 = opC (gvC s) c V := by first | (intro h; exact absurd rfl h) | (intro _ a ha; obtain ⟨h1, p1, k1, v1, h2⟩ := g46_6 a ha; have hk9 := p129b; rw [show sc46.1 47 = s.1 47 from g46_2.1 47 rfl, show sc46.2.2.1 46 1 = s.2.2.1 46 1 from g46_2.2.2.1 46 1 rfl, ← v46_46_2] at hk9; have h5 : y46_5.toInt.toNat = cmA y46_3.toInt := (by have h9 := shq_n g46_3; have h8 := p50; rw [h9] at h8; have h7 := (shq_5 g46_3).1; have h6 := g46_5; have a0 := oa14 ro_46_1 ((inv_F hIc46 448 28000 rfl v46_30_0)) ((inv_F hIc46 0 32 rfl v46_2_1)) ((inv_F hIc46 0 4000 rfl v46_2_0)) ((inv_F hIc46 0 1000 rfl v46_46_2)) i63 j46_4 j46_3 j46_2 i150a i135x13 i135x5 i129b i129a; have oc := oc_136_1_46; omega); have hcm : CMP (s.1 47) (s.2.2.1 46 1).toInt.toNat a (s.2.2.1 46 4).toInt.toNat y46_3.toInt (V31 s129) (s129.2.2.1 46 2).toInt.toNat := ⟨shq_i g46_3, ⟨_, by have h9 := ha; rw [g46_4.1, g46_4.2.1] at h9; exact h9⟩, fun i hi => by show ∃ q f, TSQ _ _ _ _ q f _ (s129.1 31 i).toInt; rw [hF129.1 31 rfl]; exact h1 i (by omega), (s129.2.2.1 46 4).toInt.toNat, (s129.2.2.1 46 5).toInt, by rw [← h5]; exact ⟨p1, w46_46_2.toInt.toNat, k1, v1, h2, by have h9 := hk9; rw [show (s129.2.2.1 46 3).toInt = 3 from (by rw [← e135x1]; have a0 := oa14 ro_46_1 ((inv_F hIc46 448 28000 rfl v46_30_0)) ((inv_F hIc46 0 32 rfl v46_2_1)) ((inv_F hIc46 0 4000 rfl v46_2_0)) ((inv_F hIc46 0 1000 rfl v46_46_2)) i63 j46_4 j46_3 j46_2 i150a i135x13 i135x5 i129b i129a; have oc := oc_136_1_46; omega)] at h9; exact h9⟩⟩; have h3 := p150i c153; rw [gvC_cg hL rfl] at h3; exact ⟨_, _, by rw [hF150.2.2.1 46 2 rfl]; exact hcm, h3.1, h3.2.1⟩)
                  have n170e : ((Int32.ofInt 1)).toInt = 0 → ∀ a : Nat, TKN (s.1 47) (s.2.2.1 46 1).toInt.toNat a (s.2.2.1 46 4).toInt.toNat (s.2.2.1 46 2).toInt.toNat (s.2.2.1 46 3).toInt (s.2.2.1 46 5).toInt → CMX (s.1 47) (s.2.2.1 46 1).toInt.toNat a (s150.2.2.1 46 6).toInt (s150.2.2.1 46 7).toInt.toNat ∨ ∃ c V e, CMP (s.1 47) (s.2.2.1 46 1).toInt.toNat a (s150.2.2.1 46 7).toInt.toNat c V e ∧ ¬ dkC (gvC s) c V ∧ (s150.2.2.1 46 6).toInt = 4 := by intro h; exact absurd h (by decide)
                  have n170f : ((Int32.ofInt 1)).toInt ≠ 0 → TQ s150 := by first | (intro h; exact absurd rfl h) | (intro _; exact (p150i c153).2.2)
                  have n170g : ((Int32.ofInt 1)).toInt ≠ 0 → s150.2.2.1 46 6 = s.2.2.1 46 6 ∧ s150.2.2.1 46 7 = s.2.2.1 46 7 := by first | (intro h; exact absurd rfl h) | (intro _; exact ⟨(hF150.2.2.1 46 6 rfl).trans ((hF129.2.2.1 46 6 rfl).trans g46_7.1), (hF150.2.2.1 46 7 rfl).trans ((hF129.2.2.1 46 7 rfl).trans g46_7.2)⟩)
                  have n170h : ((Int32.ofInt 1)).toInt = 0 → 0 ≤ (s150.2.2.1 46 7).toInt := by intro h; exact absurd h (by decide)
                  have n170i : (z129a).toInt ≤ (u_46_1).toInt := by have a0 := oa14 ro_46_1 ((inv_F hIc46 448 28000 rfl v46_30_0)) ((inv_F hIc46 0 32 rfl v46_2_1)) ((inv_F hIc46 0 4000 rfl v46_2_0)) ((inv_F hIc46 0 1000 rfl v46_46_2)) i63 j46_4 j46_3 j46_2 i150a i135x13 i135x5 i129b i129a; have oc := oc_136_1_46; omega
                  have n170j : (s150.2.2.1 46 2).toInt ≤ (s150.2.2.1 46 1).toInt := by have b0 : z129a = s150.2.2.1 46 2 := fr_F (e129) hF150 rfl; have b1 : u_46_1 = s150.2.2.1 46 1 := fr_F (fr_F (fr_F e_46_1 hFc46 rfl) hF129 rfl) hF150 rfl; rw [← b0, ← b1]; exact n170i
                  have n170k : (u_2_0).toInt ≤ (z150a).toInt := by have a0 := oa14 ro_46_1 ((inv_F hIc46 448 28000 rfl v46_30_0)) ((inv_F hIc46 0 32 rfl v46_2_1)) ((inv_F hIc46 0 4000 rfl v46_2_0)) ((inv_F hIc46 0 1000 rfl v46_46_2)) i63 j46_4 j46_3 j46_2 i150a i135x13 i135x5 i129b i129a; have oc := oc_136_1_46; omega
                  have n170l : (s.2.2.1 2 0).toInt ≤ (s150.2.2.1 2 0).toInt := by have b0 : z150a = s150.2.2.1 2 0 := e150; first | (rw [← b0, ← e_2_0]; exact n170k) | (rw [← b0]; exact n170k)
                  exact g_ireturn (gd rfl) rfl (nb01 (in_w 0 1 (in_c 1 rfl) rfl)) (hP _ _ ⟨a150, s150, hI150, (fr_tr rfl (fr_tr rfl hFc46 hF129) hF150), n170j, n170l, (Int32.ofInt 1), rfl, rfl, in_w 0 1 (in_c 1 rfl) rfl, n170, n170a, n170b, n170c, n170d, n170e, n170f, n170g, n170h⟩)
                · skip
                  have i153 := z_eq 0 0 c153 i150 rfl
                  refine g_aload_n 157 (gd rfl) rfl rfl ?_
                  refine g_iconst 4 158 (gd rfl) rfl rfl ?_
                  refine g_iload_n 159 (gd rfl) rfl rfl ?_
                  refine g_callv (X := _) (As := [.int (Int32.ofInt 4), .int y46_2]) (r := []) (b := A 46) (q := 46) 162 (gd rfl) rfl rfl rfl rfl rfl (ww_o rfl) (Nat.le_of_ble_eq_true rfl) (Nat.zero_le _) (Nat.zero_le _) (f_168_46 (A := (ax A 30 a150)) (by omega) hI150 (in_w 1 5 (in_c 4 rfl) rfl) (in_w 0 1000 j46_2 rfl)) (fun e u h => h) (fun v u h => ?_)
                  obtain ⟨s159, hI159, hF159, z159, rfl, rfl, i159, p159⟩ := h
                  show GG _ _ _ _ _ _ _ _ [.int z159] _ _ _
                  refine g_if_eq 165 169 (gd rfl) rfl rfl (fun c162 => ?_) (fun c162 => ?_)
                  · skip
                    refine g_iconst 0 170 (gd rfl) rfl rfl ?_
                    have n170 : KL s159 := by exact kl_fr p150e hF159 rfl
                    have n170a : ((Int32.ofInt 0)).toInt ≠ 0 → (s159.2.2.1 30 0).toInt = nln s := by intro h; exact absurd rfl h
                    have n170b : ((Int32.ofInt 0)).toInt ≠ 0 → (s.2.2.1 2 0).toInt ≤ 3999 := by intro h; exact absurd rfl h
                    have n170c : ∀ k : Nat, (k : Int) < 7 * (s.2.2.1 2 0).toInt → s159.1 30 k = s.1 30 k := by exact fun k hk => by rw [hF159.1 30 rfl, p150h k (by rw [hL.2.2.1 2 0 rfl]; exact hk), hL.1 30 rfl]
                    have n170d : ((Int32.ofInt 0)).toInt ≠ 0 → ∀ a : Nat, TKN (s.1 47) (s.2.2.1 46 1).toInt.toNat a (s.2.2.1 46 4).toInt.toNat (s.2.2.1 46 2).toInt.toNat (s.2.2.1 46 3).toInt (s.2.2.1 46 5).toInt → ∃ c V, CMP (s.1 47) (s.2.2.1 46 1).toInt.toNat a (s.2.2.1 46 4).toInt.toNat c V (s159.2.2.1 46 2).toInt.toNat ∧ dkC (gvC s) c V ∧ gvC s159 = opC (gvC s) c V := by exact fun h => absurd rfl h
                    have n170e : ((Int32.ofInt 0)).toInt = 0 → ∀ a : Nat, TKN (s.1 47) (s.2.2.1 46 1).toInt.toNat a (s.2.2.1 46 4).toInt.toNat (s.2.2.1 46 2).toInt.toNat (s.2.2.1 46 3).toInt (s.2.2.1 46 5).toInt → CMX (s.1 47) (s.2.2.1 46 1).toInt.toNat a (s159.2.2.1 46 6).toInt (s159.2.2.1 46 7).toInt.toNat ∨ ∃ c V e, CMP (s.1 47) (s.2.2.1 46 1).toInt.toNat a (s159.2.2.1 46 7).toInt.toNat c V e ∧ ¬ dkC (gvC s) c V ∧ (s159.2.2.1 46 6).toInt = 4 := by first | (intro h; exact absurd h (by decide)) | (intro _ a ha; obtain ⟨h1, p1, k1, v1, h2⟩ := g46_6 a ha; have hk9 := p129b; rw [show sc46.1 47 = s.1 47 from g46_2.1 47 rfl, show sc46.2.2.1 46 1 = s.2.2.1 46 1 from g46_2.2.2.1 46 1 rfl, ← v46_46_2] at hk9; have h5 : y46_5.toInt.toNat = cmA y46_3.toInt := (by have h9 := shq_n g46_3; have h8 := p50; rw [h9] at h8; have h7 := (shq_5 g46_3).1; have h6 := g46_5; have a0 := oa14 ro_46_1 ((inv_F hIc46 448 28000 rfl v46_30_0)) ((inv_F hIc46 0 32 rfl v46_2_1)) ((inv_F hIc46 0 4000 rfl v46_2_0)) ((inv_F hIc46 0 1000 rfl v46_46_2)) i63 j46_4 j46_3 j46_2 i150a i135x13 i135x5 i129b i129a; have oc := oc_136_1_46; omega); have hcm : CMP (s.1 47) (s.2.2.1 46 1).toInt.toNat a (s.2.2.1 46 4).toInt.toNat y46_3.toInt (V31 s129) (s129.2.2.1 46 2).toInt.toNat := ⟨shq_i g46_3, ⟨_, by have h9 := ha; rw [g46_4.1, g46_4.2.1] at h9; exact h9⟩, fun i hi => by show ∃ q f, TSQ _ _ _ _ q f _ (s129.1 31 i).toInt; rw [hF129.1 31 rfl]; exact h1 i (by omega), (s129.2.2.1 46 4).toInt.toNat, (s129.2.2.1 46 5).toInt, by rw [← h5]; exact ⟨p1, w46_46_2.toInt.toNat, k1, v1, h2, by have h9 := hk9; rw [show (s129.2.2.1 46 3).toInt = 3 from (by rw [← e135x1]; have a0 := oa14 ro_46_1 ((inv_F hIc46 448 28000 rfl v46_30_0)) ((inv_F hIc46 0 32 rfl v46_2_1)) ((inv_F hIc46 0 4000 rfl v46_2_0)) ((inv_F hIc46 0 1000 rfl v46_46_2)) i63 j46_4 j46_3 j46_2 i150a i135x13 i135x5 i129b i129a; have oc := oc_136_1_46; omega)] at h9; exact h9⟩⟩; have h3 := p150j (by have a0 := oa14 ro_46_1 ((inv_F hIc46 448 28000 rfl v46_30_0)) ((inv_F hIc46 0 32 rfl v46_2_1)) ((inv_F hIc46 0 4000 rfl v46_2_0)) ((inv_F hIc46 0 1000 rfl v46_46_2)) i63 j46_4 j46_3 j46_2 i150a i135x13 i135x5 i129b i129a; have oc := oc_136_1_46; omega); rw [gvC_cg hL rfl] at h3; refine Or.inr ⟨y46_3.toInt, V31 s129, (s129.2.2.1 46 2).toInt.toNat, ?_, h3, by rw [p159.1]; rfl⟩; rw [p159.2, g46_4.2.2]; exact hcm)
                    have n170f : ((Int32.ofInt 0)).toInt ≠ 0 → TQ s159 := by first | (intro h; exact absurd rfl h) | (intro _; exact (p150i c153).2.2)
                    have n170g : ((Int32.ofInt 0)).toInt ≠ 0 → s159.2.2.1 46 6 = s.2.2.1 46 6 ∧ s159.2.2.1 46 7 = s.2.2.1 46 7 := by exact fun h => absurd rfl h
                    have n170h : ((Int32.ofInt 0)).toInt = 0 → 0 ≤ (s159.2.2.1 46 7).toInt := by first | (intro h; exact absurd h (by decide)) | (intro _; rw [p159.2]; have a0 := oa14 ro_46_1 ((inv_F hIc46 448 28000 rfl v46_30_0)) ((inv_F hIc46 0 32 rfl v46_2_1)) ((inv_F hIc46 0 4000 rfl v46_2_0)) ((inv_F hIc46 0 1000 rfl v46_46_2)) i63 j46_4 j46_3 j46_2 i150a i135x13 i135x5 i129b i129a; have oc := oc_136_1_46; omega)
                    have n170i : (z129a).toInt ≤ (u_46_1).toInt := by have a0 := oa14 ro_46_1 ((inv_F hIc46 448 28000 rfl v46_30_0)) ((inv_F hIc46 0 32 rfl v46_2_1)) ((inv_F hIc46 0 4000 rfl v46_2_0)) ((inv_F hIc46 0 1000 rfl v46_46_2)) i63 j46_4 j46_3 j46_2 i150a i135x13 i135x5 i129b i129a; have oc := oc_136_1_46; omega
                    have n170j : (s159.2.2.1 46 2).toInt ≤ (s159.2.2.1 46 1).toInt := by have b0 : z129a = s159.2.2.1 46 2 := fr_F (fr_F (e129) hF150 rfl) hF159 rfl; have b1 : u_46_1 = s159.2.2.1 46 1 := fr_F (fr_F (fr_F (fr_F e_46_1 hFc46 rfl) hF129 rfl) hF150 rfl) hF159 rfl; rw [← b0, ← b1]; exact n170i
                    have n170k : (u_2_0).toInt ≤ (z150a).toInt := by have a0 := oa14 ro_46_1 ((inv_F hIc46 448 28000 rfl v46_30_0)) ((inv_F hIc46 0 32 rfl v46_2_1)) ((inv_F hIc46 0 4000 rfl v46_2_0)) ((inv_F hIc46 0 1000 rfl v46_46_2)) i63 j46_4 j46_3 j46_2 i150a i135x13 i135x5 i129b i129a; have oc := oc_136_1_46; omega
                    have n170l : (s.2.2.1 2 0).toInt ≤ (s159.2.2.1 2 0).toInt := by have b0 : z150a = s159.2.2.1 2 0 := fr_F (e150) hF159 rfl; first | (rw [← b0, ← e_2_0]; exact n170k) | (rw [← b0]; exact n170k)
                    exact g_ireturn (gd rfl) rfl (nb01 (in_w 0 1 (in_c 0 rfl) rfl)) (hP _ _ ⟨a150, s159, hI159, (fr_tr rfl (fr_tr rfl (fr_tr rfl hFc46 hF129) hF150) hF159), n170j, n170l, (Int32.ofInt 0), rfl, rfl, in_w 0 1 (in_c 0 rfl) rfl, n170, n170a, n170b, n170c, n170d, n170e, n170f, n170g, n170h⟩)
                  · skip
                    exact zn_ne c162 i159 rfl
              · skip
                exact zn_eq c138 (in_c 1 rfl) rfl
        · skip
          have i63 := r_lt1 0 4 c63 j46_5 (in_c 5 rfl) rfl
          refine g_aload_n 67 (gd rfl) rfl rfl ?_
          refine g_bipush 7 69 (gd rfl) rfl rfl ?_
          refine g_iconst 1 70 (gd rfl) rfl rfl ?_
          have v70 : u_46_1 = sc46.2.2.1 46 1 := fr_F e_46_1 hFc46 rfl
          have n70 : (w46_46_2).toInt ≤ (u_46_1).toInt := by first | exact n46_0 | (have a0 := oa9 ro_46_1 ((inv_F hIc46 448 28000 rfl v46_30_0)) ((inv_F hIc46 0 32 rfl v46_2_1)) ((inv_F hIc46 0 4000 rfl v46_2_0)) ((inv_F hIc46 0 1000 rfl v46_46_2)) i63 j46_4 j46_3 j46_2; have oc := oc_136_1_46; omega)
          refine g_callv (X := _) (As := [.int (Int32.ofInt 7), .int (Int32.ofInt 1)]) (r := []) (b := A 46) (q := 46) 73 (gd rfl) rfl rfl rfl rfl rfl (ww_o rfl) (Nat.le_of_ble_eq_true rfl) (Nat.zero_le _) (Nat.zero_le _) (f_171_46 (by first | exact dq1 hd rfl | exact dq0 hd rfl | exact dq2 hd rfl | exact dq3 hd rfl | omega) hIc46 (in_w 7 7 (in_c 7 rfl) rfl) (in_w 1 1 (in_c 1 rfl) rfl) v46_46_2 v70 n70) (fun e u h => h) (fun v u h => ?_)
          obtain ⟨s70, hI70, hF70, n70a, n70b, n70c, rfl, rfl, p70, p70a, p70b⟩ := h
          obtain ⟨z70a, e70⟩ : ∃ w, w = s70.2.2.1 46 2 := ⟨_, rfl⟩
          have i70a := inv_F hI70 0 1000 rfl e70
          obtain ⟨z70b, e70a⟩ : ∃ w, w = s70.2.2.1 46 4 := ⟨_, rfl⟩
          have i70b := inv_F hI70 0 1000 rfl e70a
          rw [← (show z70a = s70.2.2.1 46 2 from e70)] at n70a
          rw [← (show u_46_1 = s70.2.2.1 46 1 from fr_F (fr_F e_46_1 hFc46 rfl) hF70 rfl)] at n70a
          rw [← (show z70a = s70.2.2.1 46 2 from e70)] at n70b
          rw [← (show z70b = s70.2.2.1 46 4 from e70a)] at n70b
          rw [← (show w46_46_2 = sc46.2.2.1 46 2 from v46_46_2)] at n70c
          rw [← (show z70b = s70.2.2.1 46 4 from e70a)] at n70c
          show GG _ _ _ _ _ _ _ _ [] _ _ _
          refine g_aload 75 (gd rfl) rfl rfl ?_
          refine g_iload 77 (gd rfl) rfl rfl ?_
          have i77 : In y46_4 0 6 := in_w 0 6 j46_4 rfl
          have n77 : 0 ≤ (y46_5).toInt := by have a := i63; unfold In at a; omega
          have n77a : (y46_5).toInt < (zn y46_4 : Int) := by have h9 := p50; have a0 := oa11 ro_46_1 ((inv_F hIc46 448 28000 rfl v46_30_0)) ((inv_F hIc46 0 32 rfl v46_2_1)) ((inv_F hIc46 0 4000 rfl v46_2_0)) ((inv_F hIc46 0 1000 rfl v46_46_2)) i63 j46_4 j46_3 j46_2 i70b i70a; have oc := oc_136_1_46; omega
          refine g_callS (X := _) (As := [.int y46_5]) (r := []) (x := y46_4) 80 (gd rfl) rfl rfl rfl zm_429 rfl rfl rfl i77 (Nat.le_of_ble_eq_true rfl) (f_429 i77 n77 n77a (by omega)) (fun e u h => h) (fun v u h => ?_)
          obtain ⟨z77, rfl, rfl, i77a, p77, p77a⟩ := h
          show GG _ _ _ _ _ _ _ _ [.int z77] _ _ _
          refine g_bipush 108 82 (gd rfl) rfl rfl ?_
          refine g_cmp_ne 85 89 (gd rfl) rfl rfl (fun c82 => ?_) (fun c82 => ?_)
          · skip
            refine g_iconst 2 90 (gd rfl) rfl rfl ?_
            refine g_istore 92 (gd rfl) rfl (Nat.le_of_ble_eq_true rfl) ?_
            refine g_aload_n 93 (gd rfl) rfl rfl ?_
            refine g_getI 96 (gd rfl) rfl rfl rfl (fun z93 e93 => ?_)
            have i93 := inv_F hI70 0 5 rfl e93
            refine g_iload 98 (gd rfl) rfl rfl ?_
            refine g_cmp_eq 101 108 (gd rfl) rfl rfl (fun c98 => ?_) (fun c98 => ?_)
            · skip
              have i98 := r_eq1 2 2 c98 i93 (in_c 2 rfl) rfl
              refine g_aload_n 109 (gd rfl) rfl rfl ?_
              refine g_getA (q2 := 31) 112 (gd rfl) rfl rfl rfl rfl ?_
              refine g_iload 114 (gd rfl) rfl rfl ?_
              refine g_aload_n 115 (gd rfl) rfl rfl ?_
              refine g_getI 118 (gd rfl) rfl rfl rfl (fun z115 e115 => ?_)
              refine g_iastore 119 (gd rfl) rfl (n := 5) rfl (in_ix i63 rfl) ?_
              have hI118 := inv_sI (q := 31) (j := y46_5.toNatClampNeg) hI70 rfl (in_w (-2147483648) 2147483647 (i_rng z115) rfl)
              refine g_iinc 122 (gd rfl) rfl rfl (Nat.le_of_ble_eq_true rfl) (fun z119 e119 => ?_)
              have i119 := in_add 1 5 e119 i63 (in_c 1 rfl) rfl rfl
              refine g_goto 46 (gd rfl) rfl ?_
              have v46 : z70a = (sI s70 31 y46_5.toNatClampNeg z115).2.2.1 46 2 := sI_F (e70)
              have v46a : w46_2_0 = (sI s70 31 y46_5.toNatClampNeg z115).2.2.1 2 0 := sI_F (fr_F (v46_2_0) hF70 rfl)
              have v46b : w46_2_1 = (sI s70 31 y46_5.toNatClampNeg z115).2.2.1 2 1 := sI_F (fr_F (v46_2_1) hF70 rfl)
              have v46c : w46_30_0 = (sI s70 31 y46_5.toNatClampNeg z115).2.2.1 30 0 := sI_F (fr_F (v46_30_0) hF70 rfl)
              have n46 : (z70a).toInt ≤ (u_46_1).toInt := by have a0 := oa11 ro_46_1 ((inv_F hIc46 448 28000 rfl v46_30_0)) ((inv_F hIc46 0 32 rfl v46_2_1)) ((inv_F hIc46 0 4000 rfl v46_2_0)) ((inv_F hIc46 0 1000 rfl v46_46_2)) i63 j46_4 j46_3 j46_2 ((in_c 2 rfl)) i119; have a11 := t_add e119 i63 (in_c 1 rfl) rfl; have a12 := oa4 ((in_c 1 rfl)) i98 i70b i70a; have oc := oc_136_1_46; omega
              have n46a : (u_2_0).toInt ≤ (w46_2_0).toInt := by first | exact n46_1 | (have a0 := oa11 ro_46_1 ((inv_F hIc46 448 28000 rfl v46_30_0)) ((inv_F hIc46 0 32 rfl v46_2_1)) ((inv_F hIc46 0 4000 rfl v46_2_0)) ((inv_F hIc46 0 1000 rfl v46_46_2)) i63 j46_4 j46_3 j46_2 ((in_c 2 rfl)) i119; have a11 := t_add e119 i63 (in_c 1 rfl) rfl; have a12 := oa4 ((in_c 1 rfl)) i98 i70b i70a; have oc := oc_136_1_46; omega)
              have n46b : (y46_3).toInt = 13 → (y46_4).toInt = 1 := by exact g46_0
              have n46c : (y46_4).toInt = 1 → 1 ≤ (z119).toInt → In ((sI s70 31 y46_5.toNatClampNeg z115).1 31 0) 0 25 := by intro h4 _; first | (exfalso; have h9 := p77 h4; have c8 : (Int32.ofInt 108).toInt = 108 := (by decide); omega) | (have hz1 := zn_1 h4; have hi0 : y46_5.toInt = 0 := (by have h9 := p50; have a0 := oa11 ro_46_1 ((inv_F hIc46 448 28000 rfl v46_30_0)) ((inv_F hIc46 0 32 rfl v46_2_1)) ((inv_F hIc46 0 4000 rfl v46_2_0)) ((inv_F hIc46 0 1000 rfl v46_46_2)) i63 j46_4 j46_3 j46_2 ((in_c 2 rfl)) i119; have a11 := t_add e119 i63 (in_c 1 rfl) rfl; have a12 := oa4 ((in_c 1 rfl)) i98 i70b i70a; have oc := oc_136_1_46; omega); rw [sI_q, show y46_5.toNatClampNeg = 0 from (by show y46_5.toInt.toNat = 0; omega), ug_at, e115]; exact p70a (by rw [← e93]; exact c98.trans (by decide)))
              have n46d : Fr ([31], [], [(46, 2), (46, 3), (46, 4), (46, 5), (46, 6), (46, 7)], []) s (sI s70 31 y46_5.toNatClampNeg z115) := by exact fr_sI rfl (fr_tr rfl g46_2 hF70)
              have n46e : SHQ (y46_3).toInt (y46_4).toInt := by exact g46_3
              have n46f : (s.2.2.1 46 3).toInt = 1 ∧ (s.2.2.1 46 5).toInt = (y46_3).toInt ∧ (y46_2) = s.2.2.1 46 4 := by exact g46_4
              have n46g : (z119).toInt ≤ (cmA (y46_3).toInt : Int) := by have h9 := shq_n g46_3; have h8 := p50; rw [h9] at h8; have a0 := oa11 ro_46_1 ((inv_F hIc46 448 28000 rfl v46_30_0)) ((inv_F hIc46 0 32 rfl v46_2_1)) ((inv_F hIc46 0 4000 rfl v46_2_0)) ((inv_F hIc46 0 1000 rfl v46_46_2)) i63 j46_4 j46_3 j46_2 ((in_c 2 rfl)) i119; have a11 := t_add e119 i63 (in_c 1 rfl) rfl; have a12 := oa4 ((in_c 1 rfl)) i98 i70b i70a; have oc := oc_136_1_46; omega
              have n46h : ∀ a : Nat, TKN (s.1 47) (s.2.2.1 46 1).toInt.toNat a (s.2.2.1 46 4).toInt.toNat (s.2.2.1 46 2).toInt.toNat (s.2.2.1 46 3).toInt (s.2.2.1 46 5).toInt → (∀ j, j < (z119).toInt.toNat → ∃ q f, TSQ (s.1 47) (s.2.2.1 46 1).toInt.toNat a (j + 1) q f (cmK (y46_3).toInt (j + 1)) ((sI s70 31 y46_5.toNatClampNeg z115).1 31 j).toInt) ∧ ∃ p k v, TSQ (s.1 47) (s.2.2.1 46 1).toInt.toNat a (z119).toInt.toNat p (z70a).toInt.toNat k v := by intro a ha; obtain ⟨h1, p1, k1, v1, h2⟩ := g46_6 a ha; have hk9 := p70b; rw [show sc46.1 47 = s.1 47 from g46_2.1 47 rfl, show sc46.2.2.1 46 1 = s.2.2.1 46 1 from g46_2.2.2.1 46 1 rfl, ← v46_46_2] at hk9; have hq9 := shq_k g46_3 (j := y46_5.toNatClampNeg) (by have h9 := shq_n g46_3; have h8 := p50; rw [h9] at h8; show y46_5.toInt.toNat < _; have a0 := oa11 ro_46_1 ((inv_F hIc46 448 28000 rfl v46_30_0)) ((inv_F hIc46 0 32 rfl v46_2_1)) ((inv_F hIc46 0 4000 rfl v46_2_0)) ((inv_F hIc46 0 1000 rfl v46_46_2)) i63 j46_4 j46_3 j46_2 ((in_c 2 rfl)) i119; have a11 := t_add e119 i63 (in_c 1 rfl) rfl; have a12 := oa4 ((in_c 1 rfl)) i98 i70b i70a; have oc := oc_136_1_46; omega); rw [← p77a] at hq9; have hn9 : TSQ (s.1 47) (s.2.2.1 46 1).toInt.toNat a (y46_5.toInt.toNat + 1) (s70.2.2.1 46 4).toInt.toNat (s70.2.2.1 46 2).toInt.toNat (s70.2.2.1 46 3).toInt (s70.2.2.1 46 5).toInt := ⟨p1, w46_46_2.toInt.toNat, k1, v1, h2, hk9⟩; rw [show z119.toInt.toNat = y46_5.toInt.toNat + 1 from (by have a0 := oa11 ro_46_1 ((inv_F hIc46 448 28000 rfl v46_30_0)) ((inv_F hIc46 0 32 rfl v46_2_1)) ((inv_F hIc46 0 4000 rfl v46_2_0)) ((inv_F hIc46 0 1000 rfl v46_46_2)) i63 j46_4 j46_3 j46_2 ((in_c 2 rfl)) i119; have a11 := t_add e119 i63 (in_c 1 rfl) rfl; have a12 := oa4 ((in_c 1 rfl)) i98 i70b i70a; have oc := oc_136_1_46; omega)]; refine ⟨fun j hj => ?_, _, _, _, by rw [← (show z70a = (sI s70 31 y46_5.toNatClampNeg z115).2.2.1 46 2 from sI_F (e70)), ← e70] at *; exact hn9⟩; rw [sI_q]; by_cases hc : j = y46_5.toNatClampNeg; (rw [hc, ug_at, show y46_5.toNatClampNeg = y46_5.toInt.toNat from rfl, show cmK y46_3.toInt (y46_5.toInt.toNat + 1) = (s70.2.2.1 46 3).toInt from (by rw [← e93]; first | (rw [show cmK y46_3.toInt (y46_5.toInt.toNat + 1) = 1 from hq9.1 (by have a0 := oa11 ro_46_1 ((inv_F hIc46 448 28000 rfl v46_30_0)) ((inv_F hIc46 0 32 rfl v46_2_1)) ((inv_F hIc46 0 4000 rfl v46_2_0)) ((inv_F hIc46 0 1000 rfl v46_46_2)) i63 j46_4 j46_3 j46_2 ((in_c 2 rfl)) i119; have a11 := t_add e119 i63 (in_c 1 rfl) rfl; have a12 := oa4 ((in_c 1 rfl)) i98 i70b i70a; have oc := oc_136_1_46; omega)]; have a0 := oa11 ro_46_1 ((inv_F hIc46 448 28000 rfl v46_30_0)) ((inv_F hIc46 0 32 rfl v46_2_1)) ((inv_F hIc46 0 4000 rfl v46_2_0)) ((inv_F hIc46 0 1000 rfl v46_46_2)) i63 j46_4 j46_3 j46_2 ((in_c 2 rfl)) i119; have a11 := t_add e119 i63 (in_c 1 rfl) rfl; have a12 := oa4 ((in_c 1 rfl)) i98 i70b i70a; have oc := oc_136_1_46; omega) | (rw [show cmK y46_3.toInt (y46_5.toInt.toNat + 1) = 2 from hq9.2 (by have a0 := oa11 ro_46_1 ((inv_F hIc46 448 28000 rfl v46_30_0)) ((inv_F hIc46 0 32 rfl v46_2_1)) ((inv_F hIc46 0 4000 rfl v46_2_0)) ((inv_F hIc46 0 1000 rfl v46_46_2)) i63 j46_4 j46_3 j46_2 ((in_c 2 rfl)) i119; have a11 := t_add e119 i63 (in_c 1 rfl) rfl; have a12 := oa4 ((in_c 1 rfl)) i98 i70b i70a; have oc := oc_136_1_46; omega)]; have a0 := oa11 ro_46_1 ((inv_F hIc46 448 28000 rfl v46_30_0)) ((inv_F hIc46 0 32 rfl v46_2_1)) ((inv_F hIc46 0 4000 rfl v46_2_0)) ((inv_F hIc46 0 1000 rfl v46_46_2)) i63 j46_4 j46_3 j46_2 ((in_c 2 rfl)) i119; have a11 := t_add e119 i63 (in_c 1 rfl) rfl; have a12 := oa4 ((in_c 1 rfl)) i98 i70b i70a; have oc := oc_136_1_46; omega)), e115]; exact ⟨_, _, hn9⟩); (rw [ug_ne hc, hF70.1 31 rfl]; exact h1 j (by have h9 : y46_5.toNatClampNeg = y46_5.toInt.toNat := rfl; omega))
              have n46i : (sI s70 31 y46_5.toNatClampNeg z115).2.2.1 46 6 = s.2.2.1 46 6 ∧ (sI s70 31 y46_5.toNatClampNeg z115).2.2.1 46 7 = s.2.2.1 46 7 := by exact ⟨(hF70.2.2.1 46 6 rfl).trans g46_7.1, (hF70.2.2.1 46 7 rfl).trans g46_7.2⟩
              exact gg_w (by first | exact Nat.le_add_right _ _ | exact gw2 | exact gw3 | exact gwe rfl | exact gwf rfl | exact gwg rfl | exact gwh rfl | omega) (gg_f (gf_cons rfl (gf_cons rfl (gf_cons rfl (gf_cons rfl (gf_cons rfl (gf_cons rfl gf_nil)))))) (ih46 (sI s70 31 y46_5.toNatClampNeg z115) y46_2 y46_3 y46_4 z119 z70a w46_2_0 w46_2_1 w46_30_0 hI118 (fr_sI rfl (fr_tr rfl hFc46 hF70)) (in_w 0 1000 j46_2 rfl) (in_w (-1) 25 j46_3 rfl) (in_w 1 5 j46_4 rfl) (in_w 0 5 i119 rfl) v46 v46a v46b v46c n46 n46a n46b n46c n46d n46e n46f n46g n46h n46i (m_up mm46 (t_add e119 i63 (in_c 1 rfl) rfl) (in_w 1 1 (in_c 1 rfl) rfl))))
            · skip
              refine g_aload_n 102 (gd rfl) rfl rfl ?_
              refine g_iconst 2 103 (gd rfl) rfl rfl ?_
              refine g_iconst 3 104 (gd rfl) rfl rfl ?_
              refine g_callv (X := _) (As := [.int (Int32.ofInt 2), .int (Int32.ofInt 3)]) (r := []) (b := A 46) (q := 46) 107 (gd rfl) rfl rfl rfl rfl rfl (ww_o rfl) (Nat.le_of_ble_eq_true rfl) (Nat.zero_le _) (Nat.zero_le _) (f_169_46 (by first | exact dq1 hd rfl | exact dq0 hd rfl | exact dq2 hd rfl | exact dq3 hd rfl | omega) hI70 (in_w 2 2 (in_c 2 rfl) rfl) (in_w 3 3 (in_c 3 rfl) rfl) e93 e70a) (fun e u h => h) (fun v u h => ?_)
              obtain ⟨s104, hI104, hF104, z104, rfl, rfl, i104, p104⟩ := h
              show GG _ _ _ _ _ _ _ _ [.int z104] _ _ _
              have n107 : KL s104 := by have hL9 : Fr ([31], [], [(46, 2), (46, 3), (46, 4), (46, 5), (46, 6), (46, 7)], []) s s104 := (fr_tr rfl (fr_tr rfl g46_2 hF70) hF104); exact kl_fr q_0 hL9 rfl
              have n107a : (z104).toInt ≠ 0 → (s104.2.2.1 30 0).toInt = nln s := by first | (intro h; exact absurd rfl h) | (intro h; exfalso; revert h; first | (unfold In at i39; omega) | (unfold In at i104; omega) | (unfold In at i144; omega))
              have n107b : (z104).toInt ≠ 0 → (s.2.2.1 2 0).toInt ≤ 3999 := by first | (intro h; exact absurd rfl h) | (intro h; exfalso; revert h; first | (unfold In at i39; omega) | (unfold In at i104; omega) | (unfold In at i144; omega))
              have n107c : ∀ k : Nat, (k : Int) < 7 * (s.2.2.1 2 0).toInt → s104.1 30 k = s.1 30 k := by have hL9 : Fr ([31], [], [(46, 2), (46, 3), (46, 4), (46, 5), (46, 6), (46, 7)], []) s s104 := (fr_tr rfl (fr_tr rfl g46_2 hF70) hF104); exact fun k _ => by rw [hL9.1 30 rfl]
              have n107d : (z104).toInt ≠ 0 → ∀ a : Nat, TKN (s.1 47) (s.2.2.1 46 1).toInt.toNat a (s.2.2.1 46 4).toInt.toNat (s.2.2.1 46 2).toInt.toNat (s.2.2.1 46 3).toInt (s.2.2.1 46 5).toInt → ∃ c V, CMP (s.1 47) (s.2.2.1 46 1).toInt.toNat a (s.2.2.1 46 4).toInt.toNat c V (s104.2.2.1 46 2).toInt.toNat ∧ dkC (gvC s) c V ∧ gvC s104 = opC (gvC s) c V := by first | (intro h; exact absurd rfl h) | (intro h; exfalso; revert h; first | (unfold In at i39; omega) | (unfold In at i104; omega) | (unfold In at i144; omega))
              have n107e : (z104).toInt = 0 → ∀ a : Nat, TKN (s.1 47) (s.2.2.1 46 1).toInt.toNat a (s.2.2.1 46 4).toInt.toNat (s.2.2.1 46 2).toInt.toNat (s.2.2.1 46 3).toInt (s.2.2.1 46 5).toInt → CMX (s.1 47) (s.2.2.1 46 1).toInt.toNat a (s104.2.2.1 46 6).toInt (s104.2.2.1 46 7).toInt.toNat ∨ ∃ c V e, CMP (s.1 47) (s.2.2.1 46 1).toInt.toNat a (s104.2.2.1 46 7).toInt.toNat c V e ∧ ¬ dkC (gvC s) c V ∧ (s104.2.2.1 46 6).toInt = 4 := by intro _ a ha; obtain ⟨h1, p1, k1, v1, h2⟩ := g46_6 a ha; have hk9 := p70b; rw [show sc46.1 47 = s.1 47 from g46_2.1 47 rfl, show sc46.2.2.1 46 1 = s.2.2.1 46 1 from g46_2.2.2.1 46 1 rfl, ← v46_46_2] at hk9; have hq9 := shq_k g46_3 (j := y46_5.toNatClampNeg) (by have h9 := shq_n g46_3; have h8 := p50; rw [h9] at h8; show y46_5.toInt.toNat < _; have a0 := oa13 ro_46_1 ((inv_F hIc46 448 28000 rfl v46_30_0)) ((inv_F hIc46 0 32 rfl v46_2_1)) ((inv_F hIc46 0 4000 rfl v46_2_0)) ((inv_F hIc46 0 1000 rfl v46_46_2)) i63 j46_4 j46_3 j46_2 ((in_c 2 rfl)) i93 i70b i70a; have oc := oc_136_1_46; omega); rw [← p77a] at hq9; refine Or.inl (Or.inr ⟨_, _, _, shq_i g46_3, by have h9 := ha; rw [g46_4.1, g46_4.2.1] at h9; exact h9, y46_5.toInt.toNat, by have h9 := g46_5; omega, fun j hj => by obtain ⟨q, f, h9⟩ := h1 j hj; exact ⟨q, f, _, h9⟩, (s70.2.2.1 46 2).toInt.toNat, (s70.2.2.1 46 3).toInt, (s70.2.2.1 46 5).toInt, ?_, ?_, p104.1⟩); (rw [p104.2]; exact ⟨p1, w46_46_2.toInt.toNat, k1, v1, h2, hk9⟩); (rw [← e93]; first | (rw [show cmK y46_3.toInt (y46_5.toInt.toNat + 1) = 1 from hq9.1 (by have a0 := oa13 ro_46_1 ((inv_F hIc46 448 28000 rfl v46_30_0)) ((inv_F hIc46 0 32 rfl v46_2_1)) ((inv_F hIc46 0 4000 rfl v46_2_0)) ((inv_F hIc46 0 1000 rfl v46_46_2)) i63 j46_4 j46_3 j46_2 ((in_c 2 rfl)) i93 i70b i70a; have oc := oc_136_1_46; omega)]; have a0 := oa13 ro_46_1 ((inv_F hIc46 448 28000 rfl v46_30_0)) ((inv_F hIc46 0 32 rfl v46_2_1)) ((inv_F hIc46 0 4000 rfl v46_2_0)) ((inv_F hIc46 0 1000 rfl v46_46_2)) i63 j46_4 j46_3 j46_2 ((in_c 2 rfl)) i93 i70b i70a; have oc := oc_136_1_46; omega) | (rw [show cmK y46_3.toInt (y46_5.toInt.toNat + 1) = 2 from hq9.2 (by have a0 := oa13 ro_46_1 ((inv_F hIc46 448 28000 rfl v46_30_0)) ((inv_F hIc46 0 32 rfl v46_2_1)) ((inv_F hIc46 0 4000 rfl v46_2_0)) ((inv_F hIc46 0 1000 rfl v46_46_2)) i63 j46_4 j46_3 j46_2 ((in_c 2 rfl)) i93 i70b i70a; have oc := oc_136_1_46; omega)]; have a0 := oa13 ro_46_1 ((inv_F hIc46 448 28000 rfl v46_30_0)) ((inv_F hIc46 0 32 rfl v46_2_1)) ((inv_F hIc46 0 4000 rfl v46_2_0)) ((inv_F hIc46 0 1000 rfl v46_46_2)) i63 j46_4 j46_3 j46_2 ((in_c 2 rfl)) i93 i70b i70a; have oc := oc_136_1_46; omega))
              have n107f : (z104).toInt ≠ 0 → TQ s104 := by first | (intro h; exact absurd rfl h) | (intro h; exfalso; revert h; first | (unfold In at i39; omega) | (unfold In at i104; omega) | (unfold In at i144; omega))
              have n107g : (z104).toInt ≠ 0 → s104.2.2.1 46 6 = s.2.2.1 46 6 ∧ s104.2.2.1 46 7 = s.2.2.1 46 7 := by first | (intro h; exact absurd rfl h) | (intro h; exfalso; revert h; first | (unfold In at i39; omega) | (unfold In at i104; omega) | (unfold In at i144; omega))
              have n107h : (z104).toInt = 0 → 0 ≤ (s104.2.2.1 46 7).toInt := by intro _; rw [p104.2, ← e70a]; have a0 := oa13 ro_46_1 ((inv_F hIc46 448 28000 rfl v46_30_0)) ((inv_F hIc46 0 32 rfl v46_2_1)) ((inv_F hIc46 0 4000 rfl v46_2_0)) ((inv_F hIc46 0 1000 rfl v46_46_2)) i63 j46_4 j46_3 j46_2 ((in_c 2 rfl)) i93 i70b i70a; have oc := oc_136_1_46; omega
              have n107i : (z70a).toInt ≤ (u_46_1).toInt := by have a0 := oa13 ro_46_1 ((inv_F hIc46 448 28000 rfl v46_30_0)) ((inv_F hIc46 0 32 rfl v46_2_1)) ((inv_F hIc46 0 4000 rfl v46_2_0)) ((inv_F hIc46 0 1000 rfl v46_46_2)) i63 j46_4 j46_3 j46_2 ((in_c 2 rfl)) i93 i70b i70a; have oc := oc_136_1_46; omega
              have n107j : (s104.2.2.1 46 2).toInt ≤ (s104.2.2.1 46 1).toInt := by have b0 : z70a = s104.2.2.1 46 2 := fr_F (e70) hF104 rfl; have b1 : u_46_1 = s104.2.2.1 46 1 := fr_F (fr_F (fr_F e_46_1 hFc46 rfl) hF70 rfl) hF104 rfl; rw [← b0, ← b1]; exact n107i
              have n107k : (u_2_0).toInt ≤ (w46_2_0).toInt := by first | exact n46_1 | (have a0 := oa13 ro_46_1 ((inv_F hIc46 448 28000 rfl v46_30_0)) ((inv_F hIc46 0 32 rfl v46_2_1)) ((inv_F hIc46 0 4000 rfl v46_2_0)) ((inv_F hIc46 0 1000 rfl v46_46_2)) i63 j46_4 j46_3 j46_2 ((in_c 2 rfl)) i93 i70b i70a; have oc := oc_136_1_46; omega)
              have n107l : (s.2.2.1 2 0).toInt ≤ (s104.2.2.1 2 0).toInt := by have b0 : w46_2_0 = s104.2.2.1 2 0 := fr_F (fr_F (v46_2_0) hF70 rfl) hF104 rfl; first | (rw [← b0, ← e_2_0]; exact n107k) | (rw [← b0]; exact n107k)
              exact g_ireturn (gd rfl) rfl (nb01 (in_w 0 1 i104 rfl)) (hP _ _ ⟨(A 30), s104, hI104, (fr_tr rfl (fr_tr rfl hFc46 hF70) hF104), n107j, n107l, z104, rfl, (by rw [ax_id]), in_w 0 1 i104 rfl, n107, n107a, n107b, n107c, n107d, n107e, n107f, n107g, n107h⟩)
          · skip
            have i82 := r_eq1 108 108 c82 i77a (in_c 108 rfl) rfl
            refine g_iconst 1 86 (gd rfl) rfl rfl ?_
            refine g_goto 90 (gd rfl) rfl ?_
            refine g_istore 92 (gd rfl) rfl (Nat.le_of_ble_eq_true rfl) ?_
            refine g_aload_n 93 (gd rfl) rfl rfl ?_
            refine g_getI 96 (gd rfl) rfl rfl rfl (fun z93 e93 => ?_)
            have i93 := inv_F hI70 0 5 rfl e93
            refine g_iload 98 (gd rfl) rfl rfl ?_
            refine g_cmp_eq 101 108 (gd rfl) rfl rfl (fun c98 => ?_) (fun c98 => ?_)
            · skip
              have i98 := r_eq1 1 1 c98 i93 (in_c 1 rfl) rfl
              refine g_aload_n 109 (gd rfl) rfl rfl ?_
              refine g_getA (q2 := 31) 112 (gd rfl) rfl rfl rfl rfl ?_
              refine g_iload 114 (gd rfl) rfl rfl ?_
              refine g_aload_n 115 (gd rfl) rfl rfl ?_
              refine g_getI 118 (gd rfl) rfl rfl rfl (fun z115 e115 => ?_)
              refine g_iastore 119 (gd rfl) rfl (n := 5) rfl (in_ix i63 rfl) ?_
              have hI118 := inv_sI (q := 31) (j := y46_5.toNatClampNeg) hI70 rfl (in_w (-2147483648) 2147483647 (i_rng z115) rfl)
              refine g_iinc 122 (gd rfl) rfl rfl (Nat.le_of_ble_eq_true rfl) (fun z119 e119 => ?_)
              have i119 := in_add 1 5 e119 i63 (in_c 1 rfl) rfl rfl
              refine g_goto 46 (gd rfl) rfl ?_
              have v46 : z70a = (sI s70 31 y46_5.toNatClampNeg z115).2.2.1 46 2 := sI_F (e70)
              have v46a : w46_2_0 = (sI s70 31 y46_5.toNatClampNeg z115).2.2.1 2 0 := sI_F (fr_F (v46_2_0) hF70 rfl)
              have v46b : w46_2_1 = (sI s70 31 y46_5.toNatClampNeg z115).2.2.1 2 1 := sI_F (fr_F (v46_2_1) hF70 rfl)
              have v46c : w46_30_0 = (sI s70 31 y46_5.toNatClampNeg z115).2.2.1 30 0 := sI_F (fr_F (v46_30_0) hF70 rfl)
              have n46 : (z70a).toInt ≤ (u_46_1).toInt := by have a0 := oa11 ro_46_1 ((inv_F hIc46 448 28000 rfl v46_30_0)) ((inv_F hIc46 0 32 rfl v46_2_1)) ((inv_F hIc46 0 4000 rfl v46_2_0)) ((inv_F hIc46 0 1000 rfl v46_46_2)) i63 j46_4 j46_3 j46_2 ((in_c 1 rfl)) i119; have a11 := t_add e119 i63 (in_c 1 rfl) rfl; have a12 := oa3 i98 i70b i70a; have oc := oc_136_1_46; omega
              have n46a : (u_2_0).toInt ≤ (w46_2_0).toInt := by first | exact n46_1 | (have a0 := oa11 ro_46_1 ((inv_F hIc46 448 28000 rfl v46_30_0)) ((inv_F hIc46 0 32 rfl v46_2_1)) ((inv_F hIc46 0 4000 rfl v46_2_0)) ((inv_F hIc46 0 1000 rfl v46_46_2)) i63 j46_4 j46_3 j46_2 ((in_c 1 rfl)) i119; have a11 := t_add e119 i63 (in_c 1 rfl) rfl; have a12 := oa3 i98 i70b i70a; have oc := oc_136_1_46; omega)
              have n46b : (y46_3).toInt = 13 → (y46_4).toInt = 1 := by exact g46_0
              have n46c : (y46_4).toInt = 1 → 1 ≤ (z119).toInt → In ((sI s70 31 y46_5.toNatClampNeg z115).1 31 0) 0 25 := by intro h4 _; first | (exfalso; have h9 := p77 h4; have c8 : (Int32.ofInt 108).toInt = 108 := (by decide); omega) | (have hz1 := zn_1 h4; have hi0 : y46_5.toInt = 0 := (by have h9 := p50; have a0 := oa11 ro_46_1 ((inv_F hIc46 448 28000 rfl v46_30_0)) ((inv_F hIc46 0 32 rfl v46_2_1)) ((inv_F hIc46 0 4000 rfl v46_2_0)) ((inv_F hIc46 0 1000 rfl v46_46_2)) i63 j46_4 j46_3 j46_2 ((in_c 1 rfl)) i119; have a11 := t_add e119 i63 (in_c 1 rfl) rfl; have a12 := oa3 i98 i70b i70a; have oc := oc_136_1_46; omega); rw [sI_q, show y46_5.toNatClampNeg = 0 from (by show y46_5.toInt.toNat = 0; omega), ug_at, e115]; exact p70a (by rw [← e93]; exact c98.trans (by decide)))
              have n46d : Fr ([31], [], [(46, 2), (46, 3), (46, 4), (46, 5), (46, 6), (46, 7)], []) s (sI s70 31 y46_5.toNatClampNeg z115) := by exact fr_sI rfl (fr_tr rfl g46_2 hF70)
              have n46e : SHQ (y46_3).toInt (y46_4).toInt := by exact g46_3
              have n46f : (s.2.2.1 46 3).toInt = 1 ∧ (s.2.2.1 46 5).toInt = (y46_3).toInt ∧ (y46_2) = s.2.2.1 46 4 := by exact g46_4
              have n46g : (z119).toInt ≤ (cmA (y46_3).toInt : Int) := by have h9 := shq_n g46_3; have h8 := p50; rw [h9] at h8; have a0 := oa11 ro_46_1 ((inv_F hIc46 448 28000 rfl v46_30_0)) ((inv_F hIc46 0 32 rfl v46_2_1)) ((inv_F hIc46 0 4000 rfl v46_2_0)) ((inv_F hIc46 0 1000 rfl v46_46_2)) i63 j46_4 j46_3 j46_2 ((in_c 1 rfl)) i119; have a11 := t_add e119 i63 (in_c 1 rfl) rfl; have a12 := oa3 i98 i70b i70a; have oc := oc_136_1_46; omega
              have n46h : ∀ a : Nat, TKN (s.1 47) (s.2.2.1 46 1).toInt.toNat a (s.2.2.1 46 4).toInt.toNat (s.2.2.1 46 2).toInt.toNat (s.2.2.1 46 3).toInt (s.2.2.1 46 5).toInt → (∀ j, j < (z119).toInt.toNat → ∃ q f, TSQ (s.1 47) (s.2.2.1 46 1).toInt.toNat a (j + 1) q f (cmK (y46_3).toInt (j + 1)) ((sI s70 31 y46_5.toNatClampNeg z115).1 31 j).toInt) ∧ ∃ p k v, TSQ (s.1 47) (s.2.2.1 46 1).toInt.toNat a (z119).toInt.toNat p (z70a).toInt.toNat k v := by intro a ha; obtain ⟨h1, p1, k1, v1, h2⟩ := g46_6 a ha; have hk9 := p70b; rw [show sc46.1 47 = s.1 47 from g46_2.1 47 rfl, show sc46.2.2.1 46 1 = s.2.2.1 46 1 from g46_2.2.2.1 46 1 rfl, ← v46_46_2] at hk9; have hq9 := shq_k g46_3 (j := y46_5.toNatClampNeg) (by have h9 := shq_n g46_3; have h8 := p50; rw [h9] at h8; show y46_5.toInt.toNat < _; have a0 := oa11 ro_46_1 ((inv_F hIc46 448 28000 rfl v46_30_0)) ((inv_F hIc46 0 32 rfl v46_2_1)) ((inv_F hIc46 0 4000 rfl v46_2_0)) ((inv_F hIc46 0 1000 rfl v46_46_2)) i63 j46_4 j46_3 j46_2 ((in_c 1 rfl)) i119; have a11 := t_add e119 i63 (in_c 1 rfl) rfl; have a12 := oa3 i98 i70b i70a; have oc := oc_136_1_46; omega); rw [← p77a] at hq9; have hn9 : TSQ (s.1 47) (s.2.2.1 46 1).toInt.toNat a (y46_5.toInt.toNat + 1) (s70.2.2.1 46 4).toInt.toNat (s70.2.2.1 46 2).toInt.toNat (s70.2.2.1 46 3).toInt (s70.2.2.1 46 5).toInt := ⟨p1, w46_46_2.toInt.toNat, k1, v1, h2, hk9⟩; rw [show z119.toInt.toNat = y46_5.toInt.toNat + 1 from (by have a0 := oa11 ro_46_1 ((inv_F hIc46 448 28000 rfl v46_30_0)) ((inv_F hIc46 0 32 rfl v46_2_1)) ((inv_F hIc46 0 4000 rfl v46_2_0)) ((inv_F hIc46 0 1000 rfl v46_46_2)) i63 j46_4 j46_3 j46_2 ((in_c 1 rfl)) i119; have a11 := t_add e119 i63 (in_c 1 rfl) rfl; have a12 := oa3 i98 i70b i70a; have oc := oc_136_1_46; omega)]; refine ⟨fun j hj => ?_, _, _, _, by rw [← (show z70a = (sI s70 31 y46_5.toNatClampNeg z115).2.2.1 46 2 from sI_F (e70)), ← e70] at *; exact hn9⟩; rw [sI_q]; by_cases hc : j = y46_5.toNatClampNeg; (rw [hc, ug_at, show y46_5.toNatClampNeg = y46_5.toInt.toNat from rfl, show cmK y46_3.toInt (y46_5.toInt.toNat + 1) = (s70.2.2.1 46 3).toInt from (by rw [← e93]; first | (rw [show cmK y46_3.toInt (y46_5.toInt.toNat + 1) = 1 from hq9.1 (by have a0 := oa11 ro_46_1 ((inv_F hIc46 448 28000 rfl v46_30_0)) ((inv_F hIc46 0 32 rfl v46_2_1)) ((inv_F hIc46 0 4000 rfl v46_2_0)) ((inv_F hIc46 0 1000 rfl v46_46_2)) i63 j46_4 j46_3 j46_2 ((in_c 1 rfl)) i119; have a11 := t_add e119 i63 (in_c 1 rfl) rfl; have a12 := oa3 i98 i70b i70a; have oc := oc_136_1_46; omega)]; have a0 := oa11 ro_46_1 ((inv_F hIc46 448 28000 rfl v46_30_0)) ((inv_F hIc46 0 32 rfl v46_2_1)) ((inv_F hIc46 0 4000 rfl v46_2_0)) ((inv_F hIc46 0 1000 rfl v46_46_2)) i63 j46_4 j46_3 j46_2 ((in_c 1 rfl)) i119; have a11 := t_add e119 i63 (in_c 1 rfl) rfl; have a12 := oa3 i98 i70b i70a; have oc := oc_136_1_46; omega) | (rw [show cmK y46_3.toInt (y46_5.toInt.toNat + 1) = 2 from hq9.2 (by have a0 := oa11 ro_46_1 ((inv_F hIc46 448 28000 rfl v46_30_0)) ((inv_F hIc46 0 32 rfl v46_2_1)) ((inv_F hIc46 0 4000 rfl v46_2_0)) ((inv_F hIc46 0 1000 rfl v46_46_2)) i63 j46_4 j46_3 j46_2 ((in_c 1 rfl)) i119; have a11 := t_add e119 i63 (in_c 1 rfl) rfl; have a12 := oa3 i98 i70b i70a; have oc := oc_136_1_46; omega)]; have a0 := oa11 ro_46_1 ((inv_F hIc46 448 28000 rfl v46_30_0)) ((inv_F hIc46 0 32 rfl v46_2_1)) ((inv_F hIc46 0 4000 rfl v46_2_0)) ((inv_F hIc46 0 1000 rfl v46_46_2)) i63 j46_4 j46_3 j46_2 ((in_c 1 rfl)) i119; have a11 := t_add e119 i63 (in_c 1 rfl) rfl; have a12 := oa3 i98 i70b i70a; have oc := oc_136_1_46; omega)), e115]; exact ⟨_, _, hn9⟩); (rw [ug_ne hc, hF70.1 31 rfl]; exact h1 j (by have h9 : y46_5.toNatClampNeg = y46_5.toInt.toNat := rfl; omega))
              have n46i : (sI s70 31 y46_5.toNatClampNeg z115).2.2.1 46 6 = s.2.2.1 46 6 ∧ (sI s70 31 y46_5.toNatClampNeg z115).2.2.1 46 7 = s.2.2.1 46 7 := by exact ⟨(hF70.2.2.1 46 6 rfl).trans g46_7.1, (hF70.2.2.1 46 7 rfl).trans g46_7.2⟩
              exact gg_w (by first | exact Nat.le_add_right _ _ | exact gw2 | exact gw3 | exact gwe rfl | exact gwf rfl | exact gwg rfl | exact gwh rfl | omega) (gg_f (gf_cons rfl (gf_cons rfl (gf_cons rfl (gf_cons rfl (gf_cons rfl (gf_cons rfl gf_nil)))))) (ih46 (sI s70 31 y46_5.toNatClampNeg z115) y46_2 y46_3 y46_4 z119 z70a w46_2_0 w46_2_1 w46_30_0 hI118 (fr_sI rfl (fr_tr rfl hFc46 hF70)) (in_w 0 1000 j46_2 rfl) (in_w (-1) 25 j46_3 rfl) (in_w 1 5 j46_4 rfl) (in_w 0 5 i119 rfl) v46 v46a v46b v46c n46 n46a n46b n46c n46d n46e n46f n46g n46h n46i (m_up mm46 (t_add e119 i63 (in_c 1 rfl) rfl) (in_w 1 1 (in_c 1 rfl) rfl))))
            · skip
              refine g_aload_n 102 (gd rfl) rfl rfl ?_
              refine g_iconst 2 103 (gd rfl) rfl rfl ?_
              refine g_iconst 3 104 (gd rfl) rfl rfl ?_
              refine g_callv (X := _) (As := [.int (Int32.ofInt 2), .int (Int32.ofInt 3)]) (r := []) (b := A 46) (q := 46) 107 (gd rfl) rfl rfl rfl rfl rfl (ww_o rfl) (Nat.le_of_ble_eq_true rfl) (Nat.zero_le _) (Nat.zero_le _) (f_169_46 (by first | exact dq1 hd rfl | exact dq0 hd rfl | exact dq2 hd rfl | exact dq3 hd rfl | omega) hI70 (in_w 2 2 (in_c 2 rfl) rfl) (in_w 3 3 (in_c 3 rfl) rfl) e93 e70a) (fun e u h => h) (fun v u h => ?_)
              obtain ⟨s104, hI104, hF104, z104, rfl, rfl, i104, p104⟩ := h
              show GG _ _ _ _ _ _ _ _ [.int z104] _ _ _
              have n107 : KL s104 := by have hL9 : Fr ([31], [], [(46, 2), (46, 3), (46, 4), (46, 5), (46, 6), (46, 7)], []) s s104 := (fr_tr rfl (fr_tr rfl g46_2 hF70) hF104); exact kl_fr q_0 hL9 rfl
              have n107a : (z104).toInt ≠ 0 → (s104.2.2.1 30 0).toInt = nln s := by first | (intro h; exact absurd rfl h) | (intro h; exfalso; revert h; first | (unfold In at i39; omega) | (unfold In at i104; omega) | (unfold In at i144; omega))
              have n107b : (z104).toInt ≠ 0 → (s.2.2.1 2 0).toInt ≤ 3999 := by first | (intro h; exact absurd rfl h) | (intro h; exfalso; revert h; first | (unfold In at i39; omega) | (unfold In at i104; omega) | (unfold In at i144; omega))
              have n107c : ∀ k : Nat, (k : Int) < 7 * (s.2.2.1 2 0).toInt → s104.1 30 k = s.1 30 k := by have hL9 : Fr ([31], [], [(46, 2), (46, 3), (46, 4), (46, 5), (46, 6), (46, 7)], []) s s104 := (fr_tr rfl (fr_tr rfl g46_2 hF70) hF104); exact fun k _ => by rw [hL9.1 30 rfl]
              have n107d : (z104).toInt ≠ 0 → ∀ a : Nat, TKN (s.1 47) (s.2.2.1 46 1).toInt.toNat a (s.2.2.1 46 4).toInt.toNat (s.2.2.1 46 2).toInt.toNat (s.2.2.1 46 3).toInt (s.2.2.1 46 5).toInt → ∃ c V, CMP (s.1 47) (s.2.2.1 46 1).toInt.toNat a (s.2.2.1 46 4).toInt.toNat c V (s104.2.2.1 46 2).toInt.toNat ∧ dkC (gvC s) c V ∧ gvC s104 = opC (gvC s) c V := by first | (intro h; exact absurd rfl h) | (intro h; exfalso; revert h; first | (unfold In at i39; omega) | (unfold In at i104; omega) | (unfold In at i144; omega))
              have n107e : (z104).toInt = 0 → ∀ a : Nat, TKN (s.1 47) (s.2.2.1 46 1).toInt.toNat a (s.2.2.1 46 4).toInt.toNat (s.2.2.1 46 2).toInt.toNat (s.2.2.1 46 3).toInt (s.2.2.1 46 5).toInt → CMX (s.1 47) (s.2.2.1 46 1).toInt.toNat a (s104.2.2.1 46 6).toInt (s104.2.2.1 46 7).toInt.toNat ∨ ∃ c V e, CMP (s.1 47) (s.2.2.1 46 1).toInt.toNat a (s104.2.2.1 46 7).toInt.toNat c V e ∧ ¬ dkC (gvC s) c V ∧ (s104.2.2.1 46 6).toInt = 4 := by intro _ a ha; obtain ⟨h1, p1, k1, v1, h2⟩ := g46_6 a ha; have hk9 := p70b; rw [show sc46.1 47 = s.1 47 from g46_2.1 47 rfl, show sc46.2.2.1 46 1 = s.2.2.1 46 1 from g46_2.2.2.1 46 1 rfl, ← v46_46_2] at hk9; have hq9 := shq_k g46_3 (j := y46_5.toNatClampNeg) (by have h9 := shq_n g46_3; have h8 := p50; rw [h9] at h8; show y46_5.toInt.toNat < _; have a0 := oa13 ro_46_1 ((inv_F hIc46 448 28000 rfl v46_30_0)) ((inv_F hIc46 0 32 rfl v46_2_1)) ((inv_F hIc46 0 4000 rfl v46_2_0)) ((inv_F hIc46 0 1000 rfl v46_46_2)) i63 j46_4 j46_3 j46_2 ((in_c 1 rfl)) i93 i70b i70a; have oc := oc_136_1_46; omega); rw [← p77a] at hq9; refine Or.inl (Or.inr ⟨_, _, _, shq_i g46_3, by have h9 := ha; rw [g46_4.1, g46_4.2.1] at h9; exact h9, y46_5.toInt.toNat, by have h9 := g46_5; omega, fun j hj => by obtain ⟨q, f, h9⟩ := h1 j hj; exact ⟨q, f, _, h9⟩, (s70.2.2.1 46 2).toInt.toNat, (s70.2.2.1 46 3).toInt, (s70.2.2.1 46 5).toInt, ?_, ?_, p104.1⟩); (rw [p104.2]; exact ⟨p1, w46_46_2.toInt.toNat, k1, v1, h2, hk9⟩); (rw [← e93]; first | (rw [show cmK y46_3.toInt (y46_5.toInt.toNat + 1) = 1 from hq9.1 (by have a0 := oa13 ro_46_1 ((inv_F hIc46 448 28000 rfl v46_30_0)) ((inv_F hIc46 0 32 rfl v46_2_1)) ((inv_F hIc46 0 4000 rfl v46_2_0)) ((inv_F hIc46 0 1000 rfl v46_46_2)) i63 j46_4 j46_3 j46_2 ((in_c 1 rfl)) i93 i70b i70a; have oc := oc_136_1_46; omega)]; have a0 := oa13 ro_46_1 ((inv_F hIc46 448 28000 rfl v46_30_0)) ((inv_F hIc46 0 32 rfl v46_2_1)) ((inv_F hIc46 0 4000 rfl v46_2_0)) ((inv_F hIc46 0 1000 rfl v46_46_2)) i63 j46_4 j46_3 j46_2 ((in_c 1 rfl)) i93 i70b i70a; have oc := oc_136_1_46; omega) | (rw [show cmK y46_3.toInt (y46_5.toInt.toNat + 1) = 2 from hq9.2 (by have a0 := oa13 ro_46_1 ((inv_F hIc46 448 28000 rfl v46_30_0)) ((inv_F hIc46 0 32 rfl v46_2_1)) ((inv_F hIc46 0 4000 rfl v46_2_0)) ((inv_F hIc46 0 1000 rfl v46_46_2)) i63 j46_4 j46_3 j46_2 ((in_c 1 rfl)) i93 i70b i70a; have oc := oc_136_1_46; omega)]; have a0 := oa13 ro_46_1 ((inv_F hIc46 448 28000 rfl v46_30_0)) ((inv_F hIc46 0 32 rfl v46_2_1)) ((inv_F hIc46 0 4000 rfl v46_2_0)) ((inv_F hIc46 0 1000 rfl v46_46_2)) i63 j46_4 j46_3 j46_2 ((in_c 1 rfl)) i93 i70b i70a; have oc := oc_136_1_46; omega))
              have n107f : (z104).toInt ≠ 0 → TQ s104 := by first | (intro h; exact absurd rfl h) | (intro h; exfalso; revert h; first | (unfold In at i39; omega) | (unfold In at i104; omega) | (unfold In at i144; omega))
              have n107g : (z104).toInt ≠ 0 → s104.2.2.1 46 6 = s.2.2.1 46 6 ∧ s104.2.2.1 46 7 = s.2.2.1 46 7 := by first | (intro h; exact absurd rfl h) | (intro h; exfalso; revert h; first | (unfold In at i39; omega) | (unfold In at i104; omega) | (unfold In at i144; omega))
              have n107h : (z104).toInt = 0 → 0 ≤ (s104.2.2.1 46 7).toInt := by intro _; rw [p104.2, ← e70a]; have a0 := oa13 ro_46_1 ((inv_F hIc46 448 28000 rfl v46_30_0)) ((inv_F hIc46 0 32 rfl v46_2_1)) ((inv_F hIc46 0 4000 rfl v46_2_0)) ((inv_F hIc46 0 1000 rfl v46_46_2)) i63 j46_4 j46_3 j46_2 ((in_c 1 rfl)) i93 i70b i70a; have oc := oc_136_1_46; omega
              have n107i : (z70a).toInt ≤ (u_46_1).toInt := by have a0 := oa13 ro_46_1 ((inv_F hIc46 448 28000 rfl v46_30_0)) ((inv_F hIc46 0 32 rfl v46_2_1)) ((inv_F hIc46 0 4000 rfl v46_2_0)) ((inv_F hIc46 0 1000 rfl v46_46_2)) i63 j46_4 j46_3 j46_2 ((in_c 1 rfl)) i93 i70b i70a; have oc := oc_136_1_46; omega
              have n107j : (s104.2.2.1 46 2).toInt ≤ (s104.2.2.1 46 1).toInt := by have b0 : z70a = s104.2.2.1 46 2 := fr_F (e70) hF104 rfl; have b1 : u_46_1 = s104.2.2.1 46 1 := fr_F (fr_F (fr_F e_46_1 hFc46 rfl) hF70 rfl) hF104 rfl; rw [← b0, ← b1]; exact n107i
              have n107k : (u_2_0).toInt ≤ (w46_2_0).toInt := by first | exact n46_1 | (have a0 := oa13 ro_46_1 ((inv_F hIc46 448 28000 rfl v46_30_0)) ((inv_F hIc46 0 32 rfl v46_2_1)) ((inv_F hIc46 0 4000 rfl v46_2_0)) ((inv_F hIc46 0 1000 rfl v46_46_2)) i63 j46_4 j46_3 j46_2 ((in_c 1 rfl)) i93 i70b i70a; have oc := oc_136_1_46; omega)
              have n107l : (s.2.2.1 2 0).toInt ≤ (s104.2.2.1 2 0).toInt := by have b0 : w46_2_0 = s104.2.2.1 2 0 := fr_F (fr_F (v46_2_0) hF70 rfl) hF104 rfl; first | (rw [← b0, ← e_2_0]; exact n107k) | (rw [← b0]; exact n107k)
              exact g_ireturn (gd rfl) rfl (nb01 (in_w 0 1 i104 rfl)) (hP _ _ ⟨(A 30), s104, hI104, (fr_tr rfl (fr_tr rfl hFc46 hF70) hF104), n107j, n107l, z104, rfl, (by rw [ax_id]), in_w 0 1 i104 rfl, n107, n107a, n107b, n107c, n107d, n107e, n107f, n107g, n107h⟩)
  refine g_enter2 (k := 136) (N := 6301) (by first | exact dq1 hd rfl | exact dq0 hd rfl | exact dq2 hd rfl | exact dq3 hd rfl | omega) rfl (Nat.le_of_ble_eq_true rfl) ?_
  refine g_aload_n 1 (gd rfl) rfl rfl ?_
  refine g_getI 4 (gd rfl) rfl rfl rfl (fun z1 e1 => ?_)
  have q1 : u_46_4 = z1 := (e_46_4).trans e1.symm
  subst q1
  refine g_istore_n 5 (gd rfl) rfl (Nat.le_of_ble_eq_true rfl) ?_
  refine g_aload_n 6 (gd rfl) rfl rfl ?_
  refine g_getI 9 (gd rfl) rfl rfl rfl (fun z6 e6 => ?_)
  have q6 : u_46_3 = z6 := (e_46_3).trans e6.symm
  subst q6
  refine g_iconst 1 10 (gd rfl) rfl rfl ?_
  refine g_cmp_ne 13 20 (gd rfl) rfl rfl (fun c10 => ?_) (fun c10 => ?_)
  · skip
    refine g_iconst (-1) 21 (gd rfl) rfl rfl ?_
    refine g_istore_n 22 (gd rfl) rfl (Nat.le_of_ble_eq_true rfl) ?_
    refine g_iload_n 23 (gd rfl) rfl rfl ?_
    refine g_calls (As := [.int (Int32.ofInt (-1))]) (r := []) 26 (gd rfl) rfl rfl rfl rfl rfl (Nat.le_of_ble_eq_true rfl) (mc := 0) (ms := 0) (Nat.zero_le _) (Nat.zero_le _) (P := fun v u => _) ?_ (fun v u h => h)
    intro po23 xx23 hp23 hx23
    refine g_enter2 (k := 137) (N := 300) (by first | exact dq1 hd rfl | exact dq0 hd rfl | exact dq2 hd rfl | exact dq3 hd rfl | omega) rfl (Nat.le_of_ble_eq_true rfl) ?_
    refine g_iload_n 1 (gd rfl) rfl rfl ?_
    refine g_lsw [(0, 47), (13, 44), (19, 50), (22, 53)] 56 (gd rfl) rfl rfl rfl ⟨fun c23x1 => ?_, fun c23x1_0 => ⟨fun c23x1 => ?_, fun c23x1_1 => ⟨fun c23x1 => ?_, fun c23x1_2 => ⟨fun c23x1 => ?_, fun c23x1_3 => ?_⟩⟩⟩⟩
    · skip
      exact sw_ne c23x1 (in_c (-1) rfl) rfl
    · skip
      exact sw_ne c23x1 (in_c (-1) rfl) rfl
    · skip
      exact sw_ne c23x1 (in_c (-1) rfl) rfl
    · skip
      exact sw_ne c23x1 (in_c (-1) rfl) rfl
    · skip
      refine g_ldcs 5 58 (gd rfl) rfl rfl ?_
      refine g_areturn (gd rfl) rfl (hp23 _ _ ?_)
      show GG _ _ _ _ _ _ _ _ [.ref (zq Z (Int32.ofInt 5))] _ _ _
      refine g_astore 28 (gd rfl) rfl (Nat.le_of_ble_eq_true rfl) ?_
      refine g_aload 30 (gd rfl) rfl rfl ?_
      have i30 : In (Int32.ofInt 5) 0 6 := in_w 0 6 (in_c 5 rfl) rfl
      refine g_callS (X := _) (As := []) (r := []) (x := (Int32.ofInt 5)) 33 (gd rfl) rfl rfl rfl zm_428 rfl rfl rfl i30 (Nat.le_of_ble_eq_true rfl) (f_428 i30 (by omega)) (fun e u h => h) (fun v u h => ?_)
      obtain ⟨z30, rfl, rfl, i30a, p30, p30a⟩ := h
      show GG _ _ _ _ _ _ _ _ [.int z30] _ _ _
      refine g_if_eq 36 43 (gd rfl) rfl rfl (fun c33 => ?_) (fun c33 => ?_)
      · skip
        have i33 := z_eq 0 0 c33 i30a rfl
        refine g_iconst 0 44 (gd rfl) rfl rfl ?_
        refine g_istore 46 (gd rfl) rfl (Nat.le_of_ble_eq_true rfl) ?_
        have n46 : (u_46_2).toInt ≤ (u_46_1).toInt := by have a0 := oa9 ((inv_F hI 0 1000 rfl e_46_4)) ((inv_F hI 0 5 rfl e_46_3)) ((inv_F hI 0 1000 rfl e_46_1)) ((inv_F hI 0 1000 rfl e_46_2)) ((inv_F hI 448 28000 rfl e_30_0)) ((inv_F hI 0 32 rfl e_2_1)) ((inv_F hI 0 4000 rfl e_2_0)) ((in_c 0 rfl)) ((in_c (-1) rfl)); have oc := oc_136_1_46; omega
        have n46a : (u_2_0).toInt ≤ (u_2_0).toInt := by exact Int.le_refl _
        have n46b : ((Int32.ofInt (-1))).toInt = 13 → ((Int32.ofInt 5)).toInt = 1 := by exact fun h => absurd h (by decide)
        have n46c : ((Int32.ofInt 5)).toInt = 1 → 1 ≤ ((Int32.ofInt 0)).toInt → In (s.1 31 0) 0 25 := by intro _ h; exfalso; revert h; decide
        have n46d : Fr ([31], [], [(46, 2), (46, 3), (46, 4), (46, 5), (46, 6), (46, 7)], []) s s := by exact fr_rf
        have n46e : SHQ ((Int32.ofInt (-1))).toInt ((Int32.ofInt 5)).toInt := by first | (exfalso; have h9 := p30 (by have a0 := oa9 ((inv_F hI 0 1000 rfl e_46_4)) ((inv_F hI 0 5 rfl e_46_3)) ((inv_F hI 0 1000 rfl e_46_1)) ((inv_F hI 0 1000 rfl e_46_2)) ((inv_F hI 448 28000 rfl e_30_0)) ((inv_F hI 0 32 rfl e_2_1)) ((inv_F hI 0 4000 rfl e_2_0)) ((in_c 0 rfl)) ((in_c (-1) rfl)); have oc := oc_136_1_46; omega); revert h9; decide) | exact Or.inl ⟨by have a0 := oa9 ((inv_F hI 0 1000 rfl e_46_4)) ((inv_F hI 0 5 rfl e_46_3)) ((inv_F hI 0 1000 rfl e_46_1)) ((inv_F hI 0 1000 rfl e_46_2)) ((inv_F hI 448 28000 rfl e_30_0)) ((inv_F hI 0 32 rfl e_2_1)) ((inv_F hI 0 4000 rfl e_2_0)) ((in_c 0 rfl)) ((in_c (-1) rfl)); have oc := oc_136_1_46; omega, by decide⟩ | exact Or.inr (Or.inl ⟨by have a0 := oa9 ((inv_F hI 0 1000 rfl e_46_4)) ((inv_F hI 0 5 rfl e_46_3)) ((inv_F hI 0 1000 rfl e_46_1)) ((inv_F hI 0 1000 rfl e_46_2)) ((inv_F hI 448 28000 rfl e_30_0)) ((inv_F hI 0 32 rfl e_2_1)) ((inv_F hI 0 4000 rfl e_2_0)) ((in_c 0 rfl)) ((in_c (-1) rfl)); have oc := oc_136_1_46; omega, by decide⟩) | exact Or.inr (Or.inr (Or.inl ⟨by have a0 := oa9 ((inv_F hI 0 1000 rfl e_46_4)) ((inv_F hI 0 5 rfl e_46_3)) ((inv_F hI 0 1000 rfl e_46_1)) ((inv_F hI 0 1000 rfl e_46_2)) ((inv_F hI 448 28000 rfl e_30_0)) ((inv_F hI 0 32 rfl e_2_1)) ((inv_F hI 0 4000 rfl e_2_0)) ((in_c 0 rfl)) ((in_c (-1) rfl)); have oc := oc_136_1_46; omega, by decide⟩)) | exact Or.inr (Or.inr (Or.inr ⟨by have a0 := oa9 ((inv_F hI 0 1000 rfl e_46_4)) ((inv_F hI 0 5 rfl e_46_3)) ((inv_F hI 0 1000 rfl e_46_1)) ((inv_F hI 0 1000 rfl e_46_2)) ((inv_F hI 448 28000 rfl e_30_0)) ((inv_F hI 0 32 rfl e_2_1)) ((inv_F hI 0 4000 rfl e_2_0)) ((in_c 0 rfl)) ((in_c (-1) rfl)); have oc := oc_136_1_46; omega, by decide⟩))
        have n46f : (s.2.2.1 46 3).toInt = 1 ∧ (s.2.2.1 46 5).toInt = ((Int32.ofInt (-1))).toInt ∧ (u_46_4) = s.2.2.1 46 4 := by first | (exfalso; have h9 := p30 (by have a0 := oa9 ((inv_F hI 0 1000 rfl e_46_4)) ((inv_F hI 0 5 rfl e_46_3)) ((inv_F hI 0 1000 rfl e_46_1)) ((inv_F hI 0 1000 rfl e_46_2)) ((inv_F hI 448 28000 rfl e_30_0)) ((inv_F hI 0 32 rfl e_2_1)) ((inv_F hI 0 4000 rfl e_2_0)) ((in_c 0 rfl)) ((in_c (-1) rfl)); have oc := oc_136_1_46; omega); revert h9; decide) | exact ⟨by rw [← e_46_3]; have a0 := oa9 ((inv_F hI 0 1000 rfl e_46_4)) ((inv_F hI 0 5 rfl e_46_3)) ((inv_F hI 0 1000 rfl e_46_1)) ((inv_F hI 0 1000 rfl e_46_2)) ((inv_F hI 448 28000 rfl e_30_0)) ((inv_F hI 0 32 rfl e_2_1)) ((inv_F hI 0 4000 rfl e_2_0)) ((in_c 0 rfl)) ((in_c (-1) rfl)); have oc := oc_136_1_46; omega, by rw [← e_46_5], e_46_4⟩
        have n46g : ((Int32.ofInt 0)).toInt ≤ (cmA ((Int32.ofInt (-1))).toInt : Int) := by exact Int.natCast_nonneg _
        have n46h : ∀ a : Nat, TKN (s.1 47) (s.2.2.1 46 1).toInt.toNat a (s.2.2.1 46 4).toInt.toNat (s.2.2.1 46 2).toInt.toNat (s.2.2.1 46 3).toInt (s.2.2.1 46 5).toInt → (∀ j, j < ((Int32.ofInt 0)).toInt.toNat → ∃ q f, TSQ (s.1 47) (s.2.2.1 46 1).toInt.toNat a (j + 1) q f (cmK ((Int32.ofInt (-1))).toInt (j + 1)) (s.1 31 j).toInt) ∧ ∃ p k v, TSQ (s.1 47) (s.2.2.1 46 1).toInt.toNat a ((Int32.ofInt 0)).toInt.toNat p (u_46_2).toInt.toNat k v := by intro a ha; exact ⟨fun j hj => absurd hj (by have h9 : (Int32.ofInt 0).toInt.toNat = 0 := rfl; omega), _, _, _, by rw [e_46_2]; exact ha⟩
        have n46i : s.2.2.1 46 6 = s.2.2.1 46 6 ∧ s.2.2.1 46 7 = s.2.2.1 46 7 := by exact ⟨rfl, rfl⟩
        exact gg_w (by first | exact Nat.le_of_ble_eq_true rfl | omega) (gg_f (gf_cons rfl (gf_cons rfl (gf_cons rfl (gf_cons rfl (gf_cons rfl (gf_cons rfl gf_nil)))))) (ct46 6 s u_46_4 (Int32.ofInt (-1)) (Int32.ofInt 5) (Int32.ofInt 0) u_46_2 u_2_0 u_2_1 u_30_0 hI fr_rf (in_w 0 1000 (inv_F hI 0 1000 rfl e_46_4) rfl) (in_w (-1) 25 (in_c (-1) rfl) rfl) (in_w 1 5 (in_c 5 rfl) rfl) (in_w 0 5 (in_c 0 rfl) rfl) e_46_2 e_2_0 e_2_1 e_30_0 n46 n46a n46b n46c n46d n46e n46f n46g n46h n46i (m_in 6 (in_w 0 5 (in_c 0 rfl) rfl) rfl)))
      · skip
        have i33 := z_ne 1 1 c33 i30a rfl
        refine g_aload_n 37 (gd rfl) rfl rfl ?_
        refine g_iconst 2 38 (gd rfl) rfl rfl ?_
        refine g_iconst 3 39 (gd rfl) rfl rfl ?_
        refine g_callv (X := _) (As := [.int (Int32.ofInt 2), .int (Int32.ofInt 3)]) (r := []) (b := A 46) (q := 46) 42 (gd rfl) rfl rfl rfl rfl rfl (ww_o rfl) (Nat.le_of_ble_eq_true rfl) (Nat.zero_le _) (Nat.zero_le _) (f_169_46 (by first | exact dq1 hd rfl | exact dq0 hd rfl | exact dq2 hd rfl | exact dq3 hd rfl | omega) hI (in_w 2 2 (in_c 2 rfl) rfl) (in_w 3 3 (in_c 3 rfl) rfl) e_46_3 e_46_4) (fun e u h => h) (fun v u h => ?_)
        obtain ⟨s39, hI39, hF39, z39, rfl, rfl, i39, p39⟩ := h
        show GG _ _ _ _ _ _ _ _ [.int z39] _ _ _
        have n42 : KL s39 := by have hL9 : Fr ([31], [], [(46, 2), (46, 3), (46, 4), (46, 5), (46, 6), (46, 7)], []) s s39 := (fr_tr rfl fr_rf hF39); exact kl_fr q_0 hL9 rfl
        have n42a : (z39).toInt ≠ 0 → (s39.2.2.1 30 0).toInt = nln s := by first | (intro h; exact absurd rfl h) | (intro h; exfalso; revert h; first | (unfold In at i39; omega) | (unfold In at i104; omega) | (unfold In at i144; omega))
        have n42b : (z39).toInt ≠ 0 → (s.2.2.1 2 0).toInt ≤ 3999 := by first | (intro h; exact absurd rfl h) | (intro h; exfalso; revert h; first | (unfold In at i39; omega) | (unfold In at i104; omega) | (unfold In at i144; omega))
        have n42c : ∀ k : Nat, (k : Int) < 7 * (s.2.2.1 2 0).toInt → s39.1 30 k = s.1 30 k := by have hL9 : Fr ([31], [], [(46, 2), (46, 3), (46, 4), (46, 5), (46, 6), (46, 7)], []) s s39 := (fr_tr rfl fr_rf hF39); exact fun k _ => by rw [hL9.1 30 rfl]
        have n42d : (z39).toInt ≠ 0 → ∀ a : Nat, TKN (s.1 47) (s.2.2.1 46 1).toInt.toNat a (s.2.2.1 46 4).toInt.toNat (s.2.2.1 46 2).toInt.toNat (s.2.2.1 46 3).toInt (s.2.2.1 46 5).toInt → ∃ c V, CMP (s.1 47) (s.2.2.1 46 1).toInt.toNat a (s.2.2.1 46 4).toInt.toNat c V (s39.2.2.1 46 2).toInt.toNat ∧ dkC (gvC s) c V ∧ gvC s39 = opC (gvC s) c V := by first | (intro h; exact absurd rfl h) | (intro h; exfalso; revert h; first | (unfold In at i39; omega) | (unfold In at i104; omega) | (unfold In at i144; omega))
        have n42e : (z39).toInt = 0 → ∀ a : Nat, TKN (s.1 47) (s.2.2.1 46 1).toInt.toNat a (s.2.2.1 46 4).toInt.toNat (s.2.2.1 46 2).toInt.toNat (s.2.2.1 46 3).toInt (s.2.2.1 46 5).toInt → CMX (s.1 47) (s.2.2.1 46 1).toInt.toNat a (s39.2.2.1 46 6).toInt (s39.2.2.1 46 7).toInt.toNat ∨ ∃ c V e, CMP (s.1 47) (s.2.2.1 46 1).toInt.toNat a (s39.2.2.1 46 7).toInt.toNat c V e ∧ ¬ dkC (gvC s) c V ∧ (s39.2.2.1 46 6).toInt = 4 := by intro _ a ha; refine Or.inl (Or.inl ⟨_, _, _, by rw [p39.2]; exact ha, q_4, ?_, p39.1⟩); first | (rintro ⟨h8, h9⟩; rw [← e_46_3] at h8; have a0 := oa8 ((inv_F hI 0 1000 rfl e_46_4)) ((inv_F hI 0 5 rfl e_46_3)) ((inv_F hI 0 1000 rfl e_46_1)) ((inv_F hI 0 1000 rfl e_46_2)) ((inv_F hI 448 28000 rfl e_30_0)) ((inv_F hI 0 32 rfl e_2_1)) ((inv_F hI 0 4000 rfl e_2_0)) ((in_c (-1) rfl)); have oc := oc_136_1_46; omega) | (rintro ⟨h8, h9⟩; rw [← e_46_5] at h9; unfold cmI at h9; have a0 := oa8 ((inv_F hI 0 1000 rfl e_46_4)) ((inv_F hI 0 5 rfl e_46_3)) ((inv_F hI 0 1000 rfl e_46_1)) ((inv_F hI 0 1000 rfl e_46_2)) ((inv_F hI 448 28000 rfl e_30_0)) ((inv_F hI 0 32 rfl e_2_1)) ((inv_F hI 0 4000 rfl e_2_0)) ((in_c (-1) rfl)); have oc := oc_136_1_46; omega) | (exfalso; have h9 := p30a (by have a0 := oa8 ((inv_F hI 0 1000 rfl e_46_4)) ((inv_F hI 0 5 rfl e_46_3)) ((inv_F hI 0 1000 rfl e_46_1)) ((inv_F hI 0 1000 rfl e_46_2)) ((inv_F hI 448 28000 rfl e_30_0)) ((inv_F hI 0 32 rfl e_2_1)) ((inv_F hI 0 4000 rfl e_2_0)) ((in_c (-1) rfl)); have oc := oc_136_1_46; omega); revert h9; decide)
        have n42f : (z39).toInt ≠ 0 → TQ s39 := by first | (intro h; exact absurd rfl h) | (intro h; exfalso; revert h; first | (unfold In at i39; omega) | (unfold In at i104; omega) | (unfold In at i144; omega))
        have n42g : (z39).toInt ≠ 0 → s39.2.2.1 46 6 = s.2.2.1 46 6 ∧ s39.2.2.1 46 7 = s.2.2.1 46 7 := by first | (intro h; exact absurd rfl h) | (intro h; exfalso; revert h; first | (unfold In at i39; omega) | (unfold In at i104; omega) | (unfold In at i144; omega))
        have n42h : (z39).toInt = 0 → 0 ≤ (s39.2.2.1 46 7).toInt := by intro _; rw [p39.2, ← e_46_4]; have a0 := oa8 ((inv_F hI 0 1000 rfl e_46_4)) ((inv_F hI 0 5 rfl e_46_3)) ((inv_F hI 0 1000 rfl e_46_1)) ((inv_F hI 0 1000 rfl e_46_2)) ((inv_F hI 448 28000 rfl e_30_0)) ((inv_F hI 0 32 rfl e_2_1)) ((inv_F hI 0 4000 rfl e_2_0)) ((in_c (-1) rfl)); have oc := oc_136_1_46; omega
        have n42i : (u_46_2).toInt ≤ (u_46_1).toInt := by have a0 := oa8 ((inv_F hI 0 1000 rfl e_46_4)) ((inv_F hI 0 5 rfl e_46_3)) ((inv_F hI 0 1000 rfl e_46_1)) ((inv_F hI 0 1000 rfl e_46_2)) ((inv_F hI 448 28000 rfl e_30_0)) ((inv_F hI 0 32 rfl e_2_1)) ((inv_F hI 0 4000 rfl e_2_0)) ((in_c (-1) rfl)); have oc := oc_136_1_46; omega
        have n42j : (s39.2.2.1 46 2).toInt ≤ (s39.2.2.1 46 1).toInt := by have b0 : u_46_2 = s39.2.2.1 46 2 := fr_F (e_46_2) hF39 rfl; have b1 : u_46_1 = s39.2.2.1 46 1 := fr_F (e_46_1) hF39 rfl; rw [← b0, ← b1]; exact n42i
        have n42k : (u_2_0).toInt ≤ (u_2_0).toInt := by exact Int.le_refl _
        have n42l : (s.2.2.1 2 0).toInt ≤ (s39.2.2.1 2 0).toInt := by have b0 : u_2_0 = s39.2.2.1 2 0 := fr_F (e_2_0) hF39 rfl; first | (rw [← b0, ← e_2_0]; exact n42k) | (rw [← b0]; exact n42k)
        exact g_ireturn (gd rfl) rfl (nb01 (in_w 0 1 i39 rfl)) (hP _ _ ⟨(A 30), s39, hI39, (fr_tr rfl fr_rf hF39), n42j, n42l, z39, rfl, (by rw [ax_id]), in_w 0 1 i39 rfl, n42, n42a, n42b, n42c, n42d, n42e, n42f, n42g, n42h⟩)
  · skip
    have i10 := r_eq1 1 1 c10 (inv_F hI 0 5 rfl e_46_3) (in_c 1 rfl) rfl
    refine g_aload_n 14 (gd rfl) rfl rfl ?_
    refine g_getI 17 (gd rfl) rfl rfl rfl (fun z14 e14 => ?_)
    have q14 : u_46_5 = z14 := (e_46_5).trans e14.symm
    subst q14
    have i17 : In u_46_5 0 25 := by rw [e14]; exact q_1 (by rw [← e6]; exact c10.trans (by decide))
    refine g_goto 21 (gd rfl) rfl ?_
    refine g_istore_n 22 (gd rfl) rfl (Nat.le_of_ble_eq_true rfl) ?_
    refine g_iload_n 23 (gd rfl) rfl rfl ?_
    refine g_calls (As := [.int u_46_5]) (r := []) 26 (gd rfl) rfl rfl rfl rfl rfl (Nat.le_of_ble_eq_true rfl) (mc := 0) (ms := 0) (Nat.zero_le _) (Nat.zero_le _) (P := fun v u => _) ?_ (fun v u h => h)
    intro po23 xx23 hp23 hx23
    refine g_enter2 (k := 137) (N := 300) (by first | exact dq1 hd rfl | exact dq0 hd rfl | exact dq2 hd rfl | exact dq3 hd rfl | omega) rfl (Nat.le_of_ble_eq_true rfl) ?_
    refine g_iload_n 1 (gd rfl) rfl rfl ?_
    refine g_lsw [(0, 47), (13, 44), (19, 50), (22, 53)] 56 (gd rfl) rfl rfl rfl ⟨fun c23x1 => ?_, fun c23x1_0 => ⟨fun c23x1 => ?_, fun c23x1_1 => ⟨fun c23x1 => ?_, fun c23x1_2 => ⟨fun c23x1 => ?_, fun c23x1_3 => ?_⟩⟩⟩⟩
    · skip
      have i23x1 := sw_eq c23x1
      refine g_ldcs 2 49 (gd rfl) rfl rfl ?_
      refine g_areturn (gd rfl) rfl (hp23 _ _ ?_)
      show GG _ _ _ _ _ _ _ _ [.ref (zq Z (Int32.ofInt 2))] _ _ _
      refine g_astore 28 (gd rfl) rfl (Nat.le_of_ble_eq_true rfl) ?_
      refine g_aload 30 (gd rfl) rfl rfl ?_
      have i30 : In (Int32.ofInt 2) 0 6 := in_w 0 6 (in_c 2 rfl) rfl
      refine g_callS (X := _) (As := []) (r := []) (x := (Int32.ofInt 2)) 33 (gd rfl) rfl rfl rfl zm_428 rfl rfl rfl i30 (Nat.le_of_ble_eq_true rfl) (f_428 i30 (by omega)) (fun e u h => h) (fun v u h => ?_)
      obtain ⟨z30, rfl, rfl, i30a, p30, p30a⟩ := h
      show GG _ _ _ _ _ _ _ _ [.int z30] _ _ _
      refine g_if_eq 36 43 (gd rfl) rfl rfl (fun c33 => ?_) (fun c33 => ?_)
      · skip
        have i33 := z_eq 0 0 c33 i30a rfl
        refine g_iconst 0 44 (gd rfl) rfl rfl ?_
        refine g_istore 46 (gd rfl) rfl (Nat.le_of_ble_eq_true rfl) ?_
        have n46 : (u_46_2).toInt ≤ (u_46_1).toInt := by have a0 := oa9 i23x1 ((inv_F hI 0 1000 rfl e_46_4)) i10 ((inv_F hI 0 1000 rfl e_46_1)) ((inv_F hI 0 1000 rfl e_46_2)) ((inv_F hI 448 28000 rfl e_30_0)) ((inv_F hI 0 32 rfl e_2_1)) ((inv_F hI 0 4000 rfl e_2_0)) ((in_c 0 rfl)); have oc := oc_136_1_46; omega
        have n46a : (u_2_0).toInt ≤ (u_2_0).toInt := by exact Int.le_refl _
        have n46b : (u_46_5).toInt = 13 → ((Int32.ofInt 2)).toInt = 1 := by intro h; first | decide | (exfalso; have a0 := oa9 i23x1 ((inv_F hI 0 1000 rfl e_46_4)) i10 ((inv_F hI 0 1000 rfl e_46_1)) ((inv_F hI 0 1000 rfl e_46_2)) ((inv_F hI 448 28000 rfl e_30_0)) ((inv_F hI 0 32 rfl e_2_1)) ((inv_F hI 0 4000 rfl e_2_0)) ((in_c 0 rfl)); have oc := oc_136_1_46; omega)
        have n46c : ((Int32.ofInt 2)).toInt = 1 → 1 ≤ ((Int32.ofInt 0)).toInt → In (s.1 31 0) 0 25 := by intro _ h; exfalso; revert h; decide
        have n46d : Fr ([31], [], [(46, 2), (46, 3), (46, 4), (46, 5), (46, 6), (46, 7)], []) s s := by exact fr_rf
        have n46e : SHQ (u_46_5).toInt ((Int32.ofInt 2)).toInt := by first | (exfalso; have h9 := p30 (by have a0 := oa9 i23x1 ((inv_F hI 0 1000 rfl e_46_4)) i10 ((inv_F hI 0 1000 rfl e_46_1)) ((inv_F hI 0 1000 rfl e_46_2)) ((inv_F hI 448 28000 rfl e_30_0)) ((inv_F hI 0 32 rfl e_2_1)) ((inv_F hI 0 4000 rfl e_2_0)) ((in_c 0 rfl)); have oc := oc_136_1_46; omega); revert h9; decide) | exact Or.inl ⟨by have a0 := oa9 i23x1 ((inv_F hI 0 1000 rfl e_46_4)) i10 ((inv_F hI 0 1000 rfl e_46_1)) ((inv_F hI 0 1000 rfl e_46_2)) ((inv_F hI 448 28000 rfl e_30_0)) ((inv_F hI 0 32 rfl e_2_1)) ((inv_F hI 0 4000 rfl e_2_0)) ((in_c 0 rfl)); have oc := oc_136_1_46; omega, by decide⟩ | exact Or.inr (Or.inl ⟨by have a0 := oa9 i23x1 ((inv_F hI 0 1000 rfl e_46_4)) i10 ((inv_F hI 0 1000 rfl e_46_1)) ((inv_F hI 0 1000 rfl e_46_2)) ((inv_F hI 448 28000 rfl e_30_0)) ((inv_F hI 0 32 rfl e_2_1)) ((inv_F hI 0 4000 rfl e_2_0)) ((in_c 0 rfl)); have oc := oc_136_1_46; omega, by decide⟩) | exact Or.inr (Or.inr (Or.inl ⟨by have a0 := oa9 i23x1 ((inv_F hI 0 1000 rfl e_46_4)) i10 ((inv_F hI 0 1000 rfl e_46_1)) ((inv_F hI 0 1000 rfl e_46_2)) ((inv_F hI 448 28000 rfl e_30_0)) ((inv_F hI 0 32 rfl e_2_1)) ((inv_F hI 0 4000 rfl e_2_0)) ((in_c 0 rfl)); have oc := oc_136_1_46; omega, by decide⟩)) | exact Or.inr (Or.inr (Or.inr ⟨by have a0 := oa9 i23x1 ((inv_F hI 0 1000 rfl e_46_4)) i10 ((inv_F hI 0 1000 rfl e_46_1)) ((inv_F hI 0 1000 rfl e_46_2)) ((inv_F hI 448 28000 rfl e_30_0)) ((inv_F hI 0 32 rfl e_2_1)) ((inv_F hI 0 4000 rfl e_2_0)) ((in_c 0 rfl)); have oc := oc_136_1_46; omega, by decide⟩))
        have n46f : (s.2.2.1 46 3).toInt = 1 ∧ (s.2.2.1 46 5).toInt = (u_46_5).toInt ∧ (u_46_4) = s.2.2.1 46 4 := by first | (exfalso; have h9 := p30 (by have a0 := oa9 i23x1 ((inv_F hI 0 1000 rfl e_46_4)) i10 ((inv_F hI 0 1000 rfl e_46_1)) ((inv_F hI 0 1000 rfl e_46_2)) ((inv_F hI 448 28000 rfl e_30_0)) ((inv_F hI 0 32 rfl e_2_1)) ((inv_F hI 0 4000 rfl e_2_0)) ((in_c 0 rfl)); have oc := oc_136_1_46; omega); revert h9; decide) | exact ⟨by rw [← e_46_3]; have a0 := oa9 i23x1 ((inv_F hI 0 1000 rfl e_46_4)) i10 ((inv_F hI 0 1000 rfl e_46_1)) ((inv_F hI 0 1000 rfl e_46_2)) ((inv_F hI 448 28000 rfl e_30_0)) ((inv_F hI 0 32 rfl e_2_1)) ((inv_F hI 0 4000 rfl e_2_0)) ((in_c 0 rfl)); have oc := oc_136_1_46; omega, by rw [← e_46_5], e_46_4⟩
        have n46g : ((Int32.ofInt 0)).toInt ≤ (cmA (u_46_5).toInt : Int) := by exact Int.natCast_nonneg _
        have n46h : ∀ a : Nat, TKN (s.1 47) (s.2.2.1 46 1).toInt.toNat a (s.2.2.1 46 4).toInt.toNat (s.2.2.1 46 2).toInt.toNat (s.2.2.1 46 3).toInt (s.2.2.1 46 5).toInt → (∀ j, j < ((Int32.ofInt 0)).toInt.toNat → ∃ q f, TSQ (s.1 47) (s.2.2.1 46 1).toInt.toNat a (j + 1) q f (cmK (u_46_5).toInt (j + 1)) (s.1 31 j).toInt) ∧ ∃ p k v, TSQ (s.1 47) (s.2.2.1 46 1).toInt.toNat a ((Int32.ofInt 0)).toInt.toNat p (u_46_2).toInt.toNat k v := by intro a ha; exact ⟨fun j hj => absurd hj (by have h9 : (Int32.ofInt 0).toInt.toNat = 0 := rfl; omega), _, _, _, by rw [e_46_2]; exact ha⟩
        have n46i : s.2.2.1 46 6 = s.2.2.1 46 6 ∧ s.2.2.1 46 7 = s.2.2.1 46 7 := by exact ⟨rfl, rfl⟩
        exact gg_w (by first | exact Nat.le_of_ble_eq_true rfl | omega) (gg_f (gf_cons rfl (gf_cons rfl (gf_cons rfl (gf_cons rfl (gf_cons rfl (gf_cons rfl gf_nil)))))) (ct46 6 s u_46_4 u_46_5 (Int32.ofInt 2) (Int32.ofInt 0) u_46_2 u_2_0 u_2_1 u_30_0 hI fr_rf (in_w 0 1000 (inv_F hI 0 1000 rfl e_46_4) rfl) (in_w (-1) 25 i23x1 rfl) (in_w 1 5 (in_c 2 rfl) rfl) (in_w 0 5 (in_c 0 rfl) rfl) e_46_2 e_2_0 e_2_1 e_30_0 n46 n46a n46b n46c n46d n46e n46f n46g n46h n46i (m_in 6 (in_w 0 5 (in_c 0 rfl) rfl) rfl)))
      · skip
        have i33 := z_ne 1 1 c33 i30a rfl
        refine g_aload_n 37 (gd rfl) rfl rfl ?_
        refine g_iconst 2 38 (gd rfl) rfl rfl ?_
        refine g_iconst 3 39 (gd rfl) rfl rfl ?_
        refine g_callv (X := _) (As := [.int (Int32.ofInt 2), .int (Int32.ofInt 3)]) (r := []) (b := A 46) (q := 46) 42 (gd rfl) rfl rfl rfl rfl rfl (ww_o rfl) (Nat.le_of_ble_eq_true rfl) (Nat.zero_le _) (Nat.zero_le _) (f_169_46 (by first | exact dq1 hd rfl | exact dq0 hd rfl | exact dq2 hd rfl | exact dq3 hd rfl | omega) hI (in_w 2 2 (in_c 2 rfl) rfl) (in_w 3 3 (in_c 3 rfl) rfl) e_46_3 e_46_4) (fun e u h => h) (fun v u h => ?_)
        obtain ⟨s39, hI39, hF39, z39, rfl, rfl, i39, p39⟩ := h
        show GG _ _ _ _ _ _ _ _ [.int z39] _ _ _
        have n42 : KL s39 := by have hL9 : Fr ([31], [], [(46, 2), (46, 3), (46, 4), (46, 5), (46, 6), (46, 7)], []) s s39 := (fr_tr rfl fr_rf hF39); exact kl_fr q_0 hL9 rfl
        have n42a : (z39).toInt ≠ 0 → (s39.2.2.1 30 0).toInt = nln s := by first | (intro h; exact absurd rfl h) | (intro h; exfalso; revert h; first | (unfold In at i39; omega) | (unfold In at i104; omega) | (unfold In at i144; omega))
        have n42b : (z39).toInt ≠ 0 → (s.2.2.1 2 0).toInt ≤ 3999 := by first | (intro h; exact absurd rfl h) | (intro h; exfalso; revert h; first | (unfold In at i39; omega) | (unfold In at i104; omega) | (unfold In at i144; omega))
        have n42c : ∀ k : Nat, (k : Int) < 7 * (s.2.2.1 2 0).toInt → s39.1 30 k = s.1 30 k := by have hL9 : Fr ([31], [], [(46, 2), (46, 3), (46, 4), (46, 5), (46, 6), (46, 7)], []) s s39 := (fr_tr rfl fr_rf hF39); exact fun k _ => by rw [hL9.1 30 rfl]
        have n42d : (z39).toInt ≠ 0 → ∀ a : Nat, TKN (s.1 47) (s.2.2.1 46 1).toInt.toNat a (s.2.2.1 46 4).toInt.toNat (s.2.2.1 46 2).toInt.toNat (s.2.2.1 46 3).toInt (s.2.2.1 46 5).toInt → ∃ c V, CMP (s.1 47) (s.2.2.1 46 1).toInt.toNat a (s.2.2.1 46 4).toInt.toNat c V (s39.2.2.1 46 2).toInt.toNat ∧ dkC (gvC s) c V ∧ gvC s39 = opC (gvC s) c V := by first | (intro h; exact absurd rfl h) | (intro h; exfalso; revert h; first | (unfold In at i39; omega) | (unfold In at i104; omega) | (unfold In at i144; omega))
        have n42e : (z39).toInt = 0 → ∀ a : Nat, TKN (s.1 47) (s.2.2.1 46 1).toInt.toNat a (s.2.2.1 46 4).toInt.toNat (s.2.2.1 46 2).toInt.toNat (s.2.2.1 46 3).toInt (s.2.2.1 46 5).toInt → CMX (s.1 47) (s.2.2.1 46 1).toInt.toNat a (s39.2.2.1 46 6).toInt (s39.2.2.1 46 7).toInt.toNat ∨ ∃ c V e, CMP (s.1 47) (s.2.2.1 46 1).toInt.toNat a (s39.2.2.1 46 7).toInt.toNat c V e ∧ ¬ dkC (gvC s) c V ∧ (s39.2.2.1 46 6).toInt = 4 := by intro _ a ha; refine Or.inl (Or.inl ⟨_, _, _, by rw [p39.2]; exact ha, q_4, ?_, p39.1⟩); first | (rintro ⟨h8, h9⟩; rw [← e_46_3] at h8; have a0 := oa8 i23x1 ((inv_F hI 0 1000 rfl e_46_4)) i10 ((inv_F hI 0 1000 rfl e_46_1)) ((inv_F hI 0 1000 rfl e_46_2)) ((inv_F hI 448 28000 rfl e_30_0)) ((inv_F hI 0 32 rfl e_2_1)) ((inv_F hI 0 4000 rfl e_2_0)); have oc := oc_136_1_46; omega) | (rintro ⟨h8, h9⟩; rw [← e_46_5] at h9; unfold cmI at h9; have a0 := oa8 i23x1 ((inv_F hI 0 1000 rfl e_46_4)) i10 ((inv_F hI 0 1000 rfl e_46_1)) ((inv_F hI 0 1000 rfl e_46_2)) ((inv_F hI 448 28000 rfl e_30_0)) ((inv_F hI 0 32 rfl e_2_1)) ((inv_F hI 0 4000 rfl e_2_0)); have oc := oc_136_1_46; omega) | (exfalso; have h9 := p30a (by have a0 := oa8 i23x1 ((inv_F hI 0 1000 rfl e_46_4)) i10 ((inv_F hI 0 1000 rfl e_46_1)) ((inv_F hI 0 1000 rfl e_46_2)) ((inv_F hI 448 28000 rfl e_30_0)) ((inv_F hI 0 32 rfl e_2_1)) ((inv_F hI 0 4000 rfl e_2_0)); have oc := oc_136_1_46; omega); revert h9; decide)
        have n42f : (z39).toInt ≠ 0 → TQ s39 := by first | (intro h; exact absurd rfl h) | (intro h; exfalso; revert h; first | (unfold In at i39; omega) | (unfold In at i104; omega) | (unfold In at i144; omega))
        have n42g : (z39).toInt ≠ 0 → s39.2.2.1 46 6 = s.2.2.1 46 6 ∧ s39.2.2.1 46 7 = s.2.2.1 46 7 := by first | (intro h; exact absurd rfl h) | (intro h; exfalso; revert h; first | (unfold In at i39; omega) | (unfold In at i104; omega) | (unfold In at i144; omega))
        have n42h : (z39).toInt = 0 → 0 ≤ (s39.2.2.1 46 7).toInt := by intro _; rw [p39.2, ← e_46_4]; have a0 := oa8 i23x1 ((inv_F hI 0 1000 rfl e_46_4)) i10 ((inv_F hI 0 1000 rfl e_46_1)) ((inv_F hI 0 1000 rfl e_46_2)) ((inv_F hI 448 28000 rfl e_30_0)) ((inv_F hI 0 32 rfl e_2_1)) ((inv_F hI 0 4000 rfl e_2_0)); have oc := oc_136_1_46; omega
        have n42i : (u_46_2).toInt ≤ (u_46_1).toInt := by have a0 := oa8 i23x1 ((inv_F hI 0 1000 rfl e_46_4)) i10 ((inv_F hI 0 1000 rfl e_46_1)) ((inv_F hI 0 1000 rfl e_46_2)) ((inv_F hI 448 28000 rfl e_30_0)) ((inv_F hI 0 32 rfl e_2_1)) ((inv_F hI 0 4000 rfl e_2_0)); have oc := oc_136_1_46; omega
        have n42j : (s39.2.2.1 46 2).toInt ≤ (s39.2.2.1 46 1).toInt := by have b0 : u_46_2 = s39.2.2.1 46 2 := fr_F (e_46_2) hF39 rfl; have b1 : u_46_1 = s39.2.2.1 46 1 := fr_F (e_46_1) hF39 rfl; rw [← b0, ← b1]; exact n42i
        have n42k : (u_2_0).toInt ≤ (u_2_0).toInt := by exact Int.le_refl _
        have n42l : (s.2.2.1 2 0).toInt ≤ (s39.2.2.1 2 0).toInt := by have b0 : u_2_0 = s39.2.2.1 2 0 := fr_F (e_2_0) hF39 rfl; first | (rw [← b0, ← e_2_0]; exact n42k) | (rw [← b0]; exact n42k)
        exact g_ireturn (gd rfl) rfl (nb01 (in_w 0 1 i39 rfl)) (hP _ _ ⟨(A 30), s39, hI39, (fr_tr rfl fr_rf hF39), n42j, n42l, z39, rfl, (by rw [ax_id]), in_w 0 1 i39 rfl, n42, n42a, n42b, n42c, n42d, n42e, n42f, n42g, n42h⟩)
    · skip
      have i23x1 := sw_eq c23x1
      refine g_ldcs 1 46 (gd rfl) rfl rfl ?_
      refine g_areturn (gd rfl) rfl (hp23 _ _ ?_)
      show GG _ _ _ _ _ _ _ _ [.ref (zq Z (Int32.ofInt 1))] _ _ _
      refine g_astore 28 (gd rfl) rfl (Nat.le_of_ble_eq_true rfl) ?_
      refine g_aload 30 (gd rfl) rfl rfl ?_
      have i30 : In (Int32.ofInt 1) 0 6 := in_w 0 6 (in_c 1 rfl) rfl
      refine g_callS (X := _) (As := []) (r := []) (x := (Int32.ofInt 1)) 33 (gd rfl) rfl rfl rfl zm_428 rfl rfl rfl i30 (Nat.le_of_ble_eq_true rfl) (f_428 i30 (by omega)) (fun e u h => h) (fun v u h => ?_)
      obtain ⟨z30, rfl, rfl, i30a, p30, p30a⟩ := h
      show GG _ _ _ _ _ _ _ _ [.int z30] _ _ _
      refine g_if_eq 36 43 (gd rfl) rfl rfl (fun c33 => ?_) (fun c33 => ?_)
      · skip
        have i33 := z_eq 0 0 c33 i30a rfl
        refine g_iconst 0 44 (gd rfl) rfl rfl ?_
        refine g_istore 46 (gd rfl) rfl (Nat.le_of_ble_eq_true rfl) ?_
        have n46 : (u_46_2).toInt ≤ (u_46_1).toInt := by have a0 := oa9 i23x1 ((inv_F hI 0 1000 rfl e_46_4)) i10 ((inv_F hI 0 1000 rfl e_46_1)) ((inv_F hI 0 1000 rfl e_46_2)) ((inv_F hI 448 28000 rfl e_30_0)) ((inv_F hI 0 32 rfl e_2_1)) ((inv_F hI 0 4000 rfl e_2_0)) ((in_c 0 rfl)); have oc := oc_136_1_46; omega
        have n46a : (u_2_0).toInt ≤ (u_2_0).toInt := by exact Int.le_refl _
        have n46b : (u_46_5).toInt = 13 → ((Int32.ofInt 1)).toInt = 1 := by intro h; first | decide | (exfalso; have a0 := oa9 i23x1 ((inv_F hI 0 1000 rfl e_46_4)) i10 ((inv_F hI 0 1000 rfl e_46_1)) ((inv_F hI 0 1000 rfl e_46_2)) ((inv_F hI 448 28000 rfl e_30_0)) ((inv_F hI 0 32 rfl e_2_1)) ((inv_F hI 0 4000 rfl e_2_0)) ((in_c 0 rfl)); have oc := oc_136_1_46; omega)
        have n46c : ((Int32.ofInt 1)).toInt = 1 → 1 ≤ ((Int32.ofInt 0)).toInt → In (s.1 31 0) 0 25 := by intro _ h; exfalso; revert h; decide
        have n46d : Fr ([31], [], [(46, 2), (46, 3), (46, 4), (46, 5), (46, 6), (46, 7)], []) s s := by exact fr_rf
        have n46e : SHQ (u_46_5).toInt ((Int32.ofInt 1)).toInt := by first | (exfalso; have h9 := p30 (by have a0 := oa9 i23x1 ((inv_F hI 0 1000 rfl e_46_4)) i10 ((inv_F hI 0 1000 rfl e_46_1)) ((inv_F hI 0 1000 rfl e_46_2)) ((inv_F hI 448 28000 rfl e_30_0)) ((inv_F hI 0 32 rfl e_2_1)) ((inv_F hI 0 4000 rfl e_2_0)) ((in_c 0 rfl)); have oc := oc_136_1_46; omega); revert h9; decide) | exact Or.inl ⟨by have a0 := oa9 i23x1 ((inv_F hI 0 1000 rfl e_46_4)) i10 ((inv_F hI 0 1000 rfl e_46_1)) ((inv_F hI 0 1000 rfl e_46_2)) ((inv_F hI 448 28000 rfl e_30_0)) ((inv_F hI 0 32 rfl e_2_1)) ((inv_F hI 0 4000 rfl e_2_0)) ((in_c 0 rfl)); have oc := oc_136_1_46; omega, by decide⟩ | exact Or.inr (Or.inl ⟨by have a0 := oa9 i23x1 ((inv_F hI 0 1000 rfl e_46_4)) i10 ((inv_F hI 0 1000 rfl e_46_1)) ((inv_F hI 0 1000 rfl e_46_2)) ((inv_F hI 448 28000 rfl e_30_0)) ((inv_F hI 0 32 rfl e_2_1)) ((inv_F hI 0 4000 rfl e_2_0)) ((in_c 0 rfl)); have oc := oc_136_1_46; omega, by decide⟩) | exact Or.inr (Or.inr (Or.inl ⟨by have a0 := oa9 i23x1 ((inv_F hI 0 1000 rfl e_46_4)) i10 ((inv_F hI 0 1000 rfl e_46_1)) ((inv_F hI 0 1000 rfl e_46_2)) ((inv_F hI 448 28000 rfl e_30_0)) ((inv_F hI 0 32 rfl e_2_1)) ((inv_F hI 0 4000 rfl e_2_0)) ((in_c 0 rfl)); have oc := oc_136_1_46; omega, by decide⟩)) | exact Or.inr (Or.inr (Or.inr ⟨by have a0 := oa9 i23x1 ((inv_F hI 0 1000 rfl e_46_4)) i10 ((inv_F hI 0 1000 rfl e_46_1)) ((inv_F hI 0 1000 rfl e_46_2)) ((inv_F hI 448 28000 rfl e_30_0)) ((inv_F hI 0 32 rfl e_2_1)) ((inv_F hI 0 4000 rfl e_2_0)) ((in_c 0 rfl)); have oc := oc_136_1_46; omega, by decide⟩))
        have n46f : (s.2.2.1 46 3).toInt = 1 ∧ (s.2.2.1 46 5).toInt = (u_46_5).toInt ∧ (u_46_4) = s.2.2.1 46 4 := by first | (exfalso; have h9 := p30 (by have a0 := oa9 i23x1 ((inv_F hI 0 1000 rfl e_46_4)) i10 ((inv_F hI 0 1000 rfl e_46_1)) ((inv_F hI 0 1000 rfl e_46_2)) ((inv_F hI 448 28000 rfl e_30_0)) ((inv_F hI 0 32 rfl e_2_1)) ((inv_F hI 0 4000 rfl e_2_0)) ((in_c 0 rfl)); have oc := oc_136_1_46; omega); revert h9; decide) | exact ⟨by rw [← e_46_3]; have a0 := oa9 i23x1 ((inv_F hI 0 1000 rfl e_46_4)) i10 ((inv_F hI 0 1000 rfl e_46_1)) ((inv_F hI 0 1000 rfl e_46_2)) ((inv_F hI 448 28000 rfl e_30_0)) ((inv_F hI 0 32 rfl e_2_1)) ((inv_F hI 0 4000 rfl e_2_0)) ((in_c 0 rfl)); have oc := oc_136_1_46; omega, by rw [← e_46_5], e_46_4⟩
        have n46g : ((Int32.ofInt 0)).toInt ≤ (cmA (u_46_5).toInt : Int) := by exact Int.natCast_nonneg _
        have n46h : ∀ a : Nat, TKN (s.1 47) (s.2.2.1 46 1).toInt.toNat a (s.2.2.1 46 4).toInt.toNat (s.2.2.1 46 2).toInt.toNat (s.2.2.1 46 3).toInt (s.2.2.1 46 5).toInt → (∀ j, j < ((Int32.ofInt 0)).toInt.toNat → ∃ q f, TSQ (s.1 47) (s.2.2.1 46 1).toInt.toNat a (j + 1) q f (cmK (u_46_5).toInt (j + 1)) (s.1 31 j).toInt) ∧ ∃ p k v, TSQ (s.1 47) (s.2.2.1 46 1).toInt.toNat a ((Int32.ofInt 0)).toInt.toNat p (u_46_2).toInt.toNat k v := by intro a ha; exact ⟨fun j hj => absurd hj (by have h9 : (Int32.ofInt 0).toInt.toNat = 0 := rfl; omega), _, _, _, by rw [e_46_2]; exact ha⟩
        have n46i : s.2.2.1 46 6 = s.2.2.1 46 6 ∧ s.2.2.1 46 7 = s.2.2.1 46 7 := by exact ⟨rfl, rfl⟩
        exact gg_w (by first | exact Nat.le_of_ble_eq_true rfl | omega) (gg_f (gf_cons rfl (gf_cons rfl (gf_cons rfl (gf_cons rfl (gf_cons rfl (gf_cons rfl gf_nil)))))) (ct46 6 s u_46_4 u_46_5 (Int32.ofInt 1) (Int32.ofInt 0) u_46_2 u_2_0 u_2_1 u_30_0 hI fr_rf (in_w 0 1000 (inv_F hI 0 1000 rfl e_46_4) rfl) (in_w (-1) 25 i23x1 rfl) (in_w 1 5 (in_c 1 rfl) rfl) (in_w 0 5 (in_c 0 rfl) rfl) e_46_2 e_2_0 e_2_1 e_30_0 n46 n46a n46b n46c n46d n46e n46f n46g n46h n46i (m_in 6 (in_w 0 5 (in_c 0 rfl) rfl) rfl)))
      · skip
        have i33 := z_ne 1 1 c33 i30a rfl
        refine g_aload_n 37 (gd rfl) rfl rfl ?_
        refine g_iconst 2 38 (gd rfl) rfl rfl ?_
        refine g_iconst 3 39 (gd rfl) rfl rfl ?_
        refine g_callv (X := _) (As := [.int (Int32.ofInt 2), .int (Int32.ofInt 3)]) (r := []) (b := A 46) (q := 46) 42 (gd rfl) rfl rfl rfl rfl rfl (ww_o rfl) (Nat.le_of_ble_eq_true rfl) (Nat.zero_le _) (Nat.zero_le _) (f_169_46 (by first | exact dq1 hd rfl | exact dq0 hd rfl | exact dq2 hd rfl | exact dq3 hd rfl | omega) hI (in_w 2 2 (in_c 2 rfl) rfl) (in_w 3 3 (in_c 3 rfl) rfl) e_46_3 e_46_4) (fun e u h => h) (fun v u h => ?_)
        obtain ⟨s39, hI39, hF39, z39, rfl, rfl, i39, p39⟩ := h
        show GG _ _ _ _ _ _ _ _ [.int z39] _ _ _
        have n42 : KL s39 := by have hL9 : Fr ([31], [], [(46, 2), (46, 3), (46, 4), (46, 5), (46, 6), (46, 7)], []) s s39 := (fr_tr rfl fr_rf hF39); exact kl_fr q_0 hL9 rfl
        have n42a : (z39).toInt ≠ 0 → (s39.2.2.1 30 0).toInt = nln s := by first | (intro h; exact absurd rfl h) | (intro h; exfalso; revert h; first | (unfold In at i39; omega) | (unfold In at i104; omega) | (unfold In at i144; omega))
        have n42b : (z39).toInt ≠ 0 → (s.2.2.1 2 0).toInt ≤ 3999 := by first | (intro h; exact absurd rfl h) | (intro h; exfalso; revert h; first | (unfold In at i39; omega) | (unfold In at i104; omega) | (unfold In at i144; omega))
        have n42c : ∀ k : Nat, (k : Int) < 7 * (s.2.2.1 2 0).toInt → s39.1 30 k = s.1 30 k := by have hL9 : Fr ([31], [], [(46, 2), (46, 3), (46, 4), (46, 5), (46, 6), (46, 7)], []) s s39 := (fr_tr rfl fr_rf hF39); exact fun k _ => by rw [hL9.1 30 rfl]
        have n42d : (z39).toInt ≠ 0 → ∀ a : Nat, TKN (s.1 47) (s.2.2.1 46 1).toInt.toNat a (s.2.2.1 46 4).toInt.toNat (s.2.2.1 46 2).toInt.toNat (s.2.2.1 46 3).toInt (s.2.2.1 46 5).toInt → ∃ c V, CMP (s.1 47) (s.2.2.1 46 1).toInt.toNat a (s.2.2.1 46 4).toInt.toNat c V (s39.2.2.1 46 2).toInt.toNat ∧ dkC (gvC s) c V ∧ gvC s39 = opC (gvC s) c V := by first | (intro h; exact absurd rfl h) | (intro h; exfalso; revert h; first | (unfold In at i39; omega) | (unfold In at i104; omega) | (unfold In at i144; omega))
        have n42e : (z39).toInt = 0 → ∀ a : Nat, TKN (s.1 47) (s.2.2.1 46 1).toInt.toNat a (s.2.2.1 46 4).toInt.toNat (s.2.2.1 46 2).toInt.toNat (s.2.2.1 46 3).toInt (s.2.2.1 46 5).toInt → CMX (s.1 47) (s.2.2.1 46 1).toInt.toNat a (s39.2.2.1 46 6).toInt (s39.2.2.1 46 7).toInt.toNat ∨ ∃ c V e, CMP (s.1 47) (s.2.2.1 46 1).toInt.toNat a (s39.2.2.1 46 7).toInt.toNat c V e ∧ ¬ dkC (gvC s) c V ∧ (s39.2.2.1 46 6).toInt = 4 := by intro _ a ha; refine Or.inl (Or.inl ⟨_, _, _, by rw [p39.2]; exact ha, q_4, ?_, p39.1⟩); first | (rintro ⟨h8, h9⟩; rw [← e_46_3] at h8; have a0 := oa8 i23x1 ((inv_F hI 0 1000 rfl e_46_4)) i10 ((inv_F hI 0 1000 rfl e_46_1)) ((inv_F hI 0 1000 rfl e_46_2)) ((inv_F hI 448 28000 rfl e_30_0)) ((inv_F hI 0 32 rfl e_2_1)) ((inv_F hI 0 4000 rfl e_2_0)); have oc := oc_136_1_46; omega) | (rintro ⟨h8, h9⟩; rw [← e_46_5] at h9; unfold cmI at h9; have a0 := oa8 i23x1 ((inv_F hI 0 1000 rfl e_46_4)) i10 ((inv_F hI 0 1000 rfl e_46_1)) ((inv_F hI 0 1000 rfl e_46_2)) ((inv_F hI 448 28000 rfl e_30_0)) ((inv_F hI 0 32 rfl e_2_1)) ((inv_F hI 0 4000 rfl e_2_0)); have oc := oc_136_1_46; omega) | (exfalso; have h9 := p30a (by have a0 := oa8 i23x1 ((inv_F hI 0 1000 rfl e_46_4)) i10 ((inv_F hI 0 1000 rfl e_46_1)) ((inv_F hI 0 1000 rfl e_46_2)) ((inv_F hI 448 28000 rfl e_30_0)) ((inv_F hI 0 32 rfl e_2_1)) ((inv_F hI 0 4000 rfl e_2_0)); have oc := oc_136_1_46; omega); revert h9; decide)
        have n42f : (z39).toInt ≠ 0 → TQ s39 := by first | (intro h; exact absurd rfl h) | (intro h; exfalso; revert h; first | (unfold In at i39; omega) | (unfold In at i104; omega) | (unfold In at i144; omega))
        have n42g : (z39).toInt ≠ 0 → s39.2.2.1 46 6 = s.2.2.1 46 6 ∧ s39.2.2.1 46 7 = s.2.2.1 46 7 := by first | (intro h; exact absurd rfl h) | (intro h; exfalso; revert h; first | (unfold In at i39; omega) | (unfold In at i104; omega) | (unfold In at i144; omega))
        have n42h : (z39).toInt = 0 → 0 ≤ (s39.2.2.1 46 7).toInt := by intro _; rw [p39.2, ← e_46_4]; have a0 := oa8 i23x1 ((inv_F hI 0 1000 rfl e_46_4)) i10 ((inv_F hI 0 1000 rfl e_46_1)) ((inv_F hI 0 1000 rfl e_46_2)) ((inv_F hI 448 28000 rfl e_30_0)) ((inv_F hI 0 32 rfl e_2_1)) ((inv_F hI 0 4000 rfl e_2_0)); have oc := oc_136_1_46; omega
        have n42i : (u_46_2).toInt ≤ (u_46_1).toInt := by have a0 := oa8 i23x1 ((inv_F hI 0 1000 rfl e_46_4)) i10 ((inv_F hI 0 1000 rfl e_46_1)) ((inv_F hI 0 1000 rfl e_46_2)) ((inv_F hI 448 28000 rfl e_30_0)) ((inv_F hI 0 32 rfl e_2_1)) ((inv_F hI 0 4000 rfl e_2_0)); have oc := oc_136_1_46; omega
        have n42j : (s39.2.2.1 46 2).toInt ≤ (s39.2.2.1 46 1).toInt := by have b0 : u_46_2 = s39.2.2.1 46 2 := fr_F (e_46_2) hF39 rfl; have b1 : u_46_1 = s39.2.2.1 46 1 := fr_F (e_46_1) hF39 rfl; rw [← b0, ← b1]; exact n42i
        have n42k : (u_2_0).toInt ≤ (u_2_0).toInt := by exact Int.le_refl _
        have n42l : (s.2.2.1 2 0).toInt ≤ (s39.2.2.1 2 0).toInt := by have b0 : u_2_0 = s39.2.2.1 2 0 := fr_F (e_2_0) hF39 rfl; first | (rw [← b0, ← e_2_0]; exact n42k) | (rw [← b0]; exact n42k)
        exact g_ireturn (gd rfl) rfl (nb01 (in_w 0 1 i39 rfl)) (hP _ _ ⟨(A 30), s39, hI39, (fr_tr rfl fr_rf hF39), n42j, n42l, z39, rfl, (by rw [ax_id]), in_w 0 1 i39 rfl, n42, n42a, n42b, n42c, n42d, n42e, n42f, n42g, n42h⟩)
    · skip
      have i23x1 := sw_eq c23x1
      refine g_ldcs 3 52 (gd rfl) rfl rfl ?_
      refine g_areturn (gd rfl) rfl (hp23 _ _ ?_)
      show GG _ _ _ _ _ _ _ _ [.ref (zq Z (Int32.ofInt 3))] _ _ _
      refine g_astore 28 (gd rfl) rfl (Nat.le_of_ble_eq_true rfl) ?_
      refine g_aload 30 (gd rfl) rfl rfl ?_
      have i30 : In (Int32.ofInt 3) 0 6 := in_w 0 6 (in_c 3 rfl) rfl
      refine g_callS (X := _) (As := []) (r := []) (x := (Int32.ofInt 3)) 33 (gd rfl) rfl rfl rfl zm_428 rfl rfl rfl i30 (Nat.le_of_ble_eq_true rfl) (f_428 i30 (by omega)) (fun e u h => h) (fun v u h => ?_)
      obtain ⟨z30, rfl, rfl, i30a, p30, p30a⟩ := h
      show GG _ _ _ _ _ _ _ _ [.int z30] _ _ _
      refine g_if_eq 36 43 (gd rfl) rfl rfl (fun c33 => ?_) (fun c33 => ?_)
      · skip
        have i33 := z_eq 0 0 c33 i30a rfl
        refine g_iconst 0 44 (gd rfl) rfl rfl ?_
        refine g_istore 46 (gd rfl) rfl (Nat.le_of_ble_eq_true rfl) ?_
        have n46 : (u_46_2).toInt ≤ (u_46_1).toInt := by have a0 := oa9 i23x1 ((inv_F hI 0 1000 rfl e_46_4)) i10 ((inv_F hI 0 1000 rfl e_46_1)) ((inv_F hI 0 1000 rfl e_46_2)) ((inv_F hI 448 28000 rfl e_30_0)) ((inv_F hI 0 32 rfl e_2_1)) ((inv_F hI 0 4000 rfl e_2_0)) ((in_c 0 rfl)); have oc := oc_136_1_46; omega
        have n46a : (u_2_0).toInt ≤ (u_2_0).toInt := by exact Int.le_refl _
        have n46b : (u_46_5).toInt = 13 → ((Int32.ofInt 3)).toInt = 1 := by intro h; first | decide | (exfalso; have a0 := oa9 i23x1 ((inv_F hI 0 1000 rfl e_46_4)) i10 ((inv_F hI 0 1000 rfl e_46_1)) ((inv_F hI 0 1000 rfl e_46_2)) ((inv_F hI 448 28000 rfl e_30_0)) ((inv_F hI 0 32 rfl e_2_1)) ((inv_F hI 0 4000 rfl e_2_0)) ((in_c 0 rfl)); have oc := oc_136_1_46; omega)
        have n46c : ((Int32.ofInt 3)).toInt = 1 → 1 ≤ ((Int32.ofInt 0)).toInt → In (s.1 31 0) 0 25 := by intro _ h; exfalso; revert h; decide
        have n46d : Fr ([31], [], [(46, 2), (46, 3), (46, 4), (46, 5), (46, 6), (46, 7)], []) s s := by exact fr_rf
        have n46e : SHQ (u_46_5).toInt ((Int32.ofInt 3)).toInt := by first | (exfalso; have h9 := p30 (by have a0 := oa9 i23x1 ((inv_F hI 0 1000 rfl e_46_4)) i10 ((inv_F hI 0 1000 rfl e_46_1)) ((inv_F hI 0 1000 rfl e_46_2)) ((inv_F hI 448 28000 rfl e_30_0)) ((inv_F hI 0 32 rfl e_2_1)) ((inv_F hI 0 4000 rfl e_2_0)) ((in_c 0 rfl)); have oc := oc_136_1_46; omega); revert h9; decide) | exact Or.inl ⟨by have a0 := oa9 i23x1 ((inv_F hI 0 1000 rfl e_46_4)) i10 ((inv_F hI 0 1000 rfl e_46_1)) ((inv_F hI 0 1000 rfl e_46_2)) ((inv_F hI 448 28000 rfl e_30_0)) ((inv_F hI 0 32 rfl e_2_1)) ((inv_F hI 0 4000 rfl e_2_0)) ((in_c 0 rfl)); have oc := oc_136_1_46; omega, by decide⟩ | exact Or.inr (Or.inl ⟨by have a0 := oa9 i23x1 ((inv_F hI 0 1000 rfl e_46_4)) i10 ((inv_F hI 0 1000 rfl e_46_1)) ((inv_F hI 0 1000 rfl e_46_2)) ((inv_F hI 448 28000 rfl e_30_0)) ((inv_F hI 0 32 rfl e_2_1)) ((inv_F hI 0 4000 rfl e_2_0)) ((in_c 0 rfl)); have oc := oc_136_1_46; omega, by decide⟩) | exact Or.inr (Or.inr (Or.inl ⟨by have a0 := oa9 i23x1 ((inv_F hI 0 1000 rfl e_46_4)) i10 ((inv_F hI 0 1000 rfl e_46_1)) ((inv_F hI 0 1000 rfl e_46_2)) ((inv_F hI 448 28000 rfl e_30_0)) ((inv_F hI 0 32 rfl e_2_1)) ((inv_F hI 0 4000 rfl e_2_0)) ((in_c 0 rfl)); have oc := oc_136_1_46; omega, by decide⟩)) | exact Or.inr (Or.inr (Or.inr ⟨by have a0 := oa9 i23x1 ((inv_F hI 0 1000 rfl e_46_4)) i10 ((inv_F hI 0 1000 rfl e_46_1)) ((inv_F hI 0 1000 rfl e_46_2)) ((inv_F hI 448 28000 rfl e_30_0)) ((inv_F hI 0 32 rfl e_2_1)) ((inv_F hI 0 4000 rfl e_2_0)) ((in_c 0 rfl)); have oc := oc_136_1_46; omega, by decide⟩))
        have n46f : (s.2.2.1 46 3).toInt = 1 ∧ (s.2.2.1 46 5).toInt = (u_46_5).toInt ∧ (u_46_4) = s.2.2.1 46 4 := by first | (exfalso; have h9 := p30 (by have a0 := oa9 i23x1 ((inv_F hI 0 1000 rfl e_46_4)) i10 ((inv_F hI 0 1000 rfl e_46_1)) ((inv_F hI 0 1000 rfl e_46_2)) ((inv_F hI 448 28000 rfl e_30_0)) ((inv_F hI 0 32 rfl e_2_1)) ((inv_F hI 0 4000 rfl e_2_0)) ((in_c 0 rfl)); have oc := oc_136_1_46; omega); revert h9; decide) | exact ⟨by rw [← e_46_3]; have a0 := oa9 i23x1 ((inv_F hI 0 1000 rfl e_46_4)) i10 ((inv_F hI 0 1000 rfl e_46_1)) ((inv_F hI 0 1000 rfl e_46_2)) ((inv_F hI 448 28000 rfl e_30_0)) ((inv_F hI 0 32 rfl e_2_1)) ((inv_F hI 0 4000 rfl e_2_0)) ((in_c 0 rfl)); have oc := oc_136_1_46; omega, by rw [← e_46_5], e_46_4⟩
        have n46g : ((Int32.ofInt 0)).toInt ≤ (cmA (u_46_5).toInt : Int) := by exact Int.natCast_nonneg _
        have n46h : ∀ a : Nat, TKN (s.1 47) (s.2.2.1 46 1).toInt.toNat a (s.2.2.1 46 4).toInt.toNat (s.2.2.1 46 2).toInt.toNat (s.2.2.1 46 3).toInt (s.2.2.1 46 5).toInt → (∀ j, j < ((Int32.ofInt 0)).toInt.toNat → ∃ q f, TSQ (s.1 47) (s.2.2.1 46 1).toInt.toNat a (j + 1) q f (cmK (u_46_5).toInt (j + 1)) (s.1 31 j).toInt) ∧ ∃ p k v, TSQ (s.1 47) (s.2.2.1 46 1).toInt.toNat a ((Int32.ofInt 0)).toInt.toNat p (u_46_2).toInt.toNat k v := by intro a ha; exact ⟨fun j hj => absurd hj (by have h9 : (Int32.ofInt 0).toInt.toNat = 0 := rfl; omega), _, _, _, by rw [e_46_2]; exact ha⟩
        have n46i : s.2.2.1 46 6 = s.2.2.1 46 6 ∧ s.2.2.1 46 7 = s.2.2.1 46 7 := by exact ⟨rfl, rfl⟩
        exact gg_w (by first | exact Nat.le_of_ble_eq_true rfl | omega) (gg_f (gf_cons rfl (gf_cons rfl (gf_cons rfl (gf_cons rfl (gf_cons rfl (gf_cons rfl gf_nil)))))) (ct46 6 s u_46_4 u_46_5 (Int32.ofInt 3) (Int32.ofInt 0) u_46_2 u_2_0 u_2_1 u_30_0 hI fr_rf (in_w 0 1000 (inv_F hI 0 1000 rfl e_46_4) rfl) (in_w (-1) 25 i23x1 rfl) (in_w 1 5 (in_c 3 rfl) rfl) (in_w 0 5 (in_c 0 rfl) rfl) e_46_2 e_2_0 e_2_1 e_30_0 n46 n46a n46b n46c n46d n46e n46f n46g n46h n46i (m_in 6 (in_w 0 5 (in_c 0 rfl) rfl) rfl)))
      · skip
        have i33 := z_ne 1 1 c33 i30a rfl
        refine g_aload_n 37 (gd rfl) rfl rfl ?_
        refine g_iconst 2 38 (gd rfl) rfl rfl ?_
        refine g_iconst 3 39 (gd rfl) rfl rfl ?_
        refine g_callv (X := _) (As := [.int (Int32.ofInt 2), .int (Int32.ofInt 3)]) (r := []) (b := A 46) (q := 46) 42 (gd rfl) rfl rfl rfl rfl rfl (ww_o rfl) (Nat.le_of_ble_eq_true rfl) (Nat.zero_le _) (Nat.zero_le _) (f_169_46 (by first | exact dq1 hd rfl | exact dq0 hd rfl | exact dq2 hd rfl | exact dq3 hd rfl | omega) hI (in_w 2 2 (in_c 2 rfl) rfl) (in_w 3 3 (in_c 3 rfl) rfl) e_46_3 e_46_4) (fun e u h => h) (fun v u h => ?_)
        obtain ⟨s39, hI39, hF39, z39, rfl, rfl, i39, p39⟩ := h
        show GG _ _ _ _ _ _ _ _ [.int z39] _ _ _
        have n42 : KL s39 := by have hL9 : Fr ([31], [], [(46, 2), (46, 3), (46, 4), (46, 5), (46, 6), (46, 7)], []) s s39 := (fr_tr rfl fr_rf hF39); exact kl_fr q_0 hL9 rfl
        have n42a : (z39).toInt ≠ 0 → (s39.2.2.1 30 0).toInt = nln s := by first | (intro h; exact absurd rfl h) | (intro h; exfalso; revert h; first | (unfold In at i39; omega) | (unfold In at i104; omega) | (unfold In at i144; omega))
        have n42b : (z39).toInt ≠ 0 → (s.2.2.1 2 0).toInt ≤ 3999 := by first | (intro h; exact absurd rfl h) | (intro h; exfalso; revert h; first | (unfold In at i39; omega) | (unfold In at i104; omega) | (unfold In at i144; omega))
        have n42c : ∀ k : Nat, (k : Int) < 7 * (s.2.2.1 2 0).toInt → s39.1 30 k = s.1 30 k := by have hL9 : Fr ([31], [], [(46, 2), (46, 3), (46, 4), (46, 5), (46, 6), (46, 7)], []) s s39 := (fr_tr rfl fr_rf hF39); exact fun k _ => by rw [hL9.1 30 rfl]
        have n42d : (z39).toInt ≠ 0 → ∀ a : Nat, TKN (s.1 47) (s.2.2.1 46 1).toInt.toNat a (s.2.2.1 46 4).toInt.toNat (s.2.2.1 46 2).toInt.toNat (s.2.2.1 46 3).toInt (s.2.2.1 46 5).toInt → ∃ c V, CMP (s.1 47) (s.2.2.1 46 1).toInt.toNat a (s.2.2.1 46 4).toInt.toNat c V (s39.2.2.1 46 2).toInt.toNat ∧ dkC (gvC s) c V ∧ gvC s39 = opC (gvC s) c V := by first | (intro h; exact absurd rfl h) | (intro h; exfalso; revert h; first | (unfold In at i39; omega) | (unfold In at i104; omega) | (unfold In at i144; omega))
        have n42e : (z39).toInt = 0 → ∀ a : Nat, TKN (s.1 47) (s.2.2.1 46 1).toInt.toNat a (s.2.2.1 46 4).toInt.toNat (s.2.2.1 46 2).toInt.toNat (s.2.2.1 46 3).toInt (s.2.2.1 46 5).toInt → CMX (s.1 47) (s.2.2.1 46 1).toInt.toNat a (s39.2.2.1 46 6).toInt (s39.2.2.1 46 7).toInt.toNat ∨ ∃ c V e, CMP (s.1 47) (s.2.2.1 46 1).toInt.toNat a (s39.2.2.1 46 7).toInt.toNat c V e ∧ ¬ dkC (gvC s) c V ∧ (s39.2.2.1 46 6).toInt = 4 := by intro _ a ha; refine Or.inl (Or.inl ⟨_, _, _, by rw [p39.2]; exact ha, q_4, ?_, p39.1⟩); first | (rintro ⟨h8, h9⟩; rw [← e_46_3] at h8; have a0 := oa8 i23x1 ((inv_F hI 0 1000 rfl e_46_4)) i10 ((inv_F hI 0 1000 rfl e_46_1)) ((inv_F hI 0 1000 rfl e_46_2)) ((inv_F hI 448 28000 rfl e_30_0)) ((inv_F hI 0 32 rfl e_2_1)) ((inv_F hI 0 4000 rfl e_2_0)); have oc := oc_136_1_46; omega) | (rintro ⟨h8, h9⟩; rw [← e_46_5] at h9; unfold cmI at h9; have a0 := oa8 i23x1 ((inv_F hI 0 1000 rfl e_46_4)) i10 ((inv_F hI 0 1000 rfl e_46_1)) ((inv_F hI 0 1000 rfl e_46_2)) ((inv_F hI 448 28000 rfl e_30_0)) ((inv_F hI 0 32 rfl e_2_1)) ((inv_F hI 0 4000 rfl e_2_0)); have oc := oc_136_1_46; omega) | (exfalso; have h9 := p30a (by have a0 := oa8 i23x1 ((inv_F hI 0 1000 rfl e_46_4)) i10 ((inv_F hI 0 1000 rfl e_46_1)) ((inv_F hI 0 1000 rfl e_46_2)) ((inv_F hI 448 28000 rfl e_30_0)) ((inv_F hI 0 32 rfl e_2_1)) ((inv_F hI 0 4000 rfl e_2_0)); have oc := oc_136_1_46; omega); revert h9; decide)
        have n42f : (z39).toInt ≠ 0 → TQ s39 := by first | (intro h; exact absurd rfl h) | (intro h; exfalso; revert h; first | (unfold In at i39; omega) | (unfold In at i104; omega) | (unfold In at i144; omega))
        have n42g : (z39).toInt ≠ 0 → s39.2.2.1 46 6 = s.2.2.1 46 6 ∧ s39.2.2.1 46 7 = s.2.2.1 46 7 := by first | (intro h; exact absurd rfl h) | (intro h; exfalso; revert h; first | (unfold In at i39; omega) | (unfold In at i104; omega) | (unfold In at i144; omega))
        have n42h : (z39).toInt = 0 → 0 ≤ (s39.2.2.1 46 7).toInt := by intro _; rw [p39.2, ← e_46_4]; have a0 := oa8 i23x1 ((inv_F hI 0 1000 rfl e_46_4)) i10 ((inv_F hI 0 1000 rfl e_46_1)) ((inv_F hI 0 1000 rfl e_46_2)) ((inv_F hI 448 28000 rfl e_30_0)) ((inv_F hI 0 32 rfl e_2_1)) ((inv_F hI 0 4000 rfl e_2_0)); have oc := oc_136_1_46; omega
        have n42i : (u_46_2).toInt ≤ (u_46_1).toInt := by have a0 := oa8 i23x1 ((inv_F hI 0 1000 rfl e_46_4)) i10 ((inv_F hI 0 1000 rfl e_46_1)) ((inv_F hI 0 1000 rfl e_46_2)) ((inv_F hI 448 28000 rfl e_30_0)) ((inv_F hI 0 32 rfl e_2_1)) ((inv_F hI 0 4000 rfl e_2_0)); have oc := oc_136_1_46; omega
        have n42j : (s39.2.2.1 46 2).toInt ≤ (s39.2.2.1 46 1).toInt := by have b0 : u_46_2 = s39.2.2.1 46 2 := fr_F (e_46_2) hF39 rfl; have b1 : u_46_1 = s39.2.2.1 46 1 := fr_F (e_46_1) hF39 rfl; rw [← b0, ← b1]; exact n42i
        have n42k : (u_2_0).toInt ≤ (u_2_0).toInt := by exact Int.le_refl _
        have n42l : (s.2.2.1 2 0).toInt ≤ (s39.2.2.1 2 0).toInt := by have b0 : u_2_0 = s39.2.2.1 2 0 := fr_F (e_2_0) hF39 rfl; first | (rw [← b0, ← e_2_0]; exact n42k) | (rw [← b0]; exact n42k)
        exact g_ireturn (gd rfl) rfl (nb01 (in_w 0 1 i39 rfl)) (hP _ _ ⟨(A 30), s39, hI39, (fr_tr rfl fr_rf hF39), n42j, n42l, z39, rfl, (by rw [ax_id]), in_w 0 1 i39 rfl, n42, n42a, n42b, n42c, n42d, n42e, n42f, n42g, n42h⟩)
    · skip
      have i23x1 := sw_eq c23x1
      refine g_ldcs 4 55 (gd rfl) rfl rfl ?_
      refine g_areturn (gd rfl) rfl (hp23 _ _ ?_)
      show GG _ _ _ _ _ _ _ _ [.ref (zq Z (Int32.ofInt 4))] _ _ _
      refine g_astore 28 (gd rfl) rfl (Nat.le_of_ble_eq_true rfl) ?_
      refine g_aload 30 (gd rfl) rfl rfl ?_
      have i30 : In (Int32.ofInt 4) 0 6 := in_w 0 6 (in_c 4 rfl) rfl
      refine g_callS (X := _) (As := []) (r := []) (x := (Int32.ofInt 4)) 33 (gd rfl) rfl rfl rfl zm_428 rfl rfl rfl i30 (Nat.le_of_ble_eq_true rfl) (f_428 i30 (by omega)) (fun e u h => h) (fun v u h => ?_)
      obtain ⟨z30, rfl, rfl, i30a, p30, p30a⟩ := h
      show GG _ _ _ _ _ _ _ _ [.int z30] _ _ _
      refine g_if_eq 36 43 (gd rfl) rfl rfl (fun c33 => ?_) (fun c33 => ?_)
      · skip
        have i33 := z_eq 0 0 c33 i30a rfl
        refine g_iconst 0 44 (gd rfl) rfl rfl ?_
        refine g_istore 46 (gd rfl) rfl (Nat.le_of_ble_eq_true rfl) ?_
        have n46 : (u_46_2).toInt ≤ (u_46_1).toInt := by have a0 := oa9 i23x1 ((inv_F hI 0 1000 rfl e_46_4)) i10 ((inv_F hI 0 1000 rfl e_46_1)) ((inv_F hI 0 1000 rfl e_46_2)) ((inv_F hI 448 28000 rfl e_30_0)) ((inv_F hI 0 32 rfl e_2_1)) ((inv_F hI 0 4000 rfl e_2_0)) ((in_c 0 rfl)); have oc := oc_136_1_46; omega
        have n46a : (u_2_0).toInt ≤ (u_2_0).toInt := by exact Int.le_refl _
        have n46b : (u_46_5).toInt = 13 → ((Int32.ofInt 4)).toInt = 1 := by intro h; first | decide | (exfalso; have a0 := oa9 i23x1 ((inv_F hI 0 1000 rfl e_46_4)) i10 ((inv_F hI 0 1000 rfl e_46_1)) ((inv_F hI 0 1000 rfl e_46_2)) ((inv_F hI 448 28000 rfl e_30_0)) ((inv_F hI 0 32 rfl e_2_1)) ((inv_F hI 0 4000 rfl e_2_0)) ((in_c 0 rfl)); have oc := oc_136_1_46; omega)
        have n46c : ((Int32.ofInt 4)).toInt = 1 → 1 ≤ ((Int32.ofInt 0)).toInt → In (s.1 31 0) 0 25 := by intro _ h; exfalso; revert h; decide
        have n46d : Fr ([31], [], [(46, 2), (46, 3), (46, 4), (46, 5), (46, 6), (46, 7)], []) s s := by exact fr_rf
        have n46e : SHQ (u_46_5).toInt ((Int32.ofInt 4)).toInt := by first | (exfalso; have h9 := p30 (by have a0 := oa9 i23x1 ((inv_F hI 0 1000 rfl e_46_4)) i10 ((inv_F hI 0 1000 rfl e_46_1)) ((inv_F hI 0 1000 rfl e_46_2)) ((inv_F hI 448 28000 rfl e_30_0)) ((inv_F hI 0 32 rfl e_2_1)) ((inv_F hI 0 4000 rfl e_2_0)) ((in_c 0 rfl)); have oc := oc_136_1_46; omega); revert h9; decide) | exact Or.inl ⟨by have a0 := oa9 i23x1 ((inv_F hI 0 1000 rfl e_46_4)) i10 ((inv_F hI 0 1000 rfl e_46_1)) ((inv_F hI 0 1000 rfl e_46_2)) ((inv_F hI 448 28000 rfl e_30_0)) ((inv_F hI 0 32 rfl e_2_1)) ((inv_F hI 0 4000 rfl e_2_0)) ((in_c 0 rfl)); have oc := oc_136_1_46; omega, by decide⟩ | exact Or.inr (Or.inl ⟨by have a0 := oa9 i23x1 ((inv_F hI 0 1000 rfl e_46_4)) i10 ((inv_F hI 0 1000 rfl e_46_1)) ((inv_F hI 0 1000 rfl e_46_2)) ((inv_F hI 448 28000 rfl e_30_0)) ((inv_F hI 0 32 rfl e_2_1)) ((inv_F hI 0 4000 rfl e_2_0)) ((in_c 0 rfl)); have oc := oc_136_1_46; omega, by decide⟩) | exact Or.inr (Or.inr (Or.inl ⟨by have a0 := oa9 i23x1 ((inv_F hI 0 1000 rfl e_46_4)) i10 ((inv_F hI 0 1000 rfl e_46_1)) ((inv_F hI 0 1000 rfl e_46_2)) ((inv_F hI 448 28000 rfl e_30_0)) ((inv_F hI 0 32 rfl e_2_1)) ((inv_F hI 0 4000 rfl e_2_0)) ((in_c 0 rfl)); have oc := oc_136_1_46; omega, by decide⟩)) | exact Or.inr (Or.inr (Or.inr ⟨by have a0 := oa9 i23x1 ((inv_F hI 0 1000 rfl e_46_4)) i10 ((inv_F hI 0 1000 rfl e_46_1)) ((inv_F hI 0 1000 rfl e_46_2)) ((inv_F hI 448 28000 rfl e_30_0)) ((inv_F hI 0 32 rfl e_2_1)) ((inv_F hI 0 4000 rfl e_2_0)) ((in_c 0 rfl)); have oc := oc_136_1_46; omega, by decide⟩))
        have n46f : (s.2.2.1 46 3).toInt = 1 ∧ (s.2.2.1 46 5).toInt = (u_46_5).toInt ∧ (u_46_4) = s.2.2.1 46 4 := by first | (exfalso; have h9 := p30 (by have a0 := oa9 i23x1 ((inv_F hI 0 1000 rfl e_46_4)) i10 ((inv_F hI 0 1000 rfl e_46_1)) ((inv_F hI 0 1000 rfl e_46_2)) ((inv_F hI 448 28000 rfl e_30_0)) ((inv_F hI 0 32 rfl e_2_1)) ((inv_F hI 0 4000 rfl e_2_0)) ((in_c 0 rfl)); have oc := oc_136_1_46; omega); revert h9; decide) | exact ⟨by rw [← e_46_3]; have a0 := oa9 i23x1 ((inv_F hI 0 1000 rfl e_46_4)) i10 ((inv_F hI 0 1000 rfl e_46_1)) ((inv_F hI 0 1000 rfl e_46_2)) ((inv_F hI 448 28000 rfl e_30_0)) ((inv_F hI 0 32 rfl e_2_1)) ((inv_F hI 0 4000 rfl e_2_0)) ((in_c 0 rfl)); have oc := oc_136_1_46; omega, by rw [← e_46_5], e_46_4⟩
        have n46g : ((Int32.ofInt 0)).toInt ≤ (cmA (u_46_5).toInt : Int) := by exact Int.natCast_nonneg _
        have n46h : ∀ a : Nat, TKN (s.1 47) (s.2.2.1 46 1).toInt.toNat a (s.2.2.1 46 4).toInt.toNat (s.2.2.1 46 2).toInt.toNat (s.2.2.1 46 3).toInt (s.2.2.1 46 5).toInt → (∀ j, j < ((Int32.ofInt 0)).toInt.toNat → ∃ q f, TSQ (s.1 47) (s.2.2.1 46 1).toInt.toNat a (j + 1) q f (cmK (u_46_5).toInt (j + 1)) (s.1 31 j).toInt) ∧ ∃ p k v, TSQ (s.1 47) (s.2.2.1 46 1).toInt.toNat a ((Int32.ofInt 0)).toInt.toNat p (u_46_2).toInt.toNat k v := by intro a ha; exact ⟨fun j hj => absurd hj (by have h9 : (Int32.ofInt 0).toInt.toNat = 0 := rfl; omega), _, _, _, by rw [e_46_2]; exact ha⟩
        have n46i : s.2.2.1 46 6 = s.2.2.1 46 6 ∧ s.2.2.1 46 7 = s.2.2.1 46 7 := by exact ⟨rfl, rfl⟩
        exact gg_w (by first | exact Nat.le_of_ble_eq_true rfl | omega) (gg_f (gf_cons rfl (gf_cons rfl (gf_cons rfl (gf_cons rfl (gf_cons rfl (gf_cons rfl gf_nil)))))) (ct46 6 s u_46_4 u_46_5 (Int32.ofInt 4) (Int32.ofInt 0) u_46_2 u_2_0 u_2_1 u_30_0 hI fr_rf (in_w 0 1000 (inv_F hI 0 1000 rfl e_46_4) rfl) (in_w (-1) 25 i23x1 rfl) (in_w 1 5 (in_c 4 rfl) rfl) (in_w 0 5 (in_c 0 rfl) rfl) e_46_2 e_2_0 e_2_1 e_30_0 n46 n46a n46b n46c n46d n46e n46f n46g n46h n46i (m_in 6 (in_w 0 5 (in_c 0 rfl) rfl) rfl)))
      · skip
        have i33 := z_ne 1 1 c33 i30a rfl
        refine g_aload_n 37 (gd rfl) rfl rfl ?_
        refine g_iconst 2 38 (gd rfl) rfl rfl ?_
        refine g_iconst 3 39 (gd rfl) rfl rfl ?_
        refine g_callv (X := _) (As := [.int (Int32.ofInt 2), .int (Int32.ofInt 3)]) (r := []) (b := A 46) (q := 46) 42 (gd rfl) rfl rfl rfl rfl rfl (ww_o rfl) (Nat.le_of_ble_eq_true rfl) (Nat.zero_le _) (Nat.zero_le _) (f_169_46 (by first | exact dq1 hd rfl | exact dq0 hd rfl | exact dq2 hd rfl | exact dq3 hd rfl | omega) hI (in_w 2 2 (in_c 2 rfl) rfl) (in_w 3 3 (in_c 3 rfl) rfl) e_46_3 e_46_4) (fun e u h => h) (fun v u h => ?_)
        obtain ⟨s39, hI39, hF39, z39, rfl, rfl, i39, p39⟩ := h
        show GG _ _ _ _ _ _ _ _ [.int z39] _ _ _
        have n42 : KL s39 := by have hL9 : Fr ([31], [], [(46, 2), (46, 3), (46, 4), (46, 5), (46, 6), (46, 7)], []) s s39 := (fr_tr rfl fr_rf hF39); exact kl_fr q_0 hL9 rfl
        have n42a : (z39).toInt ≠ 0 → (s39.2.2.1 30 0).toInt = nln s := by first | (intro h; exact absurd rfl h) | (intro h; exfalso; revert h; first | (unfold In at i39; omega) | (unfold In at i104; omega) | (unfold In at i144; omega))
        have n42b : (z39).toInt ≠ 0 → (s.2.2.1 2 0).toInt ≤ 3999 := by first | (intro h; exact absurd rfl h) | (intro h; exfalso; revert h; first | (unfold In at i39; omega) | (unfold In at i104; omega) | (unfold In at i144; omega))
        have n42c : ∀ k : Nat, (k : Int) < 7 * (s.2.2.1 2 0).toInt → s39.1 30 k = s.1 30 k := by have hL9 : Fr ([31], [], [(46, 2), (46, 3), (46, 4), (46, 5), (46, 6), (46, 7)], []) s s39 := (fr_tr rfl fr_rf hF39); exact fun k _ => by rw [hL9.1 30 rfl]
        have n42d : (z39).toInt ≠ 0 → ∀ a : Nat, TKN (s.1 47) (s.2.2.1 46 1).toInt.toNat a (s.2.2.1 46 4).toInt.toNat (s.2.2.1 46 2).toInt.toNat (s.2.2.1 46 3).toInt (s.2.2.1 46 5).toInt → ∃ c V, CMP (s.1 47) (s.2.2.1 46 1).toInt.toNat a (s.2.2.1 46 4).toInt.toNat c V (s39.2.2.1 46 2).toInt.toNat ∧ dkC (gvC s) c V ∧ gvC s39 = opC (gvC s) c V := by first | (intro h; exact absurd rfl h) | (intro h; exfalso; revert h; first | (unfold In at i39; omega) | (unfold In at i104; omega) | (unfold In at i144; omega))
        have n42e : (z39).toInt = 0 → ∀ a : Nat, TKN (s.1 47) (s.2.2.1 46 1).toInt.toNat a (s.2.2.1 46 4).toInt.toNat (s.2.2.1 46 2).toInt.toNat (s.2.2.1 46 3).toInt (s.2.2.1 46 5).toInt → CMX (s.1 47) (s.2.2.1 46 1).toInt.toNat a (s39.2.2.1 46 6).toInt (s39.2.2.1 46 7).toInt.toNat ∨ ∃ c V e, CMP (s.1 47) (s.2.2.1 46 1).toInt.toNat a (s39.2.2.1 46 7).toInt.toNat c V e ∧ ¬ dkC (gvC s) c V ∧ (s39.2.2.1 46 6).toInt = 4 := by intro _ a ha; refine Or.inl (Or.inl ⟨_, _, _, by rw [p39.2]; exact ha, q_4, ?_, p39.1⟩); first | (rintro ⟨h8, h9⟩; rw [← e_46_3] at h8; have a0 := oa8 i23x1 ((inv_F hI 0 1000 rfl e_46_4)) i10 ((inv_F hI 0 1000 rfl e_46_1)) ((inv_F hI 0 1000 rfl e_46_2)) ((inv_F hI 448 28000 rfl e_30_0)) ((inv_F hI 0 32 rfl e_2_1)) ((inv_F hI 0 4000 rfl e_2_0)); have oc := oc_136_1_46; omega) | (rintro ⟨h8, h9⟩; rw [← e_46_5] at h9; unfold cmI at h9; have a0 := oa8 i23x1 ((inv_F hI 0 1000 rfl e_46_4)) i10 ((inv_F hI 0 1000 rfl e_46_1)) ((inv_F hI 0 1000 rfl e_46_2)) ((inv_F hI 448 28000 rfl e_30_0)) ((inv_F hI 0 32 rfl e_2_1)) ((inv_F hI 0 4000 rfl e_2_0)); have oc := oc_136_1_46; omega) | (exfalso; have h9 := p30a (by have a0 := oa8 i23x1 ((inv_F hI 0 1000 rfl e_46_4)) i10 ((inv_F hI 0 1000 rfl e_46_1)) ((inv_F hI 0 1000 rfl e_46_2)) ((inv_F hI 448 28000 rfl e_30_0)) ((inv_F hI 0 32 rfl e_2_1)) ((inv_F hI 0 4000 rfl e_2_0)); have oc := oc_136_1_46; omega); revert h9; decide)
        have n42f : (z39).toInt ≠ 0 → TQ s39 := by first | (intro h; exact absurd rfl h) | (intro h; exfalso; revert h; first | (unfold In at i39; omega) | (unfold In at i104; omega) | (unfold In at i144; omega))
        have n42g : (z39).toInt ≠ 0 → s39.2.2.1 46 6 = s.2.2.1 46 6 ∧ s39.2.2.1 46 7 = s.2.2.1 46 7 := by first | (intro h; exact absurd rfl h) | (intro h; exfalso; revert h; first | (unfold In at i39; omega) | (unfold In at i104; omega) | (unfold In at i144; omega))
        have n42h : (z39).toInt = 0 → 0 ≤ (s39.2.2.1 46 7).toInt := by intro _; rw [p39.2, ← e_46_4]; have a0 := oa8 i23x1 ((inv_F hI 0 1000 rfl e_46_4)) i10 ((inv_F hI 0 1000 rfl e_46_1)) ((inv_F hI 0 1000 rfl e_46_2)) ((inv_F hI 448 28000 rfl e_30_0)) ((inv_F hI 0 32 rfl e_2_1)) ((inv_F hI 0 4000 rfl e_2_0)); have oc := oc_136_1_46; omega
        have n42i : (u_46_2).toInt ≤ (u_46_1).toInt := by have a0 := oa8 i23x1 ((inv_F hI 0 1000 rfl e_46_4)) i10 ((inv_F hI 0 1000 rfl e_46_1)) ((inv_F hI 0 1000 rfl e_46_2)) ((inv_F hI 448 28000 rfl e_30_0)) ((inv_F hI 0 32 rfl e_2_1)) ((inv_F hI 0 4000 rfl e_2_0)); have oc := oc_136_1_46; omega
        have n42j : (s39.2.2.1 46 2).toInt ≤ (s39.2.2.1 46 1).toInt := by have b0 : u_46_2 = s39.2.2.1 46 2 := fr_F (e_46_2) hF39 rfl; have b1 : u_46_1 = s39.2.2.1 46 1 := fr_F (e_46_1) hF39 rfl; rw [← b0, ← b1]; exact n42i
        have n42k : (u_2_0).toInt ≤ (u_2_0).toInt := by exact Int.le_refl _
        have n42l : (s.2.2.1 2 0).toInt ≤ (s39.2.2.1 2 0).toInt := by have b0 : u_2_0 = s39.2.2.1 2 0 := fr_F (e_2_0) hF39 rfl; first | (rw [← b0, ← e_2_0]; exact n42k) | (rw [← b0]; exact n42k)
        exact g_ireturn (gd rfl) rfl (nb01 (in_w 0 1 i39 rfl)) (hP _ _ ⟨(A 30), s39, hI39, (fr_tr rfl fr_rf hF39), n42j, n42l, z39, rfl, (by rw [ax_id]), in_w 0 1 i39 rfl, n42, n42a, n42b, n42c, n42d, n42e, n42f, n42g, n42h⟩)
    · skip
      refine g_ldcs 5 58 (gd rfl) rfl rfl ?_
      refine g_areturn (gd rfl) rfl (hp23 _ _ ?_)
      show GG _ _ _ _ _ _ _ _ [.ref (zq Z (Int32.ofInt 5))] _ _ _
      refine g_astore 28 (gd rfl) rfl (Nat.le_of_ble_eq_true rfl) ?_
      refine g_aload 30 (gd rfl) rfl rfl ?_
      have i30 : In (Int32.ofInt 5) 0 6 := in_w 0 6 (in_c 5 rfl) rfl
      refine g_callS (X := _) (As := []) (r := []) (x := (Int32.ofInt 5)) 33 (gd rfl) rfl rfl rfl zm_428 rfl rfl rfl i30 (Nat.le_of_ble_eq_true rfl) (f_428 i30 (by omega)) (fun e u h => h) (fun v u h => ?_)
      obtain ⟨z30, rfl, rfl, i30a, p30, p30a⟩ := h
      show GG _ _ _ _ _ _ _ _ [.int z30] _ _ _
      refine g_if_eq 36 43 (gd rfl) rfl rfl (fun c33 => ?_) (fun c33 => ?_)
      · skip
        have i33 := z_eq 0 0 c33 i30a rfl
        refine g_iconst 0 44 (gd rfl) rfl rfl ?_
        refine g_istore 46 (gd rfl) rfl (Nat.le_of_ble_eq_true rfl) ?_
        have n46 : (u_46_2).toInt ≤ (u_46_1).toInt := by have a0 := oa9 i17 ((inv_F hI 0 1000 rfl e_46_4)) i10 ((inv_F hI 0 1000 rfl e_46_1)) ((inv_F hI 0 1000 rfl e_46_2)) ((inv_F hI 448 28000 rfl e_30_0)) ((inv_F hI 0 32 rfl e_2_1)) ((inv_F hI 0 4000 rfl e_2_0)) ((in_c 0 rfl)); have oc := oc_136_1_46; omega
        have n46a : (u_2_0).toInt ≤ (u_2_0).toInt := by exact Int.le_refl _
        have n46b : (u_46_5).toInt = 13 → ((Int32.ofInt 5)).toInt = 1 := by intro h; first | decide | (exfalso; have a0 := oa9 i17 ((inv_F hI 0 1000 rfl e_46_4)) i10 ((inv_F hI 0 1000 rfl e_46_1)) ((inv_F hI 0 1000 rfl e_46_2)) ((inv_F hI 448 28000 rfl e_30_0)) ((inv_F hI 0 32 rfl e_2_1)) ((inv_F hI 0 4000 rfl e_2_0)) ((in_c 0 rfl)); have oc := oc_136_1_46; omega)
        have n46c : ((Int32.ofInt 5)).toInt = 1 → 1 ≤ ((Int32.ofInt 0)).toInt → In (s.1 31 0) 0 25 := by intro _ h; exfalso; revert h; decide
        have n46d : Fr ([31], [], [(46, 2), (46, 3), (46, 4), (46, 5), (46, 6), (46, 7)], []) s s := by exact fr_rf
        have n46e : SHQ (u_46_5).toInt ((Int32.ofInt 5)).toInt := by first | (exfalso; have h9 := p30 (by have a0 := oa9 i17 ((inv_F hI 0 1000 rfl e_46_4)) i10 ((inv_F hI 0 1000 rfl e_46_1)) ((inv_F hI 0 1000 rfl e_46_2)) ((inv_F hI 448 28000 rfl e_30_0)) ((inv_F hI 0 32 rfl e_2_1)) ((inv_F hI 0 4000 rfl e_2_0)) ((in_c 0 rfl)); have oc := oc_136_1_46; omega); revert h9; decide) | exact Or.inl ⟨by have a0 := oa9 i17 ((inv_F hI 0 1000 rfl e_46_4)) i10 ((inv_F hI 0 1000 rfl e_46_1)) ((inv_F hI 0 1000 rfl e_46_2)) ((inv_F hI 448 28000 rfl e_30_0)) ((inv_F hI 0 32 rfl e_2_1)) ((inv_F hI 0 4000 rfl e_2_0)) ((in_c 0 rfl)); have oc := oc_136_1_46; omega, by decide⟩ | exact Or.inr (Or.inl ⟨by have a0 := oa9 i17 ((inv_F hI 0 1000 rfl e_46_4)) i10 ((inv_F hI 0 1000 rfl e_46_1)) ((inv_F hI 0 1000 rfl e_46_2)) ((inv_F hI 448 28000 rfl e_30_0)) ((inv_F hI 0 32 rfl e_2_1)) ((inv_F hI 0 4000 rfl e_2_0)) ((in_c 0 rfl)); have oc := oc_136_1_46; omega, by decide⟩) | exact Or.inr (Or.inr (Or.inl ⟨by have a0 := oa9 i17 ((inv_F hI 0 1000 rfl e_46_4)) i10 ((inv_F hI 0 1000 rfl e_46_1)) ((inv_F hI 0 1000 rfl e_46_2)) ((inv_F hI 448 28000 rfl e_30_0)) ((inv_F hI 0 32 rfl e_2_1)) ((inv_F hI 0 4000 rfl e_2_0)) ((in_c 0 rfl)); have oc := oc_136_1_46; omega, by decide⟩)) | exact Or.inr (Or.inr (Or.inr ⟨by have a0 := oa9 i17 ((inv_F hI 0 1000 rfl e_46_4)) i10 ((inv_F hI 0 1000 rfl e_46_1)) ((inv_F hI 0 1000 rfl e_46_2)) ((inv_F hI 448 28000 rfl e_30_0)) ((inv_F hI 0 32 rfl e_2_1)) ((inv_F hI 0 4000 rfl e_2_0)) ((in_c 0 rfl)); have oc := oc_136_1_46; omega, by decide⟩))
        have n46f : (s.2.2.1 46 3).toInt = 1 ∧ (s.2.2.1 46 5).toInt = (u_46_5).toInt ∧ (u_46_4) = s.2.2.1 46 4 := by first | (exfalso; have h9 := p30 (by have a0 := oa9 i17 ((inv_F hI 0 1000 rfl e_46_4)) i10 ((inv_F hI 0 1000 rfl e_46_1)) ((inv_F hI 0 1000 rfl e_46_2)) ((inv_F hI 448 28000 rfl e_30_0)) ((inv_F hI 0 32 rfl e_2_1)) ((inv_F hI 0 4000 rfl e_2_0)) ((in_c 0 rfl)); have oc := oc_136_1_46; omega); revert h9; decide) | exact ⟨by rw [← e_46_3]; have a0 := oa9 i17 ((inv_F hI 0 1000 rfl e_46_4)) i10 ((inv_F hI 0 1000 rfl e_46_1)) ((inv_F hI 0 1000 rfl e_46_2)) ((inv_F hI 448 28000 rfl e_30_0)) ((inv_F hI 0 32 rfl e_2_1)) ((inv_F hI 0 4000 rfl e_2_0)) ((in_c 0 rfl)); have oc := oc_136_1_46; omega, by rw [← e_46_5], e_46_4⟩
        have n46g : ((Int32.ofInt 0)).toInt ≤ (cmA (u_46_5).toInt : Int) := by exact Int.natCast_nonneg _
        have n46h : ∀ a : Nat, TKN (s.1 47) (s.2.2.1 46 1).toInt.toNat a (s.2.2.1 46 4).toInt.toNat (s.2.2.1 46 2).toInt.toNat (s.2.2.1 46 3).toInt (s.2.2.1 46 5).toInt → (∀ j, j < ((Int32.ofInt 0)).toInt.toNat → ∃ q f, TSQ (s.1 47) (s.2.2.1 46 1).toInt.toNat a (j + 1) q f (cmK (u_46_5).toInt (j + 1)) (s.1 31 j).toInt) ∧ ∃ p k v, TSQ (s.1 47) (s.2.2.1 46 1).toInt.toNat a ((Int32.ofInt 0)).toInt.toNat p (u_46_2).toInt.toNat k v := by intro a ha; exact ⟨fun j hj => absurd hj (by have h9 : (Int32.ofInt 0).toInt.toNat = 0 := rfl; omega), _, _, _, by rw [e_46_2]; exact ha⟩
        have n46i : s.2.2.1 46 6 = s.2.2.1 46 6 ∧ s.2.2.1 46 7 = s.2.2.1 46 7 := by exact ⟨rfl, rfl⟩
        exact gg_w (by first | exact Nat.le_of_ble_eq_true rfl | omega) (gg_f (gf_cons rfl (gf_cons rfl (gf_cons rfl (gf_cons rfl (gf_cons rfl (gf_cons rfl gf_nil)))))) (ct46 6 s u_46_4 u_46_5 (Int32.ofInt 5) (Int32.ofInt 0) u_46_2 u_2_0 u_2_1 u_30_0 hI fr_rf (in_w 0 1000 (inv_F hI 0 1000 rfl e_46_4) rfl) (in_w (-1) 25 i17 rfl) (in_w 1 5 (in_c 5 rfl) rfl) (in_w 0 5 (in_c 0 rfl) rfl) e_46_2 e_2_0 e_2_1 e_30_0 n46 n46a n46b n46c n46d n46e n46f n46g n46h n46i (m_in 6 (in_w 0 5 (in_c 0 rfl) rfl) rfl)))
      · skip
        have i33 := z_ne 1 1 c33 i30a rfl
        refine g_aload_n 37 (gd rfl) rfl rfl ?_
        refine g_iconst 2 38 (gd rfl) rfl rfl ?_
        refine g_iconst 3 39 (gd rfl) rfl rfl ?_
        refine g_callv (X := _) (As := [.int (Int32.ofInt 2), .int (Int32.ofInt 3)]) (r := []) (b := A 46) (q := 46) 42 (gd rfl) rfl rfl rfl rfl rfl (ww_o rfl) (Nat.le_of_ble_eq_true rfl) (Nat.zero_le _) (Nat.zero_le _) (f_169_46 (by first | exact dq1 hd rfl | exact dq0 hd rfl | exact dq2 hd rfl | exact dq3 hd rfl | omega) hI (in_w 2 2 (in_c 2 rfl) rfl) (in_w 3 3 (in_c 3 rfl) rfl) e_46_3 e_46_4) (fun e u h => h) (fun v u h => ?_)
        obtain ⟨s39, hI39, hF39, z39, rfl, rfl, i39, p39⟩ := h
        show GG _ _ _ _ _ _ _ _ [.int z39] _ _ _
        have n42 : KL s39 := by have hL9 : Fr ([31], [], [(46, 2), (46, 3), (46, 4), (46, 5), (46, 6), (46, 7)], []) s s39 := (fr_tr rfl fr_rf hF39); exact kl_fr q_0 hL9 rfl
        have n42a : (z39).toInt ≠ 0 → (s39.2.2.1 30 0).toInt = nln s := by first | (intro h; exact absurd rfl h) | (intro h; exfalso; revert h; first | (unfold In at i39; omega) | (unfold In at i104; omega) | (unfold In at i144; omega))
        have n42b : (z39).toInt ≠ 0 → (s.2.2.1 2 0).toInt ≤ 3999 := by first | (intro h; exact absurd rfl h) | (intro h; exfalso; revert h; first | (unfold In at i39; omega) | (unfold In at i104; omega) | (unfold In at i144; omega))
        have n42c : ∀ k : Nat, (k : Int) < 7 * (s.2.2.1 2 0).toInt → s39.1 30 k = s.1 30 k := by have hL9 : Fr ([31], [], [(46, 2), (46, 3), (46, 4), (46, 5), (46, 6), (46, 7)], []) s s39 := (fr_tr rfl fr_rf hF39); exact fun k _ => by rw [hL9.1 30 rfl]
        have n42d : (z39).toInt ≠ 0 → ∀ a : Nat, TKN (s.1 47) (s.2.2.1 46 1).toInt.toNat a (s.2.2.1 46 4).toInt.toNat (s.2.2.1 46 2).toInt.toNat (s.2.2.1 46 3).toInt (s.2.2.1 46 5).toInt → ∃ c V, CMP (s.1 47) (s.2.2.1 46 1).toInt.toNat a (s.2.2.1 46 4).toInt.toNat c V (s39.2.2.1 46 2).toInt.toNat ∧ dkC (gvC s) c V ∧ gvC s39 = opC (gvC s) c V := by first | (intro h; exact absurd rfl h) | (intro h; exfalso; revert h; first | (unfold In at i39; omega) | (unfold In at i104; omega) | (unfold In at i144; omega))
        have n42e : (z39).toInt = 0 → ∀ a : Nat, TKN (s.1 47) (s.2.2.1 46 1).toInt.toNat a (s.2.2.1 46 4).toInt.toNat (s.2.2.1 46 2).toInt.toNat (s.2.2.1 46 3).toInt (s.2.2.1 46 5).toInt → CMX (s.1 47) (s.2.2.1 46 1).toInt.toNat a (s39.2.2.1 46 6).toInt (s39.2.2.1 46 7).toInt.toNat ∨ ∃ c V e, CMP (s.1 47) (s.2.2.1 46 1).toInt.toNat a (s39.2.2.1 46 7).toInt.toNat c V e ∧ ¬ dkC (gvC s) c V ∧ (s39.2.2.1 46 6).toInt = 4 := by intro _ a ha; refine Or.inl (Or.inl ⟨_, _, _, by rw [p39.2]; exact ha, q_4, ?_, p39.1⟩); first | (rintro ⟨h8, h9⟩; rw [← e_46_3] at h8; have a0 := oa8 i17 ((inv_F hI 0 1000 rfl e_46_4)) i10 ((inv_F hI 0 1000 rfl e_46_1)) ((inv_F hI 0 1000 rfl e_46_2)) ((inv_F hI 448 28000 rfl e_30_0)) ((inv_F hI 0 32 rfl e_2_1)) ((inv_F hI 0 4000 rfl e_2_0)); have oc := oc_136_1_46; omega) | (rintro ⟨h8, h9⟩; rw [← e_46_5] at h9; unfold cmI at h9; have a0 := oa8 i17 ((inv_F hI 0 1000 rfl e_46_4)) i10 ((inv_F hI 0 1000 rfl e_46_1)) ((inv_F hI 0 1000 rfl e_46_2)) ((inv_F hI 448 28000 rfl e_30_0)) ((inv_F hI 0 32 rfl e_2_1)) ((inv_F hI 0 4000 rfl e_2_0)); have oc := oc_136_1_46; omega) | (exfalso; have h9 := p30a (by have a0 := oa8 i17 ((inv_F hI 0 1000 rfl e_46_4)) i10 ((inv_F hI 0 1000 rfl e_46_1)) ((inv_F hI 0 1000 rfl e_46_2)) ((inv_F hI 448 28000 rfl e_30_0)) ((inv_F hI 0 32 rfl e_2_1)) ((inv_F hI 0 4000 rfl e_2_0)); have oc := oc_136_1_46; omega); revert h9; decide)
        have n42f : (z39).toInt ≠ 0 → TQ s39 := by first | (intro h; exact absurd rfl h) | (intro h; exfalso; revert h; first | (unfold In at i39; omega) | (unfold In at i104; omega) | (unfold In at i144; omega))
        have n42g : (z39).toInt ≠ 0 → s39.2.2.1 46 6 = s.2.2.1 46 6 ∧ s39.2.2.1 46 7 = s.2.2.1 46 7 := by first | (intro h; exact absurd rfl h) | (intro h; exfalso; revert h; first | (unfold In at i39; omega) | (unfold In at i104; omega) | (unfold In at i144; omega))
        have n42h : (z39).toInt = 0 → 0 ≤ (s39.2.2.1 46 7).toInt := by intro _; rw [p39.2, ← e_46_4]; have a0 := oa8 i17 ((inv_F hI 0 1000 rfl e_46_4)) i10 ((inv_F hI 0 1000 rfl e_46_1)) ((inv_F hI 0 1000 rfl e_46_2)) ((inv_F hI 448 28000 rfl e_30_0)) ((inv_F hI 0 32 rfl e_2_1)) ((inv_F hI 0 4000 rfl e_2_0)); have oc := oc_136_1_46; omega
        have n42i : (u_46_2).toInt ≤ (u_46_1).toInt := by have a0 := oa8 i17 ((inv_F hI 0 1000 rfl e_46_4)) i10 ((inv_F hI 0 1000 rfl e_46_1)) ((inv_F hI 0 1000 rfl e_46_2)) ((inv_F hI 448 28000 rfl e_30_0)) ((inv_F hI 0 32 rfl e_2_1)) ((inv_F hI 0 4000 rfl e_2_0)); have oc := oc_136_1_46; omega
        have n42j : (s39.2.2.1 46 2).toInt ≤ (s39.2.2.1 46 1).toInt := by have b0 : u_46_2 = s39.2.2.1 46 2 := fr_F (e_46_2) hF39 rfl; have b1 : u_46_1 = s39.2.2.1 46 1 := fr_F (e_46_1) hF39 rfl; rw [← b0, ← b1]; exact n42i
        have n42k : (u_2_0).toInt ≤ (u_2_0).toInt := by exact Int.le_refl _
        have n42l : (s.2.2.1 2 0).toInt ≤ (s39.2.2.1 2 0).toInt := by have b0 : u_2_0 = s39.2.2.1 2 0 := fr_F (e_2_0) hF39 rfl; first | (rw [← b0, ← e_2_0]; exact n42k) | (rw [← b0]; exact n42k)
        exact g_ireturn (gd rfl) rfl (nb01 (in_w 0 1 i39 rfl)) (hP _ _ ⟨(A 30), s39, hI39, (fr_tr rfl fr_rf hF39), n42j, n42l, z39, rfl, (by rw [ax_id]), in_w 0 1 i39 rfl, n42, n42a, n42b, n42c, n42d, n42e, n42f, n42g, n42h⟩)
end
section
/-! FUNCTIONAL CONTRACTS, by fgen.py -/
theorem oc_135_1_46 : (Int32.ofInt (-4)).toInt = (-4) ∧ (Int32.ofInt (-1)).toInt = (-1) ∧ (Int32.ofInt 0).toInt = 0 ∧ (Int32.ofInt 1).toInt = 1 ∧ (Int32.ofInt 7).toInt = 7 ∧ (Int32.ofInt 1000).toInt = 1000 := ⟨rfl, rfl, rfl, rfl, rfl, rfl⟩
/-- GraphHouse$Ledger.carryOut -/
theorem f_135_1_46 {Z : AmZ} {A : Nat → Nat} {s : GS} {ex : va_W} {d : Nat} {X : AmX} {u_2_0 : Int32} {u_2_1 : Int32} {u_30_0 : Int32} {u_46_1 : Int32} (hd : 10 ≤ d) (hI : Inv s) (e_2_0 : u_2_0 = s.2.2.1 2 0) (e_2_1 : u_2_1 = s.2.2.1 2 1) (e_30_0 : u_30_0 = s.2.2.1 30 0) (e_46_1 : u_46_1 = s.2.2.1 46 1) (q_0 : KL s) (q_1 : TQ s) : GC Z d 135 [.ref (A 1), .ref (A 46)] (WW Z A s ++ ex) (lgC s) (lgS s) (fun v u => ∃ a : Nat, ∃ t : GS, Inv t ∧ Fr fm_135_1_46 s t ∧ ∃ z : Int32, v = some (.int z) ∧ u = WW Z (ax A 30 a) t ++ ex ∧ In z (-4) 1000 ∧ (KL t) ∧ ((z).toInt ≠ -4 → LOT (s.1 47) (s.2.2.1 46 1).toInt.toNat (gvC s) (z).toInt 0 0 (gvC t) ∧ (t.2.2.1 46 6).toInt = -1 ∧ (t.2.2.1 46 7).toInt = -1) ∧ ((z).toInt = -4 → LOT (s.1 47) (s.2.2.1 46 1).toInt.toNat (gvC s) (-4) (t.2.2.1 46 6).toInt (t.2.2.1 46 7).toInt (gvC t)) ∧ (TQ t)) X := by
  intro post xp hP hX
  have ro_46_1 := inv_F hI 0 1000 rfl e_46_1
  have ct17 : ∀ (k17 : Nat) (sc17 : GS) (ac17 : Nat) (cc17 : Nat) (cs17 : Nat) (y17_2 : Int32) (w17_46_2 : Int32) (w17_2_0 : Int32) (w17_2_1 : Int32) (w17_30_0 : Int32), Inv sc17 → Fr fm_135_1_46 s sc17 → (lgC sc17 ≤ cc17) → (lgS sc17 ≤ cs17) → (In y17_2 0 2001) → (w17_46_2 = sc17.2.2.1 46 2) → (w17_2_0 = sc17.2.2.1 2 0) → (w17_2_1 = sc17.2.2.1 2 1) → (w17_30_0 = sc17.2.2.1 30 0) → ((w17_46_2).toInt ≤ (u_46_1).toInt) → ((u_2_0).toInt ≤ (w17_2_0).toInt) → (KL sc17) → ((∀ p : Nat, p < 160 → sc17.1 18 p = s.1 4 p ∧ sc17.1 19 p = s.1 5 p) ∧ sc17.2.2.1 16 0 = s.2.2.1 2 0 ∧ sc17.2.2.1 16 1 = s.2.2.1 2 1) → (∀ k : Nat, (k : Int) < 7 * (s.2.2.1 2 0).toInt → sc17.1 30 k = s.1 30 k) → (GEQ (gvS sc17) (gvC s) ∧ TQS sc17) → (LRN (s.1 47) (s.2.2.1 46 1).toInt.toNat (gvC s) (y17_2).toInt.toNat (w17_46_2).toInt.toNat (gvC sc17)) → (TQ sc17) → ((sc17.2.2.1 46 6).toInt = -1 ∧ (sc17.2.2.1 46 7).toInt = -1) → 2001 - (y17_2).toInt < (k17 : Int) → GG Z (d - 1) 135 post (gx xp) (1 + k17 * 900) 17 (fun j => xlook j [(0, .ref (A 1)), (1, .ref (A 46)), (2, .int y17_2)]) [] (WW Z (ax A 30 ac17) sc17 ++ ex) cc17 cs17 := by
    intro k17
    induction k17 with
    | zero => intro sc17 ac17 cc17 cs17 y17_2 w17_46_2 w17_2_0 w17_2_1 w17_30_0 hIc17 hFc17 hcc17 hcs17 j17_2 v17_46_2 v17_2_0 v17_2_1 v17_30_0 n17_0 n17_1 g17_0 g17_1 g17_2 g17_3 g17_4 g17_5 g17_6 mm17; exact m_no mm17 j17_2 rfl
    | succ k17 ih17 =>
      intro sc17 ac17 cc17 cs17 y17_2 w17_46_2 w17_2_0 w17_2_1 w17_30_0 hIc17 hFc17 hcc17 hcs17 j17_2 v17_46_2 v17_2_0 v17_2_1 v17_30_0 n17_0 n17_1 g17_0 g17_1 g17_2 g17_3 g17_4 g17_5 g17_6 mm17
      refine gg_w (M := 1 + k17 * 900 + 900) gws ?_
      refine g_iload_n 18 (gd rfl) rfl rfl ?_
      refine g_sipush 1000 21 (gd rfl) rfl rfl ?_
      refine g_cmp_gt 24 68 (gd rfl) rfl rfl (fun c21 => ?_) (fun c21 => ?_)
      · skip
        have i21 := r_lt2 1001 2001 c21 (in_c 1000 rfl) j17_2 rfl
        refine g_bipush (-4) 70 (gd rfl) rfl rfl ?_
        have n70 : KL sc17 := by exact g17_0
        have n70a : ((Int32.ofInt (-4))).toInt ≠ -4 → LOT (s.1 47) (s.2.2.1 46 1).toInt.toNat (gvC s) ((Int32.ofInt (-4))).toInt 0 0 (gvC sc17) ∧ (sc17.2.2.1 46 6).toInt = -1 ∧ (sc17.2.2.1 46 7).toInt = -1 := by intro h; exact absurd rfl h
        have n70b : ((Int32.ofInt (-4))).toInt = -4 → LOT (s.1 47) (s.2.2.1 46 1).toInt.toNat (gvC s) (-4) (sc17.2.2.1 46 6).toInt (sc17.2.2.1 46 7).toInt (gvC sc17) := by intro _; exfalso; have h9 := lrn_l _ g17_4; have a0 := oa6 ro_46_1 ((inv_F hIc17 448 28000 rfl v17_30_0)) ((inv_F hIc17 0 32 rfl v17_2_1)) ((inv_F hIc17 0 4000 rfl v17_2_0)) ((inv_F hIc17 0 1000 rfl v17_46_2)) i21; have oc := oc_135_1_46; omega
        have n70c : TQ sc17 := by exact g17_5
        exact g_ireturn (gd rfl) rfl rfl (hP _ _ ⟨ac17, sc17, hIc17, hFc17, (Int32.ofInt (-4)), rfl, rfl, in_w (-4) 1000 (in_c (-4) rfl) rfl, n70, n70a, n70b, n70c⟩)
      · skip
        have i21 := r_le1 0 1000 c21 j17_2 (in_c 1000 rfl) rfl
        refine g_aload_n 25 (gd rfl) rfl rfl ?_
        refine g_bipush 7 27 (gd rfl) rfl rfl ?_
        refine g_iconst 1 28 (gd rfl) rfl rfl ?_
        have v28 : u_46_1 = sc17.2.2.1 46 1 := fr_F e_46_1 hFc17 rfl
        have n28 : (w17_46_2).toInt ≤ (u_46_1).toInt := by first | exact n17_0 | (have a0 := oa6 ro_46_1 ((inv_F hIc17 448 28000 rfl v17_30_0)) ((inv_F hIc17 0 32 rfl v17_2_1)) ((inv_F hIc17 0 4000 rfl v17_2_0)) ((inv_F hIc17 0 1000 rfl v17_46_2)) i21; have oc := oc_135_1_46; omega)
        refine g_callv (X := _) (As := [.int (Int32.ofInt 7), .int (Int32.ofInt 1)]) (r := []) (b := A 46) (q := 46) 31 (gd rfl) rfl rfl rfl rfl rfl (ww_o rfl) (Nat.le_of_ble_eq_true rfl) (Nat.zero_le _) (Nat.zero_le _) (f_171_46 (A := (ax A 30 ac17)) (by omega) hIc17 (in_w 7 7 (in_c 7 rfl) rfl) (in_w 1 1 (in_c 1 rfl) rfl) v17_46_2 v28 n28) (fun e u h => h) (fun v u h => ?_)
        obtain ⟨s28, hI28, hF28, n28a, n28b, n28c, rfl, rfl, p28, p28a, p28b⟩ := h
        obtain ⟨z28a, e28⟩ : ∃ w, w = s28.2.2.1 46 2 := ⟨_, rfl⟩
        have i28a := inv_F hI28 0 1000 rfl e28
        obtain ⟨z28b, e28a⟩ : ∃ w, w = s28.2.2.1 46 4 := ⟨_, rfl⟩
        have i28b := inv_F hI28 0 1000 rfl e28a
        rw [← (show z28a = s28.2.2.1 46 2 from e28)] at n28a
        rw [← (show u_46_1 = s28.2.2.1 46 1 from fr_F (fr_F e_46_1 hFc17 rfl) hF28 rfl)] at n28a
        rw [← (show z28a = s28.2.2.1 46 2 from e28)] at n28b
        rw [← (show z28b = s28.2.2.1 46 4 from e28a)] at n28b
        rw [← (show w17_46_2 = sc17.2.2.1 46 2 from v17_46_2)] at n28c
        rw [← (show z28b = s28.2.2.1 46 4 from e28a)] at n28c
        show GG _ _ _ _ _ _ _ _ [] _ _ _
        have ht28 : TKN (s28.1 47) (s28.2.2.1 46 1).toInt.toNat (w17_46_2).toInt.toNat (s28.2.2.1 46 4).toInt.toNat (s28.2.2.1 46 2).toInt.toNat (s28.2.2.1 46 3).toInt (s28.2.2.1 46 5).toInt := (by rw [hF28.1 47 rfl, hF28.2.2.1 46 1 rfl, v17_46_2]; exact p28b)
        have hx28 : s28.1 47 = s.1 47 := (hF28.1 47 rfl).trans (hFc17.1 47 rfl)
        have hl28 : s28.2.2.1 46 1 = s.2.2.1 46 1 := (hF28.2.2.1 46 1 rfl).trans (hFc17.2.2.1 46 1 rfl)
        have hg28 : gvC s28 = gvC sc17 := gvC_cg hF28 rfl
        have hk28 : ∀ t : GS, (∀ a : Nat, TKN (s28.1 47) (s28.2.2.1 46 1).toInt.toNat a (s28.2.2.1 46 4).toInt.toNat (s28.2.2.1 46 2).toInt.toNat (s28.2.2.1 46 3).toInt (s28.2.2.1 46 5).toInt → ∃ c V, CMP (s28.1 47) (s28.2.2.1 46 1).toInt.toNat a (s28.2.2.1 46 4).toInt.toNat c V (t.2.2.1 46 2).toInt.toNat ∧ dkC (gvC s28) c V ∧ gvC t = opC (gvC s28) c V) → LRN (s.1 47) (s.2.2.1 46 1).toInt.toNat (gvC s) (y17_2.toInt.toNat + 1) (t.2.2.1 46 2).toInt.toNat (gvC t) := (fun t h => by obtain ⟨c, V, h1, h2, h3⟩ := h _ ht28; rw [hx28, hl28] at h1; rw [hg28] at h2 h3; exact ⟨_, _, _, c, V, g17_4, h1, h2, h3⟩)
        refine g_aload_n 32 (gd rfl) rfl rfl ?_
        refine g_getI (A := (ax A 30 ac17)) (q := 46) 35 (gd rfl) rfl rfl rfl (fun z32 e32 => ?_)
        have i32 := inv_F hI28 0 5 rfl e32
        refine g_if_ne 38 40 (gd rfl) rfl rfl (fun c35 => ?_) (fun c35 => ?_)
        · skip
          have i35 := z_ne 1 5 c35 i32 rfl
          refine g_aload_n 41 (gd rfl) rfl rfl ?_
          refine g_aload_n 42 (gd rfl) rfl rfl ?_
          have v42 : w17_2_0 = s28.2.2.1 2 0 := fr_F (v17_2_0) hF28 rfl
          have v42a : w17_2_1 = s28.2.2.1 2 1 := fr_F (v17_2_1) hF28 rfl
          have v42b : w17_30_0 = s28.2.2.1 30 0 := fr_F (v17_30_0) hF28 rfl
          have v42c : u_46_1 = s28.2.2.1 46 1 := fr_F (fr_F e_46_1 hFc17 rfl) hF28 rfl
          have n42 : (z28a).toInt ≤ (u_46_1).toInt := by have a0 := oa9 ro_46_1 ((inv_F hIc17 448 28000 rfl v17_30_0)) ((inv_F hIc17 0 32 rfl v17_2_1)) ((inv_F hIc17 0 4000 rfl v17_2_0)) ((inv_F hIc17 0 1000 rfl v17_46_2)) i21 i35 i28b i28a; have oc := oc_135_1_46; omega
          have p42 : KL s28 := by exact kl_fr g17_0 hF28 rfl
          have p42a : (s28.2.2.1 46 3).toInt = 1 → In (s28.2.2.1 46 5) 0 25 := by exact p28a
          have p42b : ∃ a : Nat, TKN (s28.1 47) (s28.2.2.1 46 1).toInt.toNat a (s28.2.2.1 46 4).toInt.toNat (s28.2.2.1 46 2).toInt.toNat (s28.2.2.1 46 3).toInt (s28.2.2.1 46 5).toInt := by exact ⟨_, ht28⟩
          have p42c : TQ s28 := by exact tq_fr g17_5 hF28 rfl
          have p42d : (s28.2.2.1 46 3).toInt ≠ 0 := by rw [← (show z32 = s28.2.2.1 46 3 from e32)]; have a0 := oa9 ro_46_1 ((inv_F hIc17 448 28000 rfl v17_30_0)) ((inv_F hIc17 0 32 rfl v17_2_1)) ((inv_F hIc17 0 4000 rfl v17_2_0)) ((inv_F hIc17 0 1000 rfl v17_46_2)) i21 i35 i28b i28a; have oc := oc_135_1_46; omega
          refine g_callv (X := _) (As := [.ref (A 46)]) (r := []) (b := A 1) (q := 1) 45 (gd rfl) rfl rfl rfl rfl rfl (ww_o rfl) (Nat.le_of_ble_eq_true rfl) (Nat.le_trans (lg_lc (inv_F hI28 448 28000 (q := 30) (j := 0) rfl rfl)).1 (by have h2 := (lg_cg (hF28.2.2.1 30 0 rfl)).1; omega)) (Nat.le_trans (lg_lc (inv_F hI28 448 28000 (q := 30) (j := 0) rfl rfl)).2 (by have h2 := (lg_cg (hF28.2.2.1 30 0 rfl)).2; omega)) (f_136_1_46 (A := (ax A 30 ac17)) (by omega) hI28 v42 v42a v42b e28 v42c e32 e28a rfl n42 p42 p42a p42b p42c p42d) (fun e u h => h) (fun v u h => ?_)
          obtain ⟨a42, s42, hI42, hF42, n42a, n42b, z42, rfl, rfl, i42, p42e, p42f, p42g, p42h, p42i, p42j, p42k, p42l, p42m⟩ := h
          rw [ax_ax]
          obtain ⟨z42a, e42⟩ : ∃ w, w = s42.2.2.1 46 2 := ⟨_, rfl⟩
          have i42a := inv_F hI42 0 1000 rfl e42
          obtain ⟨z42b, e42a⟩ : ∃ w, w = s42.2.2.1 2 0 := ⟨_, rfl⟩
          have i42b := inv_F hI42 0 4000 rfl e42a
          rw [← (show z42a = s42.2.2.1 46 2 from e42)] at n42a
          rw [← (show u_46_1 = s42.2.2.1 46 1 from fr_F (fr_F (fr_F e_46_1 hFc17 rfl) hF28 rfl) hF42 rfl)] at n42a
          rw [← (show w17_2_0 = s28.2.2.1 2 0 from fr_F (v17_2_0) hF28 rfl)] at n42b
          rw [← (show z42b = s42.2.2.1 2 0 from e42a)] at n42b
          show GG _ _ _ _ _ _ _ _ [.int z42] _ _ _
          have hv42 : _ = s42.2.2.1 2 0 := (show z42b = s42.2.2.1 2 0 from e42a)
          refine g_if_ne 48 62 (gd rfl) rfl rfl (fun c45 => ?_) (fun c45 => ?_)
          · skip
            have i45 := z_ne 1 1 c45 i42 rfl
            refine g_iinc 65 (gd rfl) rfl rfl (Nat.le_of_ble_eq_true rfl) (fun z62 e62 => ?_)
            have i62 := in_add 1 1001 e62 i21 (in_c 1 rfl) rfl rfl
            refine g_goto 17 (gd rfl) rfl ?_
            have hr17 : lgC s42 ≤ (cc17 - lc s28) := by have h := (lgt_st (s := s28) (t := s42) (inv_F hI28 448 28000 (q := 30) (j := 0) rfl rfl) (p42g c45) (kl_fr g17_0 hF28 rfl).2.1 (p42f c45)).1; have h2 := (lg_cg (hF28.2.2.1 30 0 rfl)).1; omega
            have hr17a : lgS s42 ≤ (cs17 - lsl s28) := by have h := (lgt_st (s := s28) (t := s42) (inv_F hI28 448 28000 (q := 30) (j := 0) rfl rfl) (p42g c45) (kl_fr g17_0 hF28 rfl).2.1 (p42f c45)).2; have h2 := (lg_cg (hF28.2.2.1 30 0 rfl)).2; omega
            have n17 : (z42a).toInt ≤ (u_46_1).toInt := by have a0 := oa7 ro_46_1 ((inv_F hIc17 448 28000 rfl v17_30_0)) ((inv_F hIc17 0 32 rfl v17_2_1)) ((inv_F hIc17 0 4000 rfl v17_2_0)) ((inv_F hIc17 0 1000 rfl v17_46_2)) i21 i62; have a7 := t_add e62 i21 (in_c 1 rfl) rfl; have a8 := oa3 ((in_c 1 rfl)) i42b i42a; have oc := oc_135_1_46; omega
            have n17a : (u_2_0).toInt ≤ (z42b).toInt := by have a0 := oa7 ro_46_1 ((inv_F hIc17 448 28000 rfl v17_30_0)) ((inv_F hIc17 0 32 rfl v17_2_1)) ((inv_F hIc17 0 4000 rfl v17_2_0)) ((inv_F hIc17 0 1000 rfl v17_46_2)) i21 i62; have a7 := t_add e62 i21 (in_c 1 rfl) rfl; have a8 := oa3 ((in_c 1 rfl)) i42b i42a; have oc := oc_135_1_46; omega
            have n17b : KL s42 := by exact p42e
            have n17c : (∀ p : Nat, p < 160 → s42.1 18 p = s.1 4 p ∧ s42.1 19 p = s.1 5 p) ∧ s42.2.2.1 16 0 = s.2.2.1 2 0 ∧ s42.2.2.1 16 1 = s.2.2.1 2 1 := by exact ⟨fun p hp => by rw [hF42.1 18 rfl, hF42.1 19 rfl, hF28.1 18 rfl, hF28.1 19 rfl]; exact g17_1.1 p hp, by rw [hF42.2.2.1 16 0 rfl, hF28.2.2.1 16 0 rfl]; exact g17_1.2.1, by rw [hF42.2.2.1 16 1 rfl, hF28.2.2.1 16 1 rfl]; exact g17_1.2.2⟩
            have n17d : ∀ k : Nat, (k : Int) < 7 * (s.2.2.1 2 0).toInt → s42.1 30 k = s.1 30 k := by exact fun k hk => by rw [p42h k (by rw [hF28.2.2.1 2 0 rfl, ← v17_2_0]; rw [← e_2_0] at hk; have a0 := oa7 ro_46_1 ((inv_F hIc17 448 28000 rfl v17_30_0)) ((inv_F hIc17 0 32 rfl v17_2_1)) ((inv_F hIc17 0 4000 rfl v17_2_0)) ((inv_F hIc17 0 1000 rfl v17_46_2)) i21 i62; have a7 := t_add e62 i21 (in_c 1 rfl) rfl; have a8 := oa3 ((in_c 1 rfl)) i42b i42a; have oc := oc_135_1_46; omega), hF28.1 30 rfl]; exact g17_2 k hk
            have n17e : GEQ (gvS s42) (gvC s) ∧ TQS s42 := by exact ⟨by rw [gvS_cg hF42 rfl, gvS_cg hF28 rfl]; exact g17_3.1, tqs_fr (tqs_fr g17_3.2 hF28 rfl) hF42 rfl⟩
            have n17f : LRN (s.1 47) (s.2.2.1 46 1).toInt.toNat (gvC s) (z62).toInt.toNat (z42a).toInt.toNat (gvC s42) := by have hn9 := hk28 _ (p42i c45); rw [show z62.toInt.toNat = y17_2.toInt.toNat + 1 from (by have a0 := oa7 ro_46_1 ((inv_F hIc17 448 28000 rfl v17_30_0)) ((inv_F hIc17 0 32 rfl v17_2_1)) ((inv_F hIc17 0 4000 rfl v17_2_0)) ((inv_F hIc17 0 1000 rfl v17_46_2)) i21 i62; have a7 := t_add e62 i21 (in_c 1 rfl) rfl; have a8 := oa3 ((in_c 1 rfl)) i42b i42a; have oc := oc_135_1_46; omega), ((show z42a = s42.2.2.1 46 2 from e42))]; exact hn9
            have n17g : TQ s42 := by exact p42k c45
            have n17h : (s42.2.2.1 46 6).toInt = -1 ∧ (s42.2.2.1 46 7).toInt = -1 := by exact ⟨by rw [(p42l c45).1, hF28.2.2.1 46 6 rfl]; exact g17_6.1, by rw [(p42l c45).2, hF28.2.2.1 46 7 rfl]; exact g17_6.2⟩
            exact gg_w (by first | exact Nat.le_add_right _ _ | exact gw2 | exact gw3 | exact gwe rfl | exact gwf rfl | exact gwg rfl | exact gwh rfl | omega) (gg_f (gf_cons rfl (gf_cons rfl (gf_cons rfl gf_nil))) (ih17 s42 a42 (cc17 - lc s28) (cs17 - lsl s28) z62 z42a z42b _ _ hI42 (fr_tr rfl (fr_tr rfl hFc17 hF28) hF42) hr17 hr17a (in_w 0 2001 i62 rfl) e42 e42a rfl rfl n17 n17a n17b n17c n17d n17e n17f n17g n17h (m_up mm17 (t_add e62 i21 (in_c 1 rfl) rfl) (in_w 1 1 (in_c 1 rfl) rfl))))
          · skip
            have i45 := z_eq 0 0 c45 i42 rfl
            refine g_aload_n 49 (gd rfl) rfl rfl ?_
            refine g_getA (A := (ax A 30 a42)) (q := 1) (q2 := 2) 52 (gd rfl) rfl rfl rfl rfl ?_
            refine g_aload_n 53 (gd rfl) rfl rfl ?_
            refine g_getA (A := (ax A 30 a42)) (q := 1) (q2 := 16) 56 (gd rfl) rfl rfl rfl rfl ?_
            refine g_callv (X := _) (As := [.ref (A 16)]) (r := []) (b := A 2) (q := 2) 59 (gd rfl) rfl rfl rfl rfl rfl (ww_o rfl) (Nat.le_of_ble_eq_true rfl) (Nat.zero_le _) (Nat.zero_le _) (f_93_2_16 (A := (ax A 30 a42)) (by omega) hI42 ) (fun e u h => h) (fun v u h => ?_)
            obtain ⟨s56, hI56, hF56, rfl, rfl, p56, p56a, p56b, p56c, p56d, p56e, p56f, p56g, p56h⟩ := h
            show GG _ _ _ _ _ _ _ _ [] _ _ _
            refine g_bipush (-4) 61 (gd rfl) rfl rfl ?_
            have n61 : KL s56 := by have hFF : Fr fm_135_1_46 s s56 := (fr_tr rfl (fr_tr rfl (fr_tr rfl hFc17 hF28) hF42) hF56); exact kl_bk q_0 (fun k hk => by rw [hF56.1 30 rfl, p42h k (by rw [hF28.2.2.1 2 0 rfl, ← v17_2_0]; rw [← e_2_0] at hk; have a0 := oa7 ro_46_1 ((inv_F hIc17 448 28000 rfl v17_30_0)) ((inv_F hIc17 0 32 rfl v17_2_1)) ((inv_F hIc17 0 4000 rfl v17_2_0)) ((inv_F hIc17 0 1000 rfl v17_46_2)) i21 i42a; have oc := oc_135_1_46; omega), hF28.1 30 rfl]; exact g17_2 k hk) (by have h9 := p42e.2.1; rw [hF56.2.2.1 30 0 rfl]; rw [← hv42] at h9; rw [← e_2_0]; have a0 := oa7 ro_46_1 ((inv_F hIc17 448 28000 rfl v17_30_0)) ((inv_F hIc17 0 32 rfl v17_2_1)) ((inv_F hIc17 0 4000 rfl v17_2_0)) ((inv_F hIc17 0 1000 rfl v17_46_2)) i21 i42a; have oc := oc_135_1_46; omega) (by rw [p56b, hF42.2.2.1 16 0 rfl, hF28.2.2.1 16 0 rfl]; exact g17_1.2.1) (by rw [p56c, hF42.2.2.1 16 1 rfl, hF28.2.2.1 16 1 rfl]; exact g17_1.2.2) (kn_cp q_0.2.2.2.1.2 (fun p hp => by rw [p56 p hp, hF42.1 18 rfl, hF28.1 18 rfl]; exact (g17_1.1 p hp).1) (fun p hp => by rw [p56a p hp, hF42.1 19 rfl, hF28.1 19 rfl]; exact (g17_1.1 p hp).2)) (hFF.2.2.1 32 0 rfl) (hFF.2.2.1 32 1 rfl) (hFF.1 34 rfl) (hFF.1 35 rfl)
            have n61a : ((Int32.ofInt (-4))).toInt ≠ -4 → LOT (s.1 47) (s.2.2.1 46 1).toInt.toNat (gvC s) ((Int32.ofInt (-4))).toInt 0 0 (gvC s56) ∧ (s56.2.2.1 46 6).toInt = -1 ∧ (s56.2.2.1 46 7).toInt = -1 := by intro h; exact absurd rfl h
            have n61b : ((Int32.ofInt (-4))).toInt = -4 → LOT (s.1 47) (s.2.2.1 46 1).toInt.toNat (gvC s) (-4) (s56.2.2.1 46 6).toInt (s56.2.2.1 46 7).toInt (gvC s56) := by intro _; have h9 := p42j (by have a0 := oa7 ro_46_1 ((inv_F hIc17 448 28000 rfl v17_30_0)) ((inv_F hIc17 0 32 rfl v17_2_1)) ((inv_F hIc17 0 4000 rfl v17_2_0)) ((inv_F hIc17 0 1000 rfl v17_46_2)) i21 i42a; have oc := oc_135_1_46; omega) _ ht28; rw [hx28, hl28, hg28] at h9; refine Or.inr ⟨y17_2.toInt.toNat, w17_46_2.toInt.toNat, (s42.2.2.1 46 7).toInt.toNat, gvC sc17, g17_4, ?_, rfl, ?_, (show GEQ (gvC s56) (gvC s) from geq_t (show GEQ (gvC s56) (gvS s42) from ⟨p56d, p56, p56a, p56e, p56f, p56g, congrArg Int32.toInt p56c, congrArg Int32.toInt p56b⟩) (by rw [gvS_cg hF42 rfl, gvS_cg hF28 rfl]; exact g17_3.1))⟩; (rw [hF56.2.2.1 46 6 rfl]; exact h9); (rw [hF56.2.2.1 46 7 rfl]; have h8 := p42m (by have a0 := oa7 ro_46_1 ((inv_F hIc17 448 28000 rfl v17_30_0)) ((inv_F hIc17 0 32 rfl v17_2_1)) ((inv_F hIc17 0 4000 rfl v17_2_0)) ((inv_F hIc17 0 1000 rfl v17_46_2)) i21 i42a; have oc := oc_135_1_46; omega); omega)
            have n61c : TQ s56 := by intro p hp hn; rw [p56h]; exact (tqs_fr (tqs_fr g17_3.2 hF28 rfl) hF42 rfl) p hp (by rw [← p56 p hp]; exact hn)
            exact g_ireturn (gd rfl) rfl rfl (hP _ _ ⟨a42, s56, hI56, (fr_tr rfl (fr_tr rfl (fr_tr rfl hFc17 hF28) hF42) hF56), (Int32.ofInt (-4)), rfl, rfl, in_w (-4) 1000 (in_c (-4) rfl) rfl, n61, n61a, n61b, n61c⟩)
        · skip
          have i35 := z_eq 0 0 c35 i32 rfl
          refine g_iload_n 39 (gd rfl) rfl rfl ?_
          have n39 : KL s28 := by exact kl_fr g17_0 hF28 rfl
          have n39a : (y17_2).toInt ≠ -4 → LOT (s.1 47) (s.2.2.1 46 1).toInt.toNat (gvC s) (y17_2).toInt 0 0 (gvC s28) ∧ (s28.2.2.1 46 6).toInt = -1 ∧ (s28.2.2.1 46 7).toInt = -1 := by intro _; have h9 := ht28; rw [hx28, hl28, show (s28.2.2.1 46 3).toInt = 0 from (by rw [← (show z32 = s28.2.2.1 46 3 from e32)]; have a0 := oa9 ro_46_1 ((inv_F hIc17 448 28000 rfl v17_30_0)) ((inv_F hIc17 0 32 rfl v17_2_1)) ((inv_F hIc17 0 4000 rfl v17_2_0)) ((inv_F hIc17 0 1000 rfl v17_46_2)) i21 i35 i28b i28a; have oc := oc_135_1_46; omega)] at h9; exact ⟨Or.inl ⟨y17_2.toInt.toNat, w17_46_2.toInt.toNat, gvC sc17, g17_4, ⟨_, _, _, h9⟩, (by have a0 := oa9 ro_46_1 ((inv_F hIc17 448 28000 rfl v17_30_0)) ((inv_F hIc17 0 32 rfl v17_2_1)) ((inv_F hIc17 0 4000 rfl v17_2_0)) ((inv_F hIc17 0 1000 rfl v17_46_2)) i21 i35 i28b i28a; have oc := oc_135_1_46; omega), rfl, by rw [hg28]; exact geq_r⟩, by rw [hF28.2.2.1 46 6 rfl]; exact g17_6.1, by rw [hF28.2.2.1 46 7 rfl]; exact g17_6.2⟩
          have n39b : (y17_2).toInt = -4 → LOT (s.1 47) (s.2.2.1 46 1).toInt.toNat (gvC s) (-4) (s28.2.2.1 46 6).toInt (s28.2.2.1 46 7).toInt (gvC s28) := by intro h; exfalso; have a0 := oa9 ro_46_1 ((inv_F hIc17 448 28000 rfl v17_30_0)) ((inv_F hIc17 0 32 rfl v17_2_1)) ((inv_F hIc17 0 4000 rfl v17_2_0)) ((inv_F hIc17 0 1000 rfl v17_46_2)) i21 i35 i28b i28a; have oc := oc_135_1_46; omega
          have n39c : TQ s28 := by exact tq_fr g17_5 hF28 rfl
          exact g_ireturn (gd rfl) rfl rfl (hP _ _ ⟨ac17, s28, hI28, (fr_tr rfl hFc17 hF28), y17_2, rfl, rfl, in_w (-4) 1000 i21 rfl, n39, n39a, n39b, n39c⟩)
  refine g_enter2 (k := 135) (N := 1802701) (by first | exact dq1 hd rfl | exact dq0 hd rfl | exact dq2 hd rfl | exact dq3 hd rfl | omega) rfl (Nat.le_of_ble_eq_true rfl) ?_
  refine g_aload_n 1 (gd rfl) rfl rfl ?_
  refine g_getA (q2 := 16) 4 (gd rfl) rfl rfl rfl rfl ?_
  refine g_aload_n 5 (gd rfl) rfl rfl ?_
  refine g_getA (q2 := 2) 8 (gd rfl) rfl rfl rfl rfl ?_
  refine g_callv (X := _) (As := [.ref (A 2)]) (r := []) (b := A 16) (q := 16) 11 (gd rfl) rfl rfl rfl rfl rfl (ww_o rfl) (Nat.le_of_ble_eq_true rfl) (Nat.zero_le _) (Nat.zero_le _) (f_93_16_2 (by first | exact dq1 hd rfl | exact dq0 hd rfl | exact dq2 hd rfl | exact dq3 hd rfl | omega) hI ) (fun e u h => h) (fun v u h => ?_)
  obtain ⟨s8, hI8, hF8, rfl, rfl, p8, p8a, p8b, p8c, p8d, p8e, p8f, p8g, p8h⟩ := h
  show GG _ _ _ _ _ _ _ _ [] _ _ _
  refine g_aload_n 12 (gd rfl) rfl rfl ?_
  refine g_callv (X := _) (As := []) (r := []) (b := A 46) (q := 46) 15 (gd rfl) rfl rfl rfl rfl rfl (ww_o rfl) (Nat.le_of_ble_eq_true rfl) (mc := 0) (ms := 0) (Nat.zero_le _) (Nat.zero_le _) (P := fun v u => _) ?_ (fun e u h => h) (fun v u h => h)
  intro po12 xx12 hp12 hx12
  refine g_enter2 (k := 167) (N := 300) (by first | exact dq1 hd rfl | exact dq0 hd rfl | exact dq2 hd rfl | exact dq3 hd rfl | omega) rfl (Nat.le_of_ble_eq_true rfl) ?_
  refine g_aload_n 1 (gd rfl) rfl rfl ?_
  refine g_iconst 0 2 (gd rfl) rfl rfl ?_
  refine g_putI 5 (gd rfl) rfl rfl rfl rfl ?_
  have hI12x2 := inv_sF (q := 46) (j := 2) hI8 rfl (in_w 0 1000 (in_c 0 rfl) rfl)
  refine g_aload_n 6 (gd rfl) rfl rfl ?_
  refine g_iconst (-1) 7 (gd rfl) rfl rfl ?_
  refine g_putI 10 (gd rfl) rfl rfl rfl rfl ?_
  have hI12x7 := inv_sF (q := 46) (j := 6) hI12x2 rfl (in_w (-1) 5 (in_c (-1) rfl) rfl)
  refine g_aload_n 11 (gd rfl) rfl rfl ?_
  refine g_iconst (-1) 12 (gd rfl) rfl rfl ?_
  refine g_putI 15 (gd rfl) rfl rfl rfl rfl ?_
  have hI12x12 := inv_sF (q := 46) (j := 7) hI12x7 rfl (in_w (-1) 1000 (in_c (-1) rfl) rfl)
  refine g_return (gd rfl) rfl (hp12 _ _ ?_)
  show GG _ _ _ _ _ _ _ _ [] _ _ _
  refine g_iconst 0 16 (gd rfl) rfl rfl ?_
  refine g_istore_n 17 (gd rfl) rfl (Nat.le_of_ble_eq_true rfl) ?_
  have hr17 : lgC (sF (sF (sF s8 46 2 (Int32.ofInt 0)) 46 6 (Int32.ofInt (-1))) 46 7 (Int32.ofInt (-1))) ≤ (lgC s) := by exact Nat.le_of_eq (lg_cg ((show Fr ([17, 18, 19, 20, 21, 22], [], [(16, 0), (16, 1), (16, 2), (16, 3), (16, 4), (46, 2), (46, 6), (46, 7)], []) s (sF (sF (sF s8 46 2 (Int32.ofInt 0)) 46 6 (Int32.ofInt (-1))) 46 7 (Int32.ofInt (-1))) from (fr_sF rfl (fr_sF rfl (fr_sF rfl (fr_tr rfl fr_rf hF8))))).2.2.1 30 0 rfl)).1
  have hr17a : lgS (sF (sF (sF s8 46 2 (Int32.ofInt 0)) 46 6 (Int32.ofInt (-1))) 46 7 (Int32.ofInt (-1))) ≤ (lgS s) := by exact Nat.le_of_eq (lg_cg ((show Fr ([17, 18, 19, 20, 21, 22], [], [(16, 0), (16, 1), (16, 2), (16, 3), (16, 4), (46, 2), (46, 6), (46, 7)], []) s (sF (sF (sF s8 46 2 (Int32.ofInt 0)) 46 6 (Int32.ofInt (-1))) 46 7 (Int32.ofInt (-1))) from (fr_sF rfl (fr_sF rfl (fr_sF rfl (fr_tr rfl fr_rf hF8))))).2.2.1 30 0 rfl)).2
  rw [show WW Z A (sF (sF (sF s8 46 2 (Int32.ofInt 0)) 46 6 (Int32.ofInt (-1))) 46 7 (Int32.ofInt (-1))) ++ ex = WW Z (ax A 30 (A 30)) (sF (sF (sF s8 46 2 (Int32.ofInt 0)) 46 6 (Int32.ofInt (-1))) 46 7 (Int32.ofInt (-1))) ++ ex from by rw [ax_id]]
  have v17 : (Int32.ofInt 0) = (sF (sF (sF s8 46 2 (Int32.ofInt 0)) 46 6 (Int32.ofInt (-1))) 46 7 (Int32.ofInt (-1))).2.2.1 46 2 := sF_ne rfl (sF_ne rfl (sF_get))
  have v17a : u_2_0 = (sF (sF (sF s8 46 2 (Int32.ofInt 0)) 46 6 (Int32.ofInt (-1))) 46 7 (Int32.ofInt (-1))).2.2.1 2 0 := sF_ne rfl (sF_ne rfl (sF_ne rfl (fr_F (e_2_0) hF8 rfl)))
  have v17b : u_2_1 = (sF (sF (sF s8 46 2 (Int32.ofInt 0)) 46 6 (Int32.ofInt (-1))) 46 7 (Int32.ofInt (-1))).2.2.1 2 1 := sF_ne rfl (sF_ne rfl (sF_ne rfl (fr_F (e_2_1) hF8 rfl)))
  have v17c : u_30_0 = (sF (sF (sF s8 46 2 (Int32.ofInt 0)) 46 6 (Int32.ofInt (-1))) 46 7 (Int32.ofInt (-1))).2.2.1 30 0 := sF_ne rfl (sF_ne rfl (sF_ne rfl (fr_F (e_30_0) hF8 rfl)))
  have n17 : ((Int32.ofInt 0)).toInt ≤ (u_46_1).toInt := by have a0 := oa6 ((inv_F hI 0 1000 rfl e_46_1)) ((inv_F hI 448 28000 rfl e_30_0)) ((inv_F hI 0 32 rfl e_2_1)) ((inv_F hI 0 4000 rfl e_2_0)) ((in_c 0 rfl)) ((in_c (-1) rfl)); have oc := oc_135_1_46; omega
  have n17a : (u_2_0).toInt ≤ (u_2_0).toInt := by exact Int.le_refl _
  have n17b : KL (sF (sF (sF s8 46 2 (Int32.ofInt 0)) 46 6 (Int32.ofInt (-1))) 46 7 (Int32.ofInt (-1))) := by exact kl_fr q_0 (show Fr ([17, 18, 19, 20, 21, 22], [], [(16, 0), (16, 1), (16, 2), (16, 3), (16, 4), (46, 2), (46, 6), (46, 7)], []) s (sF (sF (sF s8 46 2 (Int32.ofInt 0)) 46 6 (Int32.ofInt (-1))) 46 7 (Int32.ofInt (-1))) from (fr_sF rfl (fr_sF rfl (fr_sF rfl (fr_tr rfl fr_rf hF8))))) rfl
  have n17c : (∀ p : Nat, p < 160 → (sF (sF (sF s8 46 2 (Int32.ofInt 0)) 46 6 (Int32.ofInt (-1))) 46 7 (Int32.ofInt (-1))).1 18 p = s.1 4 p ∧ (sF (sF (sF s8 46 2 (Int32.ofInt 0)) 46 6 (Int32.ofInt (-1))) 46 7 (Int32.ofInt (-1))).1 19 p = s.1 5 p) ∧ (sF (sF (sF s8 46 2 (Int32.ofInt 0)) 46 6 (Int32.ofInt (-1))) 46 7 (Int32.ofInt (-1))).2.2.1 16 0 = s.2.2.1 2 0 ∧ (sF (sF (sF s8 46 2 (Int32.ofInt 0)) 46 6 (Int32.ofInt (-1))) 46 7 (Int32.ofInt (-1))).2.2.1 16 1 = s.2.2.1 2 1 := by exact ⟨fun p hp => ⟨p8 p hp, p8a p hp⟩, p8b, p8c⟩
  have n17d : ∀ k : Nat, (k : Int) < 7 * (s.2.2.1 2 0).toInt → (sF (sF (sF s8 46 2 (Int32.ofInt 0)) 46 6 (Int32.ofInt (-1))) 46 7 (Int32.ofInt (-1))).1 30 k = s.1 30 k := by exact fun k _ => by rw [(show Fr ([17, 18, 19, 20, 21, 22], [], [(16, 0), (16, 1), (16, 2), (16, 3), (16, 4), (46, 2), (46, 6), (46, 7)], []) s (sF (sF (sF s8 46 2 (Int32.ofInt 0)) 46 6 (Int32.ofInt (-1))) 46 7 (Int32.ofInt (-1))) from (fr_sF rfl (fr_sF rfl (fr_sF rfl (fr_tr rfl fr_rf hF8))))).1 30 rfl]
  have n17e : GEQ (gvS (sF (sF (sF s8 46 2 (Int32.ofInt 0)) 46 6 (Int32.ofInt (-1))) 46 7 (Int32.ofInt (-1)))) (gvC s) ∧ TQS (sF (sF (sF s8 46 2 (Int32.ofInt 0)) 46 6 (Int32.ofInt (-1))) 46 7 (Int32.ofInt (-1))) := by exact ⟨⟨p8d, p8, p8a, p8e, p8f, p8g, congrArg Int32.toInt p8c, congrArg Int32.toInt p8b⟩, fun p hp hn => by have h9 := q_1 p hp (by rw [← p8 p hp]; exact hn); rw [← p8h] at h9; exact h9⟩
  have n17f : LRN (s.1 47) (s.2.2.1 46 1).toInt.toNat (gvC s) ((Int32.ofInt 0)).toInt.toNat ((Int32.ofInt 0)).toInt.toNat (gvC (sF (sF (sF s8 46 2 (Int32.ofInt 0)) 46 6 (Int32.ofInt (-1))) 46 7 (Int32.ofInt (-1)))) := by exact ⟨rfl, gvC_cg (show Fr ([17, 18, 19, 20, 21, 22], [], [(16, 0), (16, 1), (16, 2), (16, 3), (16, 4), (46, 2), (46, 6), (46, 7)], []) s (sF (sF (sF s8 46 2 (Int32.ofInt 0)) 46 6 (Int32.ofInt (-1))) 46 7 (Int32.ofInt (-1))) from (fr_sF rfl (fr_sF rfl (fr_sF rfl (fr_tr rfl fr_rf hF8))))) rfl⟩
  have n17g : TQ (sF (sF (sF s8 46 2 (Int32.ofInt 0)) 46 6 (Int32.ofInt (-1))) 46 7 (Int32.ofInt (-1))) := by exact tq_fr q_1 (show Fr ([17, 18, 19, 20, 21, 22], [], [(16, 0), (16, 1), (16, 2), (16, 3), (16, 4), (46, 2), (46, 6), (46, 7)], []) s (sF (sF (sF s8 46 2 (Int32.ofInt 0)) 46 6 (Int32.ofInt (-1))) 46 7 (Int32.ofInt (-1))) from (fr_sF rfl (fr_sF rfl (fr_sF rfl (fr_tr rfl fr_rf hF8))))) rfl
  have n17h : ((sF (sF (sF s8 46 2 (Int32.ofInt 0)) 46 6 (Int32.ofInt (-1))) 46 7 (Int32.ofInt (-1))).2.2.1 46 6).toInt = -1 ∧ ((sF (sF (sF s8 46 2 (Int32.ofInt 0)) 46 6 (Int32.ofInt (-1))) 46 7 (Int32.ofInt (-1))).2.2.1 46 7).toInt = -1 := by exact ⟨by rw [← (show (Int32.ofInt (-1)) = (sF (sF (sF s8 46 2 (Int32.ofInt 0)) 46 6 (Int32.ofInt (-1))) 46 7 (Int32.ofInt (-1))).2.2.1 46 6 from sF_ne rfl (sF_get))]; rfl, by rw [← (show (Int32.ofInt (-1)) = (sF (sF (sF s8 46 2 (Int32.ofInt 0)) 46 6 (Int32.ofInt (-1))) 46 7 (Int32.ofInt (-1))).2.2.1 46 7 from sF_get)]; rfl⟩
  exact gg_w (by first | exact Nat.le_of_ble_eq_true rfl | omega) (gg_f (gf_cons rfl (gf_cons rfl (gf_cons rfl gf_nil))) (ct17 2002 (sF (sF (sF s8 46 2 (Int32.ofInt 0)) 46 6 (Int32.ofInt (-1))) 46 7 (Int32.ofInt (-1))) (A 30) (lgC s) (lgS s) (Int32.ofInt 0) (Int32.ofInt 0) u_2_0 u_2_1 u_30_0 hI12x12 (fr_sF rfl (fr_sF rfl (fr_sF rfl (fr_tr rfl fr_rf hF8)))) hr17 hr17a (in_w 0 2001 (in_c 0 rfl) rfl) v17 v17a v17b v17c n17 n17a n17b n17c n17d n17e n17f n17g n17h (m_in 2002 (in_w 0 2001 (in_c 0 rfl) rfl) rfl)))

/-- GraphHouse.load -/
theorem f_225_0 {Z : AmZ} {A : Nat → Nat} {s : GS} {ex : va_W} {d : Nat} {X : AmX} {u_2_0 : Int32} {u_2_1 : Int32} {u_30_0 : Int32} (hd : 11 ≤ d) (hI : Inv s) (e_2_0 : u_2_0 = s.2.2.1 2 0) (e_2_1 : u_2_1 = s.2.2.1 2 1) (e_30_0 : u_30_0 = s.2.2.1 30 0) (q_0 : KL s) (q_1 : TQ s) : GC Z d 225 [.ref (A 0)] (WW Z A s ++ ex) 3943 83130 (fun v u => ∃ a : Nat, ∃ t : GS, Inv t ∧ Fr fm_225_0 s t ∧ ∃ z : Int32, v = some (.int z) ∧ u = WW Z (ax A 30 a) t ++ ex ∧ In z (-4) 1000 ∧ (KL t) ∧ (((z).toInt ≠ -4 → LOT (s.1 47) (s.2.2.1 46 1).toInt.toNat (gvC s) (z).toInt 0 0 (gvC t) ∧ (t.2.2.1 46 6).toInt = -1 ∧ (t.2.2.1 46 7).toInt = -1) ∧ ((z).toInt = -4 → LOT (s.1 47) (s.2.2.1 46 1).toInt.toNat (gvC s) (-4) (t.2.2.1 46 6).toInt (t.2.2.1 46 7).toInt (gvC t)) ∧ TQ t)) X := by
  intro post xp hP hX
  refine g_enter2 (k := 225) (N := 900) (by first | exact dq1 hd rfl | exact dq0 hd rfl | exact dq2 hd rfl | exact dq3 hd rfl | omega) rfl (Nat.le_of_ble_eq_true rfl) ?_
  refine g_aload_n 1 (gd rfl) rfl rfl ?_
  refine g_getA (q2 := 1) 4 (gd rfl) rfl rfl rfl rfl ?_
  refine g_aload_n 5 (gd rfl) rfl rfl ?_
  refine g_getA (q2 := 46) 8 (gd rfl) rfl rfl rfl rfl ?_
  have p8 : KL s := by exact q_0
  have p8a : TQ s := by exact q_1
  refine g_callv (X := _) (As := [.ref (A 46)]) (r := []) (b := A 1) (q := 1) 11 (gd rfl) rfl rfl rfl rfl rfl (ww_o rfl) (Nat.le_of_ble_eq_true rfl) (Nat.le_trans (lgC_le (inv_F hI 448 28000 (q := 30) (j := 0) rfl rfl)) (Nat.le_of_ble_eq_true rfl)) (Nat.le_trans (lgS_le (inv_F hI 448 28000 (q := 30) (j := 0) rfl rfl)) (Nat.le_of_ble_eq_true rfl)) (f_135_1_46 (by first | exact dq1 hd rfl | exact dq0 hd rfl | exact dq2 hd rfl | exact dq3 hd rfl | omega) hI e_2_0 e_2_1 e_30_0 rfl p8 p8a) (fun e u h => h) (fun v u h => ?_)
  obtain ⟨a8, s8, hI8, hF8, z8, rfl, rfl, i8, p8b, p8c, p8d, p8e⟩ := h
  show GG _ _ _ _ _ _ _ _ [.int z8] _ _ _
  have n11 : KL s8 := by exact p8b
  have n11a : ((z8).toInt ≠ -4 → LOT (s.1 47) (s.2.2.1 46 1).toInt.toNat (gvC s) (z8).toInt 0 0 (gvC s8) ∧ (s8.2.2.1 46 6).toInt = -1 ∧ (s8.2.2.1 46 7).toInt = -1) ∧ ((z8).toInt = -4 → LOT (s.1 47) (s.2.2.1 46 1).toInt.toNat (gvC s) (-4) (s8.2.2.1 46 6).toInt (s8.2.2.1 46 7).toInt (gvC s8)) ∧ TQ s8 := by exact ⟨p8c, p8d, p8e⟩
  exact g_ireturn (gd rfl) rfl rfl (hP _ _ ⟨a8, s8, hI8, (fr_tr rfl fr_rf hF8), z8, rfl, rfl, in_w (-4) 1000 i8 rfl, n11, n11a⟩)

theorem oc_298_109 : (Int32.ofInt (-1)).toInt = (-1) ∧ (Int32.ofInt 0).toInt = 0 ∧ (Int32.ofInt 1).toInt = 1 := ⟨rfl, rfl, rfl⟩
/-- GraphHouseModel.blame -/
theorem f_298 {Z : AmZ} {A : Nat → Nat} {s : GS} {ex : va_W} {d : Nat} {X : AmX} {x1 : Int32} {x2 : Int32} {u_109_23 : Int32} (hd : 1 ≤ d) (hI : Inv s) (h1 : In x1 1 5) (e_109_23 : u_109_23 = s.2.2.1 109 23) : GC Z d 298 [.ref (A 109), .int x1, .int x2] (WW Z A s ++ ex) 0 0 (fun v u => ∃ t : GS, Inv t ∧ Fr fm_298 s t ∧ (1 ≤ (t.2.2.1 109 23).toInt) ∧ v = none ∧ u = WW Z A t ++ ex ∧ (FBL s t (x1).toInt (x2).toInt)) X := by
  intro post xp hP hX
  refine g_enter2 (k := 298) (N := 900) (by first | exact dq1 hd rfl | exact dq0 hd rfl | exact dq2 hd rfl | exact dq3 hd rfl | omega) rfl (Nat.le_of_ble_eq_true rfl) ?_
  refine g_aload_n 1 (gd rfl) rfl rfl ?_
  refine g_getI 4 (gd rfl) rfl rfl rfl (fun z1 e1 => ?_)
  have q1 : u_109_23 = z1 := (e_109_23).trans e1.symm
  subst q1
  refine g_if_ne 7 17 (gd rfl) rfl rfl (fun c4 => ?_) (fun c4 => ?_)
  · skip
    have i4 := z_ne 1 9 c4 (inv_F hI 0 9 rfl e_109_23) rfl
    have n17 : FBL s s (x1).toInt (x2).toInt := by exact ⟨fun h => by exfalso; rw [← e_109_23] at h; have a0 := oa2 i4 h1; have oc := oc_298_109; omega, fun _ => ⟨rfl, rfl⟩⟩
    have n17a : 1 ≤ (u_109_23).toInt := by have a0 := oa2 i4 h1; have oc := oc_298_109; omega
    have n17b : 1 ≤ (s.2.2.1 109 23).toInt := by have b0 : u_109_23 = s.2.2.1 109 23 := e_109_23; rw [← b0]; exact n17a
    exact g_return (gd rfl) rfl (hP _ _ ⟨s, hI, fr_rf, n17b, rfl, rfl, n17⟩)
  · skip
    have i4 := z_eq 0 0 c4 (inv_F hI 0 9 rfl e_109_23) rfl
    refine g_aload_n 8 (gd rfl) rfl rfl ?_
    refine g_iload_n 9 (gd rfl) rfl rfl ?_
    refine g_putI 12 (gd rfl) rfl rfl rfl rfl ?_
    have hI9 := inv_sF (q := 109) (j := 23) hI rfl (in_w 0 9 h1 rfl)
    refine g_aload_n 13 (gd rfl) rfl rfl ?_
    refine g_iload_n 14 (gd rfl) rfl rfl ?_
    refine g_putI 17 (gd rfl) rfl rfl rfl rfl ?_
    have hI14 := inv_sF (q := 109) (j := 24) hI9 rfl (in_w (-2147483648) 2147483647 (i_rng x2) rfl)
    have n17 : FBL s (sF (sF s 109 23 x1) 109 24 x2) (x1).toInt (x2).toInt := by exact ⟨fun _ => ⟨congrArg Int32.toInt ((show x1 = (sF (sF s 109 23 x1) 109 24 x2).2.2.1 109 23 from sF_ne rfl (sF_get))).symm, congrArg Int32.toInt ((show x2 = (sF (sF s 109 23 x1) 109 24 x2).2.2.1 109 24 from sF_get)).symm⟩, fun h => by exfalso; rw [← e_109_23] at h; have a0 := oa2 i4 h1; have oc := oc_298_109; omega⟩
    have n17a : 1 ≤ (x1).toInt := by have a0 := oa2 i4 h1; have oc := oc_298_109; omega
    have n17b : 1 ≤ ((sF (sF s 109 23 x1) 109 24 x2).2.2.1 109 23).toInt := by have b0 : x1 = (sF (sF s 109 23 x1) 109 24 x2).2.2.1 109 23 := sF_ne rfl (sF_get); rw [← b0]; exact n17a
    exact g_return (gd rfl) rfl (hP _ _ ⟨(sF (sF s 109 23 x1) 109 24 x2), hI14, (fr_sF rfl (fr_sF rfl fr_rf)), n17b, rfl, rfl, n17⟩)

theorem oc_300_109 : (Int32.ofInt (-1)).toInt = (-1) ∧ (Int32.ofInt 0).toInt = 0 ∧ (Int32.ofInt 1).toInt = 1 ∧ (Int32.ofInt 3).toInt = 3 ∧ (Int32.ofInt 7).toInt = 7 ∧ (Int32.ofInt 48).toInt = 48 ∧ (Int32.ofInt 57).toInt = 57 ∧ (Int64.ofInt 0).toInt = 0 ∧ (Int64.ofInt 10).toInt = 10 ∧ (Int64.ofInt 48).toInt = 48 := ⟨rfl, rfl, rfl, rfl, rfl, rfl, rfl, rfl, rfl, rfl⟩
/-- GraphHouseModel.readNumber -/
theorem f_300 {Z : AmZ} {A : Nat → Nat} {s : GS} {ex : va_W} {d : Nat} {X : AmX} {x1 : Int32} {u_109_27 : Int32} {u_109_22 : Int32} (hd : 3 ≤ d) (hI : Inv s) (h1 : In x1 7 7) (e_109_27 : u_109_27 = s.2.2.1 109 27) (e_109_22 : u_109_22 = s.2.2.1 109 22) (p_0 : (u_109_27).toInt < (u_109_22).toInt) (q_0 : 48 ≤ (s.1 125 (s.2.2.1 109 27).toNatClampNeg).toInt ∧ (s.1 125 (s.2.2.1 109 27).toNatClampNeg).toInt ≤ 57) : GC Z d 300 [.ref (A 109), .int x1] (WW Z A s ++ ex) 0 0 (fun v u => ∃ t : GS, Inv t ∧ Fr fm_300 s t ∧ ((t.2.2.1 109 27).toInt ≤ (t.2.2.1 109 22).toInt) ∧ ((s.2.2.1 109 27).toInt + 1 ≤ (t.2.2.1 109 27).toInt) ∧ v = none ∧ u = WW Z A t ++ ex ∧ (tkG (s.1 125) (s.2.2.1 109 22).toInt.toNat (s.2.2.1 109 27).toInt.toNat (t.2.2.1 109 27).toInt.toNat ∧ (((t.2.2.1 109 27).toInt.toNat - (s.2.2.1 109 27).toInt.toNat ≤ 7 ∧ (t.2.2.2.1 109 31).toInt = tkN (s.1 125) (s.2.2.1 109 27).toInt.toNat ((t.2.2.1 109 27).toInt.toNat - (s.2.2.1 109 27).toInt.toNat) ∧ FSM s t) ∨ (7 < (t.2.2.1 109 27).toInt.toNat - (s.2.2.1 109 27).toInt.toNat ∧ FBL s t 3 (s.2.2.1 109 29).toInt)))) X := by
  intro post xp hP hX
  have ro_109_22 := inv_F hI 0 1000 rfl e_109_22
  obtain ⟨u_109_29, e_109_29⟩ : ∃ w, w = s.2.2.1 109 29 := ⟨_, rfl⟩
  have ro_109_29 := inv_F hI 0 1000 rfl e_109_29
  have ct10 : ∀ (k10 : Nat) (sc10 : GS) (y10_2 : Int32) (w10_109_27 : Int32), Inv sc10 → Fr fm_300 s sc10 → (In y10_2 0 1000) → (w10_109_27 = sc10.2.2.1 109 27) → ((w10_109_27).toInt ≤ (u_109_22).toInt) → ((u_109_27).toInt ≤ (w10_109_27).toInt) → ((y10_2).toInt = (u_109_27).toInt) → ((∀ i : Nat, (s.2.2.1 109 27).toInt.toNat ≤ i → (i : Int) < (w10_109_27).toInt → tkD (s.1 125 i)) ∧ ((w10_109_27).toInt.toNat - (s.2.2.1 109 27).toInt.toNat ≤ 7 → (sc10.2.2.2.1 109 31).toInt = tkN (s.1 125) (s.2.2.1 109 27).toInt.toNat ((w10_109_27).toInt.toNat - (s.2.2.1 109 27).toInt.toNat))) → (FSM s sc10) → (u_109_22).toInt - (w10_109_27).toInt < (k10 : Int) → GG Z (d - 1) 300 post (gx xp) (1 + k10 * 900) 10 (fun j => xlook j [(0, .ref (A 109)), (1, .int x1), (2, .int y10_2)]) [] (WW Z A sc10 ++ ex) 0 0 := by
    intro k10
    induction k10 with
    | zero => intro sc10 y10_2 w10_109_27 hIc10 hFc10 j10_2 v10_109_27 n10_0 n10_1 n10_2 g10_0 g10_1 mm10; exfalso; have a0 := oa4 h1 ro_109_29 ro_109_22 ((inv_F hIc10 0 1000 rfl v10_109_27)); have a4 := j10_2; unfold In at a4; have oc := oc_300_109; omega
    | succ k10 ih10 =>
      intro sc10 y10_2 w10_109_27 hIc10 hFc10 j10_2 v10_109_27 n10_0 n10_1 n10_2 g10_0 g10_1 mm10
      refine gg_w (M := 1 + k10 * 900 + 900) gws ?_
      refine g_aload_n 11 (gd rfl) rfl rfl ?_
      refine g_getI 14 (gd rfl) rfl rfl rfl (fun z11 e11 => ?_)
      have q11 : w10_109_27 = z11 := (v10_109_27).trans e11.symm
      subst q11
      refine g_aload_n 15 (gd rfl) rfl rfl ?_
      refine g_getI 18 (gd rfl) rfl rfl rfl (fun z15 e15 => ?_)
      have q15 : u_109_22 = z15 := (fr_F e_109_22 hFc10 rfl).trans e15.symm
      subst q15
      refine g_cmp_ge 21 93 (gd rfl) rfl rfl (fun c18 => ?_) (fun c18 => ?_)
      · skip
        have hq93 : (u_109_27).toInt + 1 ≤ (w10_109_27).toInt := (by first | (have a0 := oa5 h1 ro_109_29 ro_109_22 ((inv_F hIc10 0 1000 rfl v10_109_27)) j10_2; have oc := oc_300_109; omega) | (have hi := i30x3; unfold In at hi; have a0 := oa5 h1 ro_109_29 ro_109_22 ((inv_F hIc10 0 1000 rfl v10_109_27)) j10_2; have oc := oc_300_109; omega) | (have hi := i30x9; unfold In at hi; have a0 := oa5 h1 ro_109_29 ro_109_22 ((inv_F hIc10 0 1000 rfl v10_109_27)) j10_2; have oc := oc_300_109; omega))
        refine g_aload_n 94 (gd rfl) rfl rfl ?_
        refine g_getI 97 (gd rfl) rfl rfl rfl (fun z94 e94 => ?_)
        have q94 : w10_109_27 = z94 := (v10_109_27).trans e94.symm
        subst q94
        refine g_iload_n 98 (gd rfl) rfl rfl ?_
        refine g_isub 99 (gd rfl) rfl (fun z98 e98 => ?_)
        have i98 := in_sub (-1000) 1000 e98 (inv_F hIc10 0 1000 rfl v10_109_27) j10_2 rfl rfl
        refine g_iload_n 100 (gd rfl) rfl rfl ?_
        refine g_cmp_le 103 122 (gd rfl) rfl rfl (fun c100 => ?_) (fun c100 => ?_)
        · skip
          have i100 := r_le1 (-1000) 7 c100 i98 h1 rfl
          have n122 : tkG (s.1 125) (s.2.2.1 109 22).toInt.toNat (s.2.2.1 109 27).toInt.toNat (sc10.2.2.1 109 27).toInt.toNat ∧ (((sc10.2.2.1 109 27).toInt.toNat - (s.2.2.1 109 27).toInt.toNat ≤ 7 ∧ (sc10.2.2.2.1 109 31).toInt = tkN (s.1 125) (s.2.2.1 109 27).toInt.toNat ((sc10.2.2.1 109 27).toInt.toNat - (s.2.2.1 109 27).toInt.toNat) ∧ FSM s sc10) ∨ (7 < (sc10.2.2.1 109 27).toInt.toNat - (s.2.2.1 109 27).toInt.toNat ∧ FBL s sc10 3 (s.2.2.1 109 29).toInt)) := by have g9 := g10_0; rw [← e_109_27] at g9; have hw : w10_109_27.toNatClampNeg = w10_109_27.toInt.toNat := rfl; rw [← (show w10_109_27 = sc10.2.2.1 109 27 from v10_109_27), ← e_109_22, ← e_109_27]; refine ⟨⟨by have a0 := oa6 h1 ro_109_29 ro_109_22 ((inv_F hIc10 0 1000 rfl v10_109_27)) j10_2 i100; have a6 := t_sub e98 (inv_F hIc10 0 1000 rfl v10_109_27) j10_2 rfl; have oc := oc_300_109; omega, by have a0 := oa6 h1 ro_109_29 ro_109_22 ((inv_F hIc10 0 1000 rfl v10_109_27)) j10_2 i100; have a6 := t_sub e98 (inv_F hIc10 0 1000 rfl v10_109_27) j10_2 rfl; have oc := oc_300_109; omega, fun i a b => g9.1 i a (by have a0 := oa6 h1 ro_109_29 ro_109_22 ((inv_F hIc10 0 1000 rfl v10_109_27)) j10_2 i100; have a6 := t_sub e98 (inv_F hIc10 0 1000 rfl v10_109_27) j10_2 rfl; have oc := oc_300_109; omega), (fun h => absurd h (by have a0 := oa6 h1 ro_109_29 ro_109_22 ((inv_F hIc10 0 1000 rfl v10_109_27)) j10_2 i100; have a6 := t_sub e98 (inv_F hIc10 0 1000 rfl v10_109_27) j10_2 rfl; have oc := oc_300_109; omega))⟩, ?_⟩; exact Or.inl ⟨by have a0 := oa6 h1 ro_109_29 ro_109_22 ((inv_F hIc10 0 1000 rfl v10_109_27)) j10_2 i100; have a6 := t_sub e98 (inv_F hIc10 0 1000 rfl v10_109_27) j10_2 rfl; have oc := oc_300_109; omega, g9.2 (by have a0 := oa6 h1 ro_109_29 ro_109_22 ((inv_F hIc10 0 1000 rfl v10_109_27)) j10_2 i100; have a6 := t_sub e98 (inv_F hIc10 0 1000 rfl v10_109_27) j10_2 rfl; have oc := oc_300_109; omega), g10_1⟩
          have n122a : (w10_109_27).toInt ≤ (u_109_22).toInt := by first | exact n10_0 | (have a0 := oa6 h1 ro_109_29 ro_109_22 ((inv_F hIc10 0 1000 rfl v10_109_27)) j10_2 i100; have a6 := t_sub e98 (inv_F hIc10 0 1000 rfl v10_109_27) j10_2 rfl; have oc := oc_300_109; omega)
          have n122b : (sc10.2.2.1 109 27).toInt ≤ (sc10.2.2.1 109 22).toInt := by have b0 : w10_109_27 = sc10.2.2.1 109 27 := v10_109_27; have b1 : u_109_22 = sc10.2.2.1 109 22 := fr_F e_109_22 hFc10 rfl; rw [← b0, ← b1]; exact n122a
          have n122c : (u_109_27).toInt + 1 ≤ (w10_109_27).toInt := by have a0 := oa6 h1 ro_109_29 ro_109_22 ((inv_F hIc10 0 1000 rfl v10_109_27)) j10_2 i100; have a6 := t_sub e98 (inv_F hIc10 0 1000 rfl v10_109_27) j10_2 rfl; have oc := oc_300_109; omega
          have n122d : (s.2.2.1 109 27).toInt + 1 ≤ (sc10.2.2.1 109 27).toInt := by have b0 : w10_109_27 = sc10.2.2.1 109 27 := v10_109_27; first | (rw [← b0, ← e_109_27]; exact n122c) | (rw [← b0]; exact n122c)
          exact g_return (gd rfl) rfl (hP _ _ ⟨sc10, hIc10, hFc10, n122b, n122d, rfl, rfl, n122⟩)
        · skip
          have i100 := r_lt2 8 1000 c100 h1 i98 rfl
          refine g_aload_n 104 (gd rfl) rfl rfl ?_
          refine g_iload_n 105 (gd rfl) rfl rfl ?_
          refine g_bipush 7 107 (gd rfl) rfl rfl ?_
          refine g_cmp_ne 110 114 (gd rfl) rfl rfl (fun c107 => ?_) (fun c107 => ?_)
          · skip
            exact n_ne c107 h1 (in_c 7 rfl) rfl
          · skip
            refine g_iconst 3 111 (gd rfl) rfl rfl ?_
            refine g_goto 115 (gd rfl) rfl ?_
            refine g_aload_n 116 (gd rfl) rfl rfl ?_
            refine g_getI 119 (gd rfl) rfl rfl rfl (fun z116 e116 => ?_)
            have q116 : u_109_29 = z116 := (fr_F e_109_29 hFc10 rfl).trans e116.symm
            subst q116
            refine g_callv (X := _) (As := [.int (Int32.ofInt 3), .int u_109_29]) (r := []) (b := A 109) (q := 109) 122 (gd rfl) rfl rfl rfl rfl rfl (ww_o rfl) (Nat.le_of_ble_eq_true rfl) (Nat.zero_le _) (Nat.zero_le _) (f_298 (by first | exact dq1 hd rfl | exact dq0 hd rfl | exact dq2 hd rfl | exact dq3 hd rfl | omega) hIc10 (in_w 1 5 (in_c 3 rfl) rfl) rfl) (fun e u h => h) (fun v u h => ?_)
            obtain ⟨s119, hI119, hF119, n119, rfl, rfl, p119⟩ := h
            obtain ⟨z119a, e119⟩ : ∃ w, w = s119.2.2.1 109 23 := ⟨_, rfl⟩
            have i119a := inv_F hI119 0 9 rfl e119
            rw [← (show z119a = s119.2.2.1 109 23 from e119)] at n119
            show GG _ _ _ _ _ _ _ _ [] _ _ _
            have n122 : tkG (s.1 125) (s.2.2.1 109 22).toInt.toNat (s.2.2.1 109 27).toInt.toNat (s119.2.2.1 109 27).toInt.toNat ∧ (((s119.2.2.1 109 27).toInt.toNat - (s.2.2.1 109 27).toInt.toNat ≤ 7 ∧ (s119.2.2.2.1 109 31).toInt = tkN (s.1 125) (s.2.2.1 109 27).toInt.toNat ((s119.2.2.1 109 27).toInt.toNat - (s.2.2.1 109 27).toInt.toNat) ∧ FSM s s119) ∨ (7 < (s119.2.2.1 109 27).toInt.toNat - (s.2.2.1 109 27).toInt.toNat ∧ FBL s s119 3 (s.2.2.1 109 29).toInt)) := by have g9 := g10_0; rw [← e_109_27] at g9; have hw : w10_109_27.toNatClampNeg = w10_109_27.toInt.toNat := rfl; rw [← (show w10_109_27 = s119.2.2.1 109 27 from fr_F (v10_109_27) hF119 rfl), ← e_109_22, ← e_109_27]; refine ⟨⟨by have a0 := oa7 h1 ro_109_29 ro_109_22 ((inv_F hIc10 0 1000 rfl v10_109_27)) j10_2 i119a i100; have a7 := t_sub e98 (inv_F hIc10 0 1000 rfl v10_109_27) j10_2 rfl; have oc := oc_300_109; omega, by have a0 := oa7 h1 ro_109_29 ro_109_22 ((inv_F hIc10 0 1000 rfl v10_109_27)) j10_2 i119a i100; have a7 := t_sub e98 (inv_F hIc10 0 1000 rfl v10_109_27) j10_2 rfl; have oc := oc_300_109; omega, fun i a b => g9.1 i a (by have a0 := oa7 h1 ro_109_29 ro_109_22 ((inv_F hIc10 0 1000 rfl v10_109_27)) j10_2 i119a i100; have a7 := t_sub e98 (inv_F hIc10 0 1000 rfl v10_109_27) j10_2 rfl; have oc := oc_300_109; omega), (fun h => absurd h (by have a0 := oa7 h1 ro_109_29 ro_109_22 ((inv_F hIc10 0 1000 rfl v10_109_27)) j10_2 i119a i100; have a7 := t_sub e98 (inv_F hIc10 0 1000 rfl v10_109_27) j10_2 rfl; have oc := oc_300_109; omega))⟩, ?_⟩; refine Or.inr ⟨by have a0 := oa7 h1 ro_109_29 ro_109_22 ((inv_F hIc10 0 1000 rfl v10_109_27)) j10_2 i119a i100; have a7 := t_sub e98 (inv_F hIc10 0 1000 rfl v10_109_27) j10_2 rfl; have oc := oc_300_109; omega, ?_⟩; have hb := p119; unfold FBL FSM at hb ⊢; rw [g10_1.1, g10_1.2] at hb; rw [← e_109_29]; first | exact hb | (exfalso; have a0 := oa7 h1 ro_109_29 ro_109_22 ((inv_F hIc10 0 1000 rfl v10_109_27)) j10_2 i119a i100; have a7 := t_sub e98 (inv_F hIc10 0 1000 rfl v10_109_27) j10_2 rfl; have oc := oc_300_109; omega)
            have n122a : (w10_109_27).toInt ≤ (u_109_22).toInt := by first | exact n10_0 | (have a0 := oa7 h1 ro_109_29 ro_109_22 ((inv_F hIc10 0 1000 rfl v10_109_27)) j10_2 i119a i100; have a7 := t_sub e98 (inv_F hIc10 0 1000 rfl v10_109_27) j10_2 rfl; have oc := oc_300_109; omega)
            have n122b : (s119.2.2.1 109 27).toInt ≤ (s119.2.2.1 109 22).toInt := by have b0 : w10_109_27 = s119.2.2.1 109 27 := fr_F (v10_109_27) hF119 rfl; have b1 : u_109_22 = s119.2.2.1 109 22 := fr_F (fr_F e_109_22 hFc10 rfl) hF119 rfl; rw [← b0, ← b1]; exact n122a
            have n122c : (u_109_27).toInt + 1 ≤ (w10_109_27).toInt := by have a0 := oa7 h1 ro_109_29 ro_109_22 ((inv_F hIc10 0 1000 rfl v10_109_27)) j10_2 i119a i100; have a7 := t_sub e98 (inv_F hIc10 0 1000 rfl v10_109_27) j10_2 rfl; have oc := oc_300_109; omega
            have n122d : (s.2.2.1 109 27).toInt + 1 ≤ (s119.2.2.1 109 27).toInt := by have b0 : w10_109_27 = s119.2.2.1 109 27 := fr_F (v10_109_27) hF119 rfl; first | (rw [← b0, ← e_109_27]; exact n122c) | (rw [← b0]; exact n122c)
            exact g_return (gd rfl) rfl (hP _ _ ⟨s119, hI119, (fr_tr rfl hFc10 hF119), n122b, n122d, rfl, rfl, n122⟩)
      · skip
        have i18 := r_lt1 0 999 c18 (inv_F hIc10 0 1000 rfl v10_109_27) ro_109_22 rfl
        have i18a := r_lt2 1 1000 c18 (inv_F hIc10 0 1000 rfl v10_109_27) ro_109_22 rfl
        refine g_aload_n 22 (gd rfl) rfl rfl ?_
        refine g_getA (q2 := 125) 25 (gd rfl) rfl rfl rfl rfl ?_
        refine g_aload_n 26 (gd rfl) rfl rfl ?_
        refine g_getI 29 (gd rfl) rfl rfl rfl (fun z26 e26 => ?_)
        have q26 : w10_109_27 = z26 := (v10_109_27).trans e26.symm
        subst q26
        refine g_iaload 30 (gd rfl) rfl (n := 1000) rfl (in_ix i18 rfl) (fun z29 e29 => ?_)
        have i29 := inv_I hIc10 (n := 1000) (t := 0) 0 126 rfl (in_ix i18 rfl) rfl e29
        have hd : w10_109_27.toInt = u_109_27.toInt → 48 ≤ (z29).toInt ∧ (z29).toInt ≤ 57 := (fun h => by rw [e29, Int32.toInt_inj.mp h, hFc10.1 125 rfl, e_109_27]; exact q_0)
        refine g_calls (As := [.int z29]) (r := []) 33 (gd rfl) rfl rfl rfl rfl rfl (Nat.le_of_ble_eq_true rfl) (mc := 0) (ms := 0) (Nat.zero_le _) (Nat.zero_le _) (P := fun v u => _) ?_ (fun v u h => h)
        intro po30 xx30 hp30 hx30
        refine g_enter2 (k := 297) (N := 300) (by first | exact dq1 hd rfl | exact dq0 hd rfl | exact dq2 hd rfl | exact dq3 hd rfl | omega) rfl (Nat.le_of_ble_eq_true rfl) ?_
        refine g_iload_n 1 (gd rfl) rfl rfl ?_
        refine g_bipush 48 3 (gd rfl) rfl rfl ?_
        refine g_cmp_lt 6 16 (gd rfl) rfl rfl (fun c30x3 => ?_) (fun c30x3 => ?_)
        · skip
          have i30x3 := r_lt1 0 47 c30x3 i29 (in_c 48 rfl) rfl
          refine g_iconst 0 17 (gd rfl) rfl rfl ?_
          refine g_ireturn (gd rfl) rfl (nb01 (in_w 0 1 (in_c 0 rfl) rfl)) (hp30 _ _ ?_)
          show GG _ _ _ _ _ _ _ _ [.int (Int32.ofInt 0)] _ _ _
          refine g_if_eq 36 93 (gd rfl) rfl rfl (fun c33 => ?_) (fun c33 => ?_)
          · skip
            have hq93 : (u_109_27).toInt + 1 ≤ (w10_109_27).toInt := (by first | (have a0 := oa5 h1 ro_109_29 i18a i18 j10_2; have oc := oc_300_109; omega) | (have hi := i30x3; unfold In at hi; have a0 := oa5 h1 ro_109_29 i18a i18 j10_2; have oc := oc_300_109; omega) | (have hi := i30x9; unfold In at hi; have a0 := oa5 h1 ro_109_29 i18a i18 j10_2; have oc := oc_300_109; omega))
            refine g_aload_n 94 (gd rfl) rfl rfl ?_
            refine g_getI 97 (gd rfl) rfl rfl rfl (fun z94 e94 => ?_)
            have q94 : w10_109_27 = z94 := (v10_109_27).trans e94.symm
            subst q94
            refine g_iload_n 98 (gd rfl) rfl rfl ?_
            refine g_isub 99 (gd rfl) rfl (fun z98 e98 => ?_)
            have i98 := in_sub (-1000) 999 e98 i18 j10_2 rfl rfl
            refine g_iload_n 100 (gd rfl) rfl rfl ?_
            refine g_cmp_le 103 122 (gd rfl) rfl rfl (fun c100 => ?_) (fun c100 => ?_)
            · skip
              have i100 := r_le1 (-1000) 7 c100 i98 h1 rfl
              have n122 : tkG (s.1 125) (s.2.2.1 109 22).toInt.toNat (s.2.2.1 109 27).toInt.toNat (sc10.2.2.1 109 27).toInt.toNat ∧ (((sc10.2.2.1 109 27).toInt.toNat - (s.2.2.1 109 27).toInt.toNat ≤ 7 ∧ (sc10.2.2.2.1 109 31).toInt = tkN (s.1 125) (s.2.2.1 109 27).toInt.toNat ((sc10.2.2.1 109 27).toInt.toNat - (s.2.2.1 109 27).toInt.toNat) ∧ FSM s sc10) ∨ (7 < (sc10.2.2.1 109 27).toInt.toNat - (s.2.2.1 109 27).toInt.toNat ∧ FBL s sc10 3 (s.2.2.1 109 29).toInt)) := by have g9 := g10_0; rw [← e_109_27] at g9; have hw : w10_109_27.toNatClampNeg = w10_109_27.toInt.toNat := rfl; rw [← (show w10_109_27 = sc10.2.2.1 109 27 from v10_109_27), ← e_109_22, ← e_109_27]; refine ⟨⟨by have a0 := oa6 h1 ro_109_29 i18a i18 j10_2 i100; have a6 := t_sub e98 i18 j10_2 rfl; have oc := oc_300_109; omega, by have a0 := oa6 h1 ro_109_29 i18a i18 j10_2 i100; have a6 := t_sub e98 i18 j10_2 rfl; have oc := oc_300_109; omega, fun i a b => g9.1 i a (by have a0 := oa6 h1 ro_109_29 i18a i18 j10_2 i100; have a6 := t_sub e98 i18 j10_2 rfl; have oc := oc_300_109; omega), (fun _ => by rw [show s.1 125 w10_109_27.toInt.toNat = z29 from (by rw [e29, hFc10.1 125 rfl]; rfl)]; unfold tkD; have a0 := oa6 h1 ro_109_29 i18a i18 j10_2 i100; have a6 := t_sub e98 i18 j10_2 rfl; have oc := oc_300_109; omega)⟩, ?_⟩; exact Or.inl ⟨by have a0 := oa6 h1 ro_109_29 i18a i18 j10_2 i100; have a6 := t_sub e98 i18 j10_2 rfl; have oc := oc_300_109; omega, g9.2 (by have a0 := oa6 h1 ro_109_29 i18a i18 j10_2 i100; have a6 := t_sub e98 i18 j10_2 rfl; have oc := oc_300_109; omega), g10_1⟩
              have n122a : (w10_109_27).toInt ≤ (u_109_22).toInt := by first | exact n10_0 | (have a0 := oa6 h1 ro_109_29 i18a i18 j10_2 i100; have a6 := t_sub e98 i18 j10_2 rfl; have oc := oc_300_109; omega)
              have n122b : (sc10.2.2.1 109 27).toInt ≤ (sc10.2.2.1 109 22).toInt := by have b0 : w10_109_27 = sc10.2.2.1 109 27 := v10_109_27; have b1 : u_109_22 = sc10.2.2.1 109 22 := fr_F e_109_22 hFc10 rfl; rw [← b0, ← b1]; exact n122a
              have n122c : (u_109_27).toInt + 1 ≤ (w10_109_27).toInt := by have a0 := oa6 h1 ro_109_29 i18a i18 j10_2 i100; have a6 := t_sub e98 i18 j10_2 rfl; have oc := oc_300_109; omega
              have n122d : (s.2.2.1 109 27).toInt + 1 ≤ (sc10.2.2.1 109 27).toInt := by have b0 : w10_109_27 = sc10.2.2.1 109 27 := v10_109_27; first | (rw [← b0, ← e_109_27]; exact n122c) | (rw [← b0]; exact n122c)
              exact g_return (gd rfl) rfl (hP _ _ ⟨sc10, hIc10, hFc10, n122b, n122d, rfl, rfl, n122⟩)
            · skip
              have i100 := r_lt2 8 999 c100 h1 i98 rfl
              refine g_aload_n 104 (gd rfl) rfl rfl ?_
              refine g_iload_n 105 (gd rfl) rfl rfl ?_
              refine g_bipush 7 107 (gd rfl) rfl rfl ?_
              refine g_cmp_ne 110 114 (gd rfl) rfl rfl (fun c107 => ?_) (fun c107 => ?_)
              · skip
                exact n_ne c107 h1 (in_c 7 rfl) rfl
              · skip
                refine g_iconst 3 111 (gd rfl) rfl rfl ?_
                refine g_goto 115 (gd rfl) rfl ?_
                refine g_aload_n 116 (gd rfl) rfl rfl ?_
                refine g_getI 119 (gd rfl) rfl rfl rfl (fun z116 e116 => ?_)
                have q116 : u_109_29 = z116 := (fr_F e_109_29 hFc10 rfl).trans e116.symm
                subst q116
                refine g_callv (X := _) (As := [.int (Int32.ofInt 3), .int u_109_29]) (r := []) (b := A 109) (q := 109) 122 (gd rfl) rfl rfl rfl rfl rfl (ww_o rfl) (Nat.le_of_ble_eq_true rfl) (Nat.zero_le _) (Nat.zero_le _) (f_298 (by first | exact dq1 hd rfl | exact dq0 hd rfl | exact dq2 hd rfl | exact dq3 hd rfl | omega) hIc10 (in_w 1 5 (in_c 3 rfl) rfl) rfl) (fun e u h => h) (fun v u h => ?_)
                obtain ⟨s119, hI119, hF119, n119, rfl, rfl, p119⟩ := h
                obtain ⟨z119a, e119⟩ : ∃ w, w = s119.2.2.1 109 23 := ⟨_, rfl⟩
                have i119a := inv_F hI119 0 9 rfl e119
                rw [← (show z119a = s119.2.2.1 109 23 from e119)] at n119
                show GG _ _ _ _ _ _ _ _ [] _ _ _
                have n122 : tkG (s.1 125) (s.2.2.1 109 22).toInt.toNat (s.2.2.1 109 27).toInt.toNat (s119.2.2.1 109 27).toInt.toNat ∧ (((s119.2.2.1 109 27).toInt.toNat - (s.2.2.1 109 27).toInt.toNat ≤ 7 ∧ (s119.2.2.2.1 109 31).toInt = tkN (s.1 125) (s.2.2.1 109 27).toInt.toNat ((s119.2.2.1 109 27).toInt.toNat - (s.2.2.1 109 27).toInt.toNat) ∧ FSM s s119) ∨ (7 < (s119.2.2.1 109 27).toInt.toNat - (s.2.2.1 109 27).toInt.toNat ∧ FBL s s119 3 (s.2.2.1 109 29).toInt)) := by have g9 := g10_0; rw [← e_109_27] at g9; have hw : w10_109_27.toNatClampNeg = w10_109_27.toInt.toNat := rfl; rw [← (show w10_109_27 = s119.2.2.1 109 27 from fr_F (v10_109_27) hF119 rfl), ← e_109_22, ← e_109_27]; refine ⟨⟨by have a0 := oa7 h1 ro_109_29 i18a i18 j10_2 i119a i100; have a7 := t_sub e98 i18 j10_2 rfl; have oc := oc_300_109; omega, by have a0 := oa7 h1 ro_109_29 i18a i18 j10_2 i119a i100; have a7 := t_sub e98 i18 j10_2 rfl; have oc := oc_300_109; omega, fun i a b => g9.1 i a (by have a0 := oa7 h1 ro_109_29 i18a i18 j10_2 i119a i100; have a7 := t_sub e98 i18 j10_2 rfl; have oc := oc_300_109; omega), (fun _ => by rw [show s.1 125 w10_109_27.toInt.toNat = z29 from (by rw [e29, hFc10.1 125 rfl]; rfl)]; unfold tkD; have a0 := oa7 h1 ro_109_29 i18a i18 j10_2 i119a i100; have a7 := t_sub e98 i18 j10_2 rfl; have oc := oc_300_109; omega)⟩, ?_⟩; refine Or.inr ⟨by have a0 := oa7 h1 ro_109_29 i18a i18 j10_2 i119a i100; have a7 := t_sub e98 i18 j10_2 rfl; have oc := oc_300_109; omega, ?_⟩; have hb := p119; unfold FBL FSM at hb ⊢; rw [g10_1.1, g10_1.2] at hb; rw [← e_109_29]; first | exact hb | (exfalso; have a0 := oa7 h1 ro_109_29 i18a i18 j10_2 i119a i100; have a7 := t_sub e98 i18 j10_2 rfl; have oc := oc_300_109; omega)
                have n122a : (w10_109_27).toInt ≤ (u_109_22).toInt := by first | exact n10_0 | (have a0 := oa7 h1 ro_109_29 i18a i18 j10_2 i119a i100; have a7 := t_sub e98 i18 j10_2 rfl; have oc := oc_300_109; omega)
                have n122b : (s119.2.2.1 109 27).toInt ≤ (s119.2.2.1 109 22).toInt := by have b0 : w10_109_27 = s119.2.2.1 109 27 := fr_F (v10_109_27) hF119 rfl; have b1 : u_109_22 = s119.2.2.1 109 22 := fr_F (fr_F e_109_22 hFc10 rfl) hF119 rfl; rw [← b0, ← b1]; exact n122a
                have n122c : (u_109_27).toInt + 1 ≤ (w10_109_27).toInt := by have a0 := oa7 h1 ro_109_29 i18a i18 j10_2 i119a i100; have a7 := t_sub e98 i18 j10_2 rfl; have oc := oc_300_109; omega
                have n122d : (s.2.2.1 109 27).toInt + 1 ≤ (s119.2.2.1 109 27).toInt := by have b0 : w10_109_27 = s119.2.2.1 109 27 := fr_F (v10_109_27) hF119 rfl; first | (rw [← b0, ← e_109_27]; exact n122c) | (rw [← b0]; exact n122c)
                exact g_return (gd rfl) rfl (hP _ _ ⟨s119, hI119, (fr_tr rfl hFc10 hF119), n122b, n122d, rfl, rfl, n122⟩)
          · skip
            exact zn_ne c33 (in_c 0 rfl) rfl
        · skip
          have i30x3 := r_le2 48 126 c30x3 (in_c 48 rfl) i29 rfl
          refine g_iload_n 7 (gd rfl) rfl rfl ?_
          refine g_bipush 57 9 (gd rfl) rfl rfl ?_
          refine g_cmp_gt 12 16 (gd rfl) rfl rfl (fun c30x9 => ?_) (fun c30x9 => ?_)
          · skip
            have i30x9 := r_lt2 58 126 c30x9 (in_c 57 rfl) i30x3 rfl
            refine g_iconst 0 17 (gd rfl) rfl rfl ?_
            refine g_ireturn (gd rfl) rfl (nb01 (in_w 0 1 (in_c 0 rfl) rfl)) (hp30 _ _ ?_)
            show GG _ _ _ _ _ _ _ _ [.int (Int32.ofInt 0)] _ _ _
            refine g_if_eq 36 93 (gd rfl) rfl rfl (fun c33 => ?_) (fun c33 => ?_)
            · skip
              have hq93 : (u_109_27).toInt + 1 ≤ (w10_109_27).toInt := (by first | (have a0 := oa5 h1 ro_109_29 i18a i18 j10_2; have oc := oc_300_109; omega) | (have hi := i30x3; unfold In at hi; have a0 := oa5 h1 ro_109_29 i18a i18 j10_2; have oc := oc_300_109; omega) | (have hi := i30x9; unfold In at hi; have a0 := oa5 h1 ro_109_29 i18a i18 j10_2; have oc := oc_300_109; omega))
              refine g_aload_n 94 (gd rfl) rfl rfl ?_
              refine g_getI 97 (gd rfl) rfl rfl rfl (fun z94 e94 => ?_)
              have q94 : w10_109_27 = z94 := (v10_109_27).trans e94.symm
              subst q94
              refine g_iload_n 98 (gd rfl) rfl rfl ?_
              refine g_isub 99 (gd rfl) rfl (fun z98 e98 => ?_)
              have i98 := in_sub (-1000) 999 e98 i18 j10_2 rfl rfl
              refine g_iload_n 100 (gd rfl) rfl rfl ?_
              refine g_cmp_le 103 122 (gd rfl) rfl rfl (fun c100 => ?_) (fun c100 => ?_)
              · skip
                have i100 := r_le1 (-1000) 7 c100 i98 h1 rfl
                have n122 : tkG (s.1 125) (s.2.2.1 109 22).toInt.toNat (s.2.2.1 109 27).toInt.toNat (sc10.2.2.1 109 27).toInt.toNat ∧ (((sc10.2.2.1 109 27).toInt.toNat - (s.2.2.1 109 27).toInt.toNat ≤ 7 ∧ (sc10.2.2.2.1 109 31).toInt = tkN (s.1 125) (s.2.2.1 109 27).toInt.toNat ((sc10.2.2.1 109 27).toInt.toNat - (s.2.2.1 109 27).toInt.toNat) ∧ FSM s sc10) ∨ (7 < (sc10.2.2.1 109 27).toInt.toNat - (s.2.2.1 109 27).toInt.toNat ∧ FBL s sc10 3 (s.2.2.1 109 29).toInt)) := by have g9 := g10_0; rw [← e_109_27] at g9; have hw : w10_109_27.toNatClampNeg = w10_109_27.toInt.toNat := rfl; rw [← (show w10_109_27 = sc10.2.2.1 109 27 from v10_109_27), ← e_109_22, ← e_109_27]; refine ⟨⟨by have a0 := oa6 h1 ro_109_29 i18a i18 j10_2 i100; have a6 := t_sub e98 i18 j10_2 rfl; have oc := oc_300_109; omega, by have a0 := oa6 h1 ro_109_29 i18a i18 j10_2 i100; have a6 := t_sub e98 i18 j10_2 rfl; have oc := oc_300_109; omega, fun i a b => g9.1 i a (by have a0 := oa6 h1 ro_109_29 i18a i18 j10_2 i100; have a6 := t_sub e98 i18 j10_2 rfl; have oc := oc_300_109; omega), (fun _ => by rw [show s.1 125 w10_109_27.toInt.toNat = z29 from (by rw [e29, hFc10.1 125 rfl]; rfl)]; unfold tkD; have a0 := oa6 h1 ro_109_29 i18a i18 j10_2 i100; have a6 := t_sub e98 i18 j10_2 rfl; have oc := oc_300_109; omega)⟩, ?_⟩; exact Or.inl ⟨by have a0 := oa6 h1 ro_109_29 i18a i18 j10_2 i100; have a6 := t_sub e98 i18 j10_2 rfl; have oc := oc_300_109; omega, g9.2 (by have a0 := oa6 h1 ro_109_29 i18a i18 j10_2 i100; have a6 := t_sub e98 i18 j10_2 rfl; have oc := oc_300_109; omega), g10_1⟩
                have n122a : (w10_109_27).toInt ≤ (u_109_22).toInt := by first | exact n10_0 | (have a0 := oa6 h1 ro_109_29 i18a i18 j10_2 i100; have a6 := t_sub e98 i18 j10_2 rfl; have oc := oc_300_109; omega)
                have n122b : (sc10.2.2.1 109 27).toInt ≤ (sc10.2.2.1 109 22).toInt := by have b0 : w10_109_27 = sc10.2.2.1 109 27 := v10_109_27; have b1 : u_109_22 = sc10.2.2.1 109 22 := fr_F e_109_22 hFc10 rfl; rw [← b0, ← b1]; exact n122a
                have n122c : (u_109_27).toInt + 1 ≤ (w10_109_27).toInt := by have a0 := oa6 h1 ro_109_29 i18a i18 j10_2 i100; have a6 := t_sub e98 i18 j10_2 rfl; have oc := oc_300_109; omega
                have n122d : (s.2.2.1 109 27).toInt + 1 ≤ (sc10.2.2.1 109 27).toInt := by have b0 : w10_109_27 = sc10.2.2.1 109 27 := v10_109_27; first | (rw [← b0, ← e_109_27]; exact n122c) | (rw [← b0]; exact n122c)
                exact g_return (gd rfl) rfl (hP _ _ ⟨sc10, hIc10, hFc10, n122b, n122d, rfl, rfl, n122⟩)
              · skip
                have i100 := r_lt2 8 999 c100 h1 i98 rfl
                refine g_aload_n 104 (gd rfl) rfl rfl ?_
                refine g_iload_n 105 (gd rfl) rfl rfl ?_
                refine g_bipush 7 107 (gd rfl) rfl rfl ?_
                refine g_cmp_ne 110 114 (gd rfl) rfl rfl (fun c107 => ?_) (fun c107 => ?_)
                · skip
                  exact n_ne c107 h1 (in_c 7 rfl) rfl
                · skip
                  refine g_iconst 3 111 (gd rfl) rfl rfl ?_
                  refine g_goto 115 (gd rfl) rfl ?_
                  refine g_aload_n 116 (gd rfl) rfl rfl ?_
                  refine g_getI 119 (gd rfl) rfl rfl rfl (fun z116 e116 => ?_)
                  have q116 : u_109_29 = z116 := (fr_F e_109_29 hFc10 rfl).trans e116.symm
                  subst q116
                  refine g_callv (X := _) (As := [.int (Int32.ofInt 3), .int u_109_29]) (r := []) (b := A 109) (q := 109) 122 (gd rfl) rfl rfl rfl rfl rfl (ww_o rfl) (Nat.le_of_ble_eq_true rfl) (Nat.zero_le _) (Nat.zero_le _) (f_298 (by first | exact dq1 hd rfl | exact dq0 hd rfl | exact dq2 hd rfl | exact dq3 hd rfl | omega) hIc10 (in_w 1 5 (in_c 3 rfl) rfl) rfl) (fun e u h => h) (fun v u h => ?_)
                  obtain ⟨s119, hI119, hF119, n119, rfl, rfl, p119⟩ := h
                  obtain ⟨z119a, e119⟩ : ∃ w, w = s119.2.2.1 109 23 := ⟨_, rfl⟩
                  have i119a := inv_F hI119 0 9 rfl e119
                  rw [← (show z119a = s119.2.2.1 109 23 from e119)] at n119
                  show GG _ _ _ _ _ _ _ _ [] _ _ _
                  have n122 : tkG (s.1 125) (s.2.2.1 109 22).toInt.toNat (s.2.2.1 109 27).toInt.toNat (s119.2.2.1 109 27).toInt.toNat ∧ (((s119.2.2.1 109 27).toInt.toNat - (s.2.2.1 109 27).toInt.toNat ≤ 7 ∧ (s119.2.2.2.1 109 31).toInt = tkN (s.1 125) (s.2.2.1 109 27).toInt.toNat ((s119.2.2.1 109 27).toInt.toNat - (s.2.2.1 109 27).toInt.toNat) ∧ FSM s s119) ∨ (7 < (s119.2.2.1 109 27).toInt.toNat - (s.2.2.1 109 27).toInt.toNat ∧ FBL s s119 3 (s.2.2.1 109 29).toInt)) := by have g9 := g10_0; rw [← e_109_27] at g9; have hw : w10_109_27.toNatClampNeg = w10_109_27.toInt.toNat := rfl; rw [← (show w10_109_27 = s119.2.2.1 109 27 from fr_F (v10_109_27) hF119 rfl), ← e_109_22, ← e_109_27]; refine ⟨⟨by have a0 := oa7 h1 ro_109_29 i18a i18 j10_2 i119a i100; have a7 := t_sub e98 i18 j10_2 rfl; have oc := oc_300_109; omega, by have a0 := oa7 h1 ro_109_29 i18a i18 j10_2 i119a i100; have a7 := t_sub e98 i18 j10_2 rfl; have oc := oc_300_109; omega, fun i a b => g9.1 i a (by have a0 := oa7 h1 ro_109_29 i18a i18 j10_2 i119a i100; have a7 := t_sub e98 i18 j10_2 rfl; have oc := oc_300_109; omega), (fun _ => by rw [show s.1 125 w10_109_27.toInt.toNat = z29 from (by rw [e29, hFc10.1 125 rfl]; rfl)]; unfold tkD; have a0 := oa7 h1 ro_109_29 i18a i18 j10_2 i119a i100; have a7 := t_sub e98 i18 j10_2 rfl; have oc := oc_300_109; omega)⟩, ?_⟩; refine Or.inr ⟨by have a0 := oa7 h1 ro_109_29 i18a i18 j10_2 i119a i100; have a7 := t_sub e98 i18 j10_2 rfl; have oc := oc_300_109; omega, ?_⟩; have hb := p119; unfold FBL FSM at hb ⊢; rw [g10_1.1, g10_1.2] at hb; rw [← e_109_29]; first | exact hb | (exfalso; have a0 := oa7 h1 ro_109_29 i18a i18 j10_2 i119a i100; have a7 := t_sub e98 i18 j10_2 rfl; have oc := oc_300_109; omega)
                  have n122a : (w10_109_27).toInt ≤ (u_109_22).toInt := by first | exact n10_0 | (have a0 := oa7 h1 ro_109_29 i18a i18 j10_2 i119a i100; have a7 := t_sub e98 i18 j10_2 rfl; have oc := oc_300_109; omega)
                  have n122b : (s119.2.2.1 109 27).toInt ≤ (s119.2.2.1 109 22).toInt := by have b0 : w10_109_27 = s119.2.2.1 109 27 := fr_F (v10_109_27) hF119 rfl; have b1 : u_109_22 = s119.2.2.1 109 22 := fr_F (fr_F e_109_22 hFc10 rfl) hF119 rfl; rw [← b0, ← b1]; exact n122a
                  have n122c : (u_109_27).toInt + 1 ≤ (w10_109_27).toInt := by have a0 := oa7 h1 ro_109_29 i18a i18 j10_2 i119a i100; have a7 := t_sub e98 i18 j10_2 rfl; have oc := oc_300_109; omega
                  have n122d : (s.2.2.1 109 27).toInt + 1 ≤ (s119.2.2.1 109 27).toInt := by have b0 : w10_109_27 = s119.2.2.1 109 27 := fr_F (v10_109_27) hF119 rfl; first | (rw [← b0, ← e_109_27]; exact n122c) | (rw [← b0]; exact n122c)
                  exact g_return (gd rfl) rfl (hP _ _ ⟨s119, hI119, (fr_tr rfl hFc10 hF119), n122b, n122d, rfl, rfl, n122⟩)
            · skip
              exact zn_ne c33 (in_c 0 rfl) rfl
          · skip
            have i30x9 := r_le1 48 57 c30x9 i30x3 (in_c 57 rfl) rfl
            refine g_iconst 1 13 (gd rfl) rfl rfl ?_
            refine g_goto 17 (gd rfl) rfl ?_
            refine g_ireturn (gd rfl) rfl (nb01 (in_w 0 1 (in_c 1 rfl) rfl)) (hp30 _ _ ?_)
            show GG _ _ _ _ _ _ _ _ [.int (Int32.ofInt 1)] _ _ _
            refine g_if_eq 36 93 (gd rfl) rfl rfl (fun c33 => ?_) (fun c33 => ?_)
            · skip
              exact zn_eq c33 (in_c 1 rfl) rfl
            · skip
              refine g_aload_n 37 (gd rfl) rfl rfl ?_
              refine g_aload_n 38 (gd rfl) rfl rfl ?_
              refine g_getI 41 (gd rfl) rfl rfl rfl (fun z38 e38 => ?_)
              have q38 : w10_109_27 = z38 := (v10_109_27).trans e38.symm
              subst q38
              refine g_iload_n 42 (gd rfl) rfl rfl ?_
              refine g_isub 43 (gd rfl) rfl (fun z42 e42 => ?_)
              have i42 := in_sub (-1000) 999 e42 i18 j10_2 rfl rfl
              refine g_iload_n 44 (gd rfl) rfl rfl ?_
              refine g_cmp_ge 47 73 (gd rfl) rfl rfl (fun c44 => ?_) (fun c44 => ?_)
              · skip
                have i44 := r_le2 7 999 c44 h1 i42 rfl
                refine g_aload_n 74 (gd rfl) rfl rfl ?_
                refine g_getL 77 (gd rfl) rfl rfl rfl (fun z74 e74 => ?_)
                refine g_putL 80 (gd rfl) rfl rfl rfl rfl ?_
                have hI77 := inv_sG (q := 109) (j := 31) (x := z74) hIc10 rfl (l_rng z74)
                refine g_aload_n 81 (gd rfl) rfl rfl ?_
                refine g_dup 82 (gd rfl) rfl rfl ?_
                refine g_getI 85 (gd rfl) rfl rfl rfl (fun z82 e82 => ?_)
                have q82 : w10_109_27 = z82 := (sG_F (v10_109_27)).trans e82.symm
                subst q82
                refine g_iconst 1 86 (gd rfl) rfl rfl ?_
                refine g_iadd 87 (gd rfl) rfl (fun z86 e86 => ?_)
                have i86 := in_add 1 1000 e86 i18 (in_c 1 rfl) rfl rfl
                refine g_putI 90 (gd rfl) rfl rfl rfl rfl ?_
                have hI87 := inv_sF (q := 109) (j := 27) hI77 rfl (in_w 0 1000 i86 rfl)
                refine g_goto 10 (gd rfl) rfl ?_
                have v10 : z86 = (sF (sG sc10 109 31 z74) 109 27 z86).2.2.1 109 27 := sF_get
                have n10 : (z86).toInt ≤ (u_109_22).toInt := by have a0 := oa6 h1 ro_109_29 i18a i18 j10_2 i86; have a6 := t_add e86 i18 (in_c 1 rfl) rfl; have a7 := oa2 ((in_c 1 rfl)) i44; have a9 := t_sub e42 i18 j10_2 rfl; have oc := oc_300_109; omega
                have n10a : (u_109_27).toInt ≤ (z86).toInt := by have a0 := oa6 h1 ro_109_29 i18a i18 j10_2 i86; have a6 := t_add e86 i18 (in_c 1 rfl) rfl; have a7 := oa2 ((in_c 1 rfl)) i44; have a9 := t_sub e42 i18 j10_2 rfl; have oc := oc_300_109; omega
                have n10b : (y10_2).toInt = (u_109_27).toInt := by first | exact n10_2 | (have a0 := oa6 h1 ro_109_29 i18a i18 j10_2 i86; have a6 := t_add e86 i18 (in_c 1 rfl) rfl; have a7 := oa2 ((in_c 1 rfl)) i44; have a9 := t_sub e42 i18 j10_2 rfl; have oc := oc_300_109; omega)
                have n10c : (∀ i : Nat, (s.2.2.1 109 27).toInt.toNat ≤ i → (i : Int) < (z86).toInt → tkD (s.1 125 i)) ∧ ((z86).toInt.toNat - (s.2.2.1 109 27).toInt.toNat ≤ 7 → ((sF (sG sc10 109 31 z74) 109 27 z86).2.2.2.1 109 31).toInt = tkN (s.1 125) (s.2.2.1 109 27).toInt.toNat ((z86).toInt.toNat - (s.2.2.1 109 27).toInt.toNat)) := by have ht : z29 = s.1 125 w10_109_27.toNatClampNeg := (by rw [e29, hFc10.1 125 rfl]); have hw : w10_109_27.toNatClampNeg = w10_109_27.toInt.toNat := rfl; exact ⟨(fun i h1 h2 => by by_cases hc : (i : Int) < w10_109_27.toInt; (exact g10_0.1 i h1 hc); (rw [show i = w10_109_27.toNatClampNeg from (by have a0 := h1; unfold In at a0; have a1 := oa5 ro_109_29 i18a i18 j10_2 i86; have a6 := t_add e86 i18 (in_c 1 rfl) rfl; have a7 := oa2 ((in_c 1 rfl)) i44; have a9 := t_sub e42 i18 j10_2 rfl; have oc := oc_300_109; omega), ← ht]; exact ⟨by have a0 := h1; unfold In at a0; have a1 := oa5 ro_109_29 i18a i18 j10_2 i86; have a6 := t_add e86 i18 (in_c 1 rfl) rfl; have a7 := oa2 ((in_c 1 rfl)) i44; have a9 := t_sub e42 i18 j10_2 rfl; have oc := oc_300_109; omega, by have a0 := h1; unfold In at a0; have a1 := oa5 ro_109_29 i18a i18 j10_2 i86; have a6 := t_add e86 i18 (in_c 1 rfl) rfl; have a7 := oa2 ((in_c 1 rfl)) i44; have a9 := t_sub e42 i18 j10_2 rfl; have oc := oc_300_109; omega⟩)), fun h => by exfalso; rw [← e_109_27] at h; have a0 := h1; unfold In at a0; have a1 := oa5 ro_109_29 i18a i18 j10_2 i86; have a6 := t_add e86 i18 (in_c 1 rfl) rfl; have a7 := oa2 ((in_c 1 rfl)) i44; have a9 := t_sub e42 i18 j10_2 rfl; have oc := oc_300_109; omega⟩
                have n10d : FSM s (sF (sG sc10 109 31 z74) 109 27 z86) := by exact g10_1
                have m10 : (u_109_22).toInt - (z86).toInt < ((k10 : Nat) : Int) := by have a0 := oa6 h1 ro_109_29 i18a i18 j10_2 i86; have a6 := t_add e86 i18 (in_c 1 rfl) rfl; have a7 := oa2 ((in_c 1 rfl)) i44; have a9 := t_sub e42 i18 j10_2 rfl; have oc := oc_300_109; omega
                exact gg_w (by first | exact Nat.le_add_right _ _ | exact gw2 | exact gw3 | exact gwe rfl | exact gwf rfl | exact gwg rfl | exact gwh rfl | omega) (gg_f (gf_cons rfl (gf_cons rfl (gf_cons rfl gf_nil))) (ih10  (sF (sG sc10 109 31 z74) 109 27 z86) y10_2 z86 hI87 (fr_sF rfl (fr_sG rfl hFc10)) (in_w 0 1000 j10_2 rfl) v10 n10 n10a n10b n10c n10d m10))
              · skip
                have i44 := r_lt1 (-1000) 6 c44 i42 h1 rfl
                refine g_ldc2_w 10 50 (gd rfl) rfl rfl ?_
                refine g_aload_n 51 (gd rfl) rfl rfl ?_
                refine g_getL 54 (gd rfl) rfl rfl rfl (fun z51 e51 => ?_)
                refine g_lmul 55 (gd rfl) rfl (fun z54 e54 => ?_)
                refine g_aload_n 56 (gd rfl) rfl rfl ?_
                refine g_getA (q2 := 125) 59 (gd rfl) rfl rfl rfl rfl ?_
                refine g_aload_n 60 (gd rfl) rfl rfl ?_
                refine g_getI 63 (gd rfl) rfl rfl rfl (fun z60 e60 => ?_)
                have q60 : w10_109_27 = z60 := (v10_109_27).trans e60.symm
                subst q60
                refine g_iaload 64 (gd rfl) rfl (n := 1000) rfl (in_ix i18 rfl) (fun z63 e63 => ?_)
                have q63 : z29 = z63 := (e29).trans e63.symm
                subst q63
                refine g_i2l 65 (gd rfl) rfl (fun z64 e64 => ?_)
                have i64 := l_i e64 i30x9
                refine g_ladd 66 (gd rfl) rfl (fun z65 e65 => ?_)
                refine g_ldc2_w 48 69 (gd rfl) rfl rfl ?_
                refine g_lsub 70 (gd rfl) rfl (fun z69 e69 => ?_)
                refine g_goto 77 (gd rfl) rfl ?_
                refine g_putL 80 (gd rfl) rfl rfl rfl rfl ?_
                have hI77 := inv_sG (q := 109) (j := 31) (x := z69) hIc10 rfl (l_rng z69)
                refine g_aload_n 81 (gd rfl) rfl rfl ?_
                refine g_dup 82 (gd rfl) rfl rfl ?_
                refine g_getI 85 (gd rfl) rfl rfl rfl (fun z82 e82 => ?_)
                have q82 : w10_109_27 = z82 := (sG_F (v10_109_27)).trans e82.symm
                subst q82
                refine g_iconst 1 86 (gd rfl) rfl rfl ?_
                refine g_iadd 87 (gd rfl) rfl (fun z86 e86 => ?_)
                have i86 := in_add 1 1000 e86 i18 (in_c 1 rfl) rfl rfl
                refine g_putI 90 (gd rfl) rfl rfl rfl rfl ?_
                have hI87 := inv_sF (q := 109) (j := 27) hI77 rfl (in_w 0 1000 i86 rfl)
                refine g_goto 10 (gd rfl) rfl ?_
                have v10 : z86 = (sF (sG sc10 109 31 z69) 109 27 z86).2.2.1 109 27 := sF_get
                have n10 : (z86).toInt ≤ (u_109_22).toInt := by have a0 := oa6 h1 ro_109_29 i18a i18 j10_2 i86; have a6 := t_add e86 i18 (in_c 1 rfl) rfl; have a7 := in_u ((in_c 1 rfl)); have a8 := tx_i2l e64; have a9 := oa2 i30x9 i44; have a11 := t_sub e42 i18 j10_2 rfl; have oc := oc_300_109; omega
                have n10a : (u_109_27).toInt ≤ (z86).toInt := by have a0 := oa6 h1 ro_109_29 i18a i18 j10_2 i86; have a6 := t_add e86 i18 (in_c 1 rfl) rfl; have a7 := in_u ((in_c 1 rfl)); have a8 := tx_i2l e64; have a9 := oa2 i30x9 i44; have a11 := t_sub e42 i18 j10_2 rfl; have oc := oc_300_109; omega
                have n10b : (y10_2).toInt = (u_109_27).toInt := by first | exact n10_2 | (have a0 := oa6 h1 ro_109_29 i18a i18 j10_2 i86; have a6 := t_add e86 i18 (in_c 1 rfl) rfl; have a7 := in_u ((in_c 1 rfl)); have a8 := tx_i2l e64; have a9 := oa2 i30x9 i44; have a11 := t_sub e42 i18 j10_2 rfl; have oc := oc_300_109; omega)
                have n10c : (∀ i : Nat, (s.2.2.1 109 27).toInt.toNat ≤ i → (i : Int) < (z86).toInt → tkD (s.1 125 i)) ∧ ((z86).toInt.toNat - (s.2.2.1 109 27).toInt.toNat ≤ 7 → ((sF (sG sc10 109 31 z69) 109 27 z86).2.2.2.1 109 31).toInt = tkN (s.1 125) (s.2.2.1 109 27).toInt.toNat ((z86).toInt.toNat - (s.2.2.1 109 27).toInt.toNat)) := by have ht : z29 = s.1 125 w10_109_27.toNatClampNeg := (by rw [e29, hFc10.1 125 rfl]); have hw : w10_109_27.toNatClampNeg = w10_109_27.toInt.toNat := rfl; have htn : z51.toInt = tkN (s.1 125) (s.2.2.1 109 27).toInt.toNat (w10_109_27.toInt.toNat - (s.2.2.1 109 27).toInt.toNat) := (by rw [e51]; exact g10_0.2 (by rw [← e_109_27]; have a0 := h1; unfold In at a0; have a1 := oa5 ro_109_29 i18a i18 j10_2 i86; have a6 := t_add e86 i18 (in_c 1 rfl) rfl; have a7 := in_u ((in_c 1 rfl)); have a8 := tx_i2l e64; have a9 := oa2 i30x9 i44; have a11 := t_sub e42 i18 j10_2 rfl; have oc := oc_300_109; omega)); exact ⟨(fun i h1 h2 => by by_cases hc : (i : Int) < w10_109_27.toInt; (exact g10_0.1 i h1 hc); (rw [show i = w10_109_27.toNatClampNeg from (by have a0 := h1; unfold In at a0; have a1 := oa5 ro_109_29 i18a i18 j10_2 i86; have a6 := t_add e86 i18 (in_c 1 rfl) rfl; have a7 := in_u ((in_c 1 rfl)); have a8 := tx_i2l e64; have a9 := oa2 i30x9 i44; have a11 := t_sub e42 i18 j10_2 rfl; have oc := oc_300_109; omega), ← ht]; exact ⟨by have a0 := h1; unfold In at a0; have a1 := oa5 ro_109_29 i18a i18 j10_2 i86; have a6 := t_add e86 i18 (in_c 1 rfl) rfl; have a7 := in_u ((in_c 1 rfl)); have a8 := tx_i2l e64; have a9 := oa2 i30x9 i44; have a11 := t_sub e42 i18 j10_2 rfl; have oc := oc_300_109; omega, by have a0 := h1; unfold In at a0; have a1 := oa5 ro_109_29 i18a i18 j10_2 i86; have a6 := t_add e86 i18 (in_c 1 rfl) rfl; have a7 := in_u ((in_c 1 rfl)); have a8 := tx_i2l e64; have a9 := oa2 i30x9 i44; have a11 := t_sub e42 i18 j10_2 rfl; have oc := oc_300_109; omega⟩)), fun h => by show (z69).toInt = _; rw [lx_st e54 e64 e65 e69 (by rw [htn]; exact (tkN_7 (by rw [← e_109_27]; have a0 := h1; unfold In at a0; have a1 := oa5 ro_109_29 i18a i18 j10_2 i86; have a6 := t_add e86 i18 (in_c 1 rfl) rfl; have a7 := in_u ((in_c 1 rfl)); have a8 := tx_i2l e64; have a9 := oa2 i30x9 i44; have a11 := t_sub e42 i18 j10_2 rfl; have oc := oc_300_109; omega) (fun i a b => g10_0.1 i a (by rw [← e_109_27] at b; have a0 := h1; unfold In at a0; have a1 := oa5 ro_109_29 i18a i18 j10_2 i86; have a6 := t_add e86 i18 (in_c 1 rfl) rfl; have a7 := in_u ((in_c 1 rfl)); have a8 := tx_i2l e64; have a9 := oa2 i30x9 i44; have a11 := t_sub e42 i18 j10_2 rfl; have oc := oc_300_109; omega)))) ⟨by have a0 := h1; unfold In at a0; have a1 := oa5 ro_109_29 i18a i18 j10_2 i86; have a6 := t_add e86 i18 (in_c 1 rfl) rfl; have a7 := in_u ((in_c 1 rfl)); have a8 := tx_i2l e64; have a9 := oa2 i30x9 i44; have a11 := t_sub e42 i18 j10_2 rfl; have oc := oc_300_109; omega, by have a0 := h1; unfold In at a0; have a1 := oa5 ro_109_29 i18a i18 j10_2 i86; have a6 := t_add e86 i18 (in_c 1 rfl) rfl; have a7 := in_u ((in_c 1 rfl)); have a8 := tx_i2l e64; have a9 := oa2 i30x9 i44; have a11 := t_sub e42 i18 j10_2 rfl; have oc := oc_300_109; omega⟩, htn, show (z86).toInt.toNat - (s.2.2.1 109 27).toInt.toNat = (w10_109_27.toInt.toNat - (s.2.2.1 109 27).toInt.toNat) + 1 from (by rw [← e_109_27]; have a0 := h1; unfold In at a0; have a1 := oa5 ro_109_29 i18a i18 j10_2 i86; have a6 := t_add e86 i18 (in_c 1 rfl) rfl; have a7 := in_u ((in_c 1 rfl)); have a8 := tx_i2l e64; have a9 := oa2 i30x9 i44; have a11 := t_sub e42 i18 j10_2 rfl; have oc := oc_300_109; omega)]; show _ = 10 * tkN (s.1 125) (s.2.2.1 109 27).toInt.toNat _ + ((s.1 125 ((s.2.2.1 109 27).toInt.toNat + (w10_109_27.toInt.toNat - (s.2.2.1 109 27).toInt.toNat))).toInt - 48); rw [show (s.2.2.1 109 27).toInt.toNat + (w10_109_27.toInt.toNat - (s.2.2.1 109 27).toInt.toNat) = w10_109_27.toNatClampNeg from (by rw [← e_109_27]; have a0 := h1; unfold In at a0; have a1 := oa5 ro_109_29 i18a i18 j10_2 i86; have a6 := t_add e86 i18 (in_c 1 rfl) rfl; have a7 := in_u ((in_c 1 rfl)); have a8 := tx_i2l e64; have a9 := oa2 i30x9 i44; have a11 := t_sub e42 i18 j10_2 rfl; have oc := oc_300_109; omega), ← ht]⟩
                have n10d : FSM s (sF (sG sc10 109 31 z69) 109 27 z86) := by exact g10_1
                have m10 : (u_109_22).toInt - (z86).toInt < ((k10 : Nat) : Int) := by have a0 := oa6 h1 ro_109_29 i18a i18 j10_2 i86; have a6 := t_add e86 i18 (in_c 1 rfl) rfl; have a7 := in_u ((in_c 1 rfl)); have a8 := tx_i2l e64; have a9 := oa2 i30x9 i44; have a11 := t_sub e42 i18 j10_2 rfl; have oc := oc_300_109; omega
                exact gg_w (by first | exact Nat.le_add_right _ _ | exact gw2 | exact gw3 | exact gwe rfl | exact gwf rfl | exact gwg rfl | exact gwh rfl | omega) (gg_f (gf_cons rfl (gf_cons rfl (gf_cons rfl gf_nil))) (ih10  (sF (sG sc10 109 31 z69) 109 27 z86) y10_2 z86 hI87 (fr_sF rfl (fr_sG rfl hFc10)) (in_w 0 1000 j10_2 rfl) v10 n10 n10a n10b n10c n10d m10))
  refine g_enter2 (k := 300) (N := 901801) (by first | exact dq1 hd rfl | exact dq0 hd rfl | exact dq2 hd rfl | exact dq3 hd rfl | omega) rfl (Nat.le_of_ble_eq_true rfl) ?_
  refine g_aload_n 1 (gd rfl) rfl rfl ?_
  refine g_getI 4 (gd rfl) rfl rfl rfl (fun z1 e1 => ?_)
  have q1 : u_109_27 = z1 := (e_109_27).trans e1.symm
  subst q1
  refine g_istore_n 5 (gd rfl) rfl (Nat.le_of_ble_eq_true rfl) ?_
  refine g_aload_n 6 (gd rfl) rfl rfl ?_
  refine g_lconst 0 7 (gd rfl) rfl rfl ?_
  refine g_putL 10 (gd rfl) rfl rfl rfl rfl ?_
  have hI7 := inv_sG (q := 109) (j := 31) (x := (Int64.ofInt 0)) hI rfl (l_rng (Int64.ofInt 0))
  have v10 : u_109_27 = (sG s 109 31 (Int64.ofInt 0)).2.2.1 109 27 := sG_F (e_109_27)
  have n10 : (u_109_27).toInt ≤ (u_109_22).toInt := by have a0 := oa4 ro_109_29 ((inv_F hI 0 1000 rfl e_109_22)) ((inv_F hI 0 1000 rfl e_109_27)) h1; have oc := oc_300_109; omega
  have n10a : (u_109_27).toInt ≤ (u_109_27).toInt := by exact Int.le_refl _
  have n10b : (u_109_27).toInt = (u_109_27).toInt := by have a0 := oa4 ro_109_29 ((inv_F hI 0 1000 rfl e_109_22)) ((inv_F hI 0 1000 rfl e_109_27)) h1; have oc := oc_300_109; omega
  have n10c : (∀ i : Nat, (s.2.2.1 109 27).toInt.toNat ≤ i → (i : Int) < (u_109_27).toInt → tkD (s.1 125 i)) ∧ ((u_109_27).toInt.toNat - (s.2.2.1 109 27).toInt.toNat ≤ 7 → ((sG s 109 31 (Int64.ofInt 0)).2.2.2.1 109 31).toInt = tkN (s.1 125) (s.2.2.1 109 27).toInt.toNat ((u_109_27).toInt.toNat - (s.2.2.1 109 27).toInt.toNat)) := by exact ⟨fun i a b => by exfalso; rw [← e_109_27] at a; have a0 := oa4 ro_109_29 ((inv_F hI 0 1000 rfl e_109_22)) ((inv_F hI 0 1000 rfl e_109_27)) h1; have oc := oc_300_109; omega, fun _ => by rw [show (u_109_27).toInt.toNat - (s.2.2.1 109 27).toInt.toNat = 0 from (by rw [← e_109_27]; have a0 := oa4 ro_109_29 ((inv_F hI 0 1000 rfl e_109_22)) ((inv_F hI 0 1000 rfl e_109_27)) h1; have oc := oc_300_109; omega)]; rfl⟩
  have n10d : FSM s (sG s 109 31 (Int64.ofInt 0)) := by exact ⟨rfl, rfl⟩
  have m10 : (u_109_22).toInt - (u_109_27).toInt < ((1001 : Nat) : Int) := by have a0 := oa4 ro_109_29 ((inv_F hI 0 1000 rfl e_109_22)) ((inv_F hI 0 1000 rfl e_109_27)) h1; have oc := oc_300_109; omega
  exact gg_w (by first | exact Nat.le_of_ble_eq_true rfl | omega) (gg_f (gf_cons rfl (gf_cons rfl (gf_cons rfl gf_nil))) (ct10 1001 (sG s 109 31 (Int64.ofInt 0)) u_109_27 u_109_27 hI7 (fr_sG rfl fr_rf) (in_w 0 1000 (inv_F hI 0 1000 rfl e_109_27) rfl) v10 n10 n10a n10b n10c n10d m10))
end
