section
/-! FUNCTIONAL CONTRACTS, by fgen.py -/
theorem oc_304_109 : (Int32.ofInt (-1)).toInt = (-1) ∧ (Int32.ofInt 0).toInt = 0 ∧ (Int32.ofInt 1).toInt = 1 ∧ (Int32.ofInt 2).toInt = 2 ∧ (Int32.ofInt 3).toInt = 3 ∧ (Int32.ofInt 4).toInt = 4 ∧ (Int32.ofInt 5).toInt = 5 ∧ (Int32.ofInt 59).toInt = 59 ∧ (Int32.ofInt 97).toInt = 97 ∧ (Int32.ofInt 110).toInt = 110 ∧ (Int32.ofInt 116).toInt = 116 ∧ (Int32.ofInt 119).toInt = 119 ∧ (Int32.ofInt 4000).toInt = 4000 := ⟨rfl, rfl, rfl, rfl, rfl, rfl, rfl, rfl, rfl, rfl, rfl, rfl, rfl⟩
set_option maxHeartbeats 4000000 in
/-- GraphHouseModel.command -/
theorem f_304 {Z : AmZ} {A : Nat → Nat} {s : GS} {ex : va_W} {d : Nat} {X : AmX} {u_109_27 : Int32} {u_109_22 : Int32} {u_109_32 : Int32} {u_109_28 : Int32} {u_109_30 : Int32} {u_109_29 : Int32} {u_109_23 : Int32} (hd : 5 ≤ d) (hI : Inv s) (e_109_27 : u_109_27 = s.2.2.1 109 27) (e_109_22 : u_109_22 = s.2.2.1 109 22) (e_109_32 : u_109_32 = s.2.2.1 109 32) (e_109_28 : u_109_28 = s.2.2.1 109 28) (e_109_30 : u_109_30 = s.2.2.1 109 30) (e_109_29 : u_109_29 = s.2.2.1 109 29) (e_109_23 : u_109_23 = s.2.2.1 109 23) (p_0 : (u_109_27).toInt ≤ (u_109_22).toInt) (p_1 : 3 * (u_109_32).toInt + 1 ≤ (u_109_27).toInt) (q_0 : LDQ s (s.2.2.1 109 32).toNatClampNeg) (q_1 : (s.2.2.1 109 23).toInt = 0) : GC Z d 304 [.ref (A 109)] (WW Z A s ++ ex) 0 0 (fun v u => ∃ t : GS, Inv t ∧ Fr fm_304 s t ∧ ((t.2.2.1 109 27).toInt ≤ (t.2.2.1 109 22).toInt) ∧ ((s.2.2.1 109 27).toInt ≤ (t.2.2.1 109 27).toInt) ∧ ((t.2.2.1 109 23).toInt = 0 → 3 * (t.2.2.1 109 32).toInt ≤ (t.2.2.1 109 27).toInt) ∧ ((t.2.2.1 109 23).toInt = 0 → (s.2.2.1 109 27).toInt + 1 ≤ (t.2.2.1 109 27).toInt) ∧ ((t.2.2.1 109 23).toInt = 0 → (t.2.2.1 109 9).toInt + (t.2.2.1 109 32).toInt ≤ 4000) ∧ v = none ∧ u = WW Z A t ++ ex ∧ ((t.2.2.1 109 23).toInt = 0 → LDQ t (t.2.2.1 109 32).toNatClampNeg) ∧ (RCM s t) ∧ (G0S s t)) X := by
  intro post xp hP hX
  obtain ⟨u_109_9, e_109_9⟩ : ∃ w, w = s.2.2.1 109 9 := ⟨_, rfl⟩
  have ro_109_9 := inv_F hI 0 4000 rfl e_109_9
  have ro_109_22 := inv_F hI 0 1000 rfl e_109_22
  have ct57 : ∀ (k57 : Nat) (sc57 : GS) (y57_1 : Int32) (y57_2 : Int32) (y57_3 : Int32) (y57_4 : Int32) (w57_109_27 : Int32) (w57_109_23 : Int32) (w57_109_32 : Int32), Inv sc57 → Fr fm_304 s sc57 → (In y57_1 0 1000) → (In y57_2 97 119) → (In y57_3 0 5) → (In y57_4 0 1) → (w57_109_27 = sc57.2.2.1 109 27) → (w57_109_23 = sc57.2.2.1 109 23) → (w57_109_32 = sc57.2.2.1 109 32) → ((w57_109_27).toInt ≤ (u_109_22).toInt) → ((u_109_27).toInt ≤ (w57_109_27).toInt) → (3 * (w57_109_32).toInt + 1 + (y57_3).toInt ≤ (w57_109_27).toInt) → ((y57_4).toInt = 0 → (w57_109_23).toInt = 0 → 3 * (w57_109_32).toInt + 3 ≤ (w57_109_27).toInt) → ((y57_4).toInt ≠ 0 → 0 ≤ (y57_3).toInt) → ((u_109_27).toInt + (y57_3).toInt ≤ (w57_109_27).toInt) → ((y57_4).toInt = 0 → (w57_109_23).toInt = 0 → (u_109_27).toInt + 1 ≤ (w57_109_27).toInt) → ((sc57.2.2.1 109 23).toInt = 0 → LDQ sc57 (sc57.2.2.1 109 32).toNatClampNeg) → ((sc57.2.2.1 109 23).toInt = 0 → ((y57_2).toInt = 110 → 1 ≤ (y57_3).toInt → nq (sc57.1 128 (5 * (sc57.2.2.1 109 32).toNatClampNeg)) 0 25) ∧ ((y57_2).toInt = 97 → 5 ≤ (y57_3).toInt → nq (sc57.1 128 (5 * (sc57.2.2.1 109 32).toNatClampNeg + 4)) 0 25)) → ((y57_4).toInt = 0 → (sc57.2.2.1 109 23).toInt = 0 → ((y57_2).toInt = 110 → 1 ≤ (y57_3).toInt) ∧ ((y57_2).toInt = 97 → 5 ≤ (y57_3).toInt)) → (C4 (y57_2).toInt ∧ (y57_2) = s.2.2.1 109 30 ∧ (s.2.2.1 109 28).toInt = 1 ∧ (y57_1) = s.2.2.1 109 29) → (sc57.1 110 = s.1 110 ∧ sc57.1 112 = s.1 112 ∧ sc57.1 127 = s.1 127 ∧ (∀ j, j < 5 * (s.2.2.1 109 32).toNatClampNeg → sc57.1 128 j = s.1 128 j) ∧ sc57.2.2.1 109 32 = s.2.2.1 109 32) → (HQ5 s sc57 ((y57_2).toInt - 97) (y57_3) (y57_4) (w57_109_27).toInt.toNat) → (HQ6 s sc57 ((y57_2).toInt - 97) (y57_4) (w57_109_27).toInt.toNat) → (HQ7 s sc57 ((y57_2).toInt - 97)) → 100 - 10 * (y57_3).toInt + 5 * (y57_4).toInt + 9 - (w57_109_23).toInt < (k57 : Int) → GG Z (d - 1) 304 post (gx xp) (1 + k57 * 900) 57 (fun j => xlook j [(0, .ref (A 109)), (1, .int y57_1), (2, .int y57_2), (3, .int y57_3), (4, .int y57_4)]) [] (WW Z A sc57 ++ ex) 0 0 := by
    intro k57
    induction k57 with
    | zero => intro sc57 y57_1 y57_2 y57_3 y57_4 w57_109_27 w57_109_23 w57_109_32 hIc57 hFc57 j57_1 j57_2 j57_3 j57_4 v57_109_27 v57_109_23 v57_109_32 n57_0 n57_1 n57_2 n57_3 n57_4 n57_5 n57_6 g57_0 g57_1 g57_2 g57_3 g57_4 g57_5 g57_6 g57_7 mm57; exfalso; have a0 := oa5 ro_109_22 ro_109_9 ((inv_F hIc57 0 500 rfl v57_109_32)) ((inv_F hIc57 0 9 rfl v57_109_23)) ((inv_F hIc57 0 1000 rfl v57_109_27)); have a5 := j57_4; unfold In at a5; have a6 := j57_3; unfold In at a6; have a7 := j57_2; unfold In at a7; have a8 := j57_1; unfold In at a8; have oc := oc_304_109; omega
    | succ k57 ih57 =>
      intro sc57 y57_1 y57_2 y57_3 y57_4 w57_109_27 w57_109_23 w57_109_32 hIc57 hFc57 j57_1 j57_2 j57_3 j57_4 v57_109_27 v57_109_23 v57_109_32 n57_0 n57_1 n57_2 n57_3 n57_4 n57_5 n57_6 g57_0 g57_1 g57_2 g57_3 g57_4 g57_5 g57_6 g57_7 mm57
      refine gg_w (M := 1 + k57 * 900 + 900) gws ?_
      refine g_iload 59 (gd rfl) rfl rfl ?_
      refine g_if_eq 62 186 (gd rfl) rfl rfl (fun c59 => ?_) (fun c59 => ?_)
      · skip
        have i59 := z_eq 0 0 c59 j57_4 rfl
        refine g_aload_n 187 (gd rfl) rfl rfl ?_
        refine g_getI 190 (gd rfl) rfl rfl rfl (fun z187 e187 => ?_)
        have q187 : w57_109_23 = z187 := (v57_109_23).trans e187.symm
        subst q187
        refine g_if_ne 193 248 (gd rfl) rfl rfl (fun c190 => ?_) (fun c190 => ?_)
        · skip
          have i190 := z_ne 1 9 c190 (inv_F hIc57 0 9 rfl v57_109_23) rfl
          have n248 : (sc57.2.2.1 109 23).toInt = 0 → LDQ sc57 (sc57.2.2.1 109 32).toNatClampNeg := by (intro hf; exfalso; rw [← v57_109_23] at hf; exact absurd hf c190)
          have n248a : RCM s sc57 := by exact rcm_x g57_3.2.2.1 (c97 g57_3.2.1) g57_7 (by rw [← v57_109_23]; exact c190)
          have n248b : G0S s sc57 := by exact g0_cg g57_4.1 g57_4.2.1
          have n248c : (w57_109_27).toInt ≤ (u_109_22).toInt := by first | exact n57_0 | (have a0 := oa9 ro_109_22 ro_109_9 ((inv_F hIc57 0 500 rfl v57_109_32)) i190 ((inv_F hIc57 0 1000 rfl v57_109_27)) i59 j57_3 j57_2 j57_1; have oc := oc_304_109; omega)
          have n248d : (sc57.2.2.1 109 27).toInt ≤ (sc57.2.2.1 109 22).toInt := by have b0 : w57_109_27 = sc57.2.2.1 109 27 := v57_109_27; have b1 : u_109_22 = sc57.2.2.1 109 22 := fr_F e_109_22 hFc57 rfl; rw [← b0, ← b1]; exact n248c
          have n248e : (u_109_27).toInt ≤ (w57_109_27).toInt := by first | exact n57_1 | (have a0 := oa9 ro_109_22 ro_109_9 ((inv_F hIc57 0 500 rfl v57_109_32)) i190 ((inv_F hIc57 0 1000 rfl v57_109_27)) i59 j57_3 j57_2 j57_1; have oc := oc_304_109; omega)
          have n248f : (s.2.2.1 109 27).toInt ≤ (sc57.2.2.1 109 27).toInt := by have b0 : w57_109_27 = sc57.2.2.1 109 27 := v57_109_27; first | (rw [← b0, ← e_109_27]; exact n248e) | (rw [← b0]; exact n248e)
          have n248g : (w57_109_23).toInt = 0 → 3 * (w57_109_32).toInt ≤ (w57_109_27).toInt := by have a0 := oa9 ro_109_22 ro_109_9 ((inv_F hIc57 0 500 rfl v57_109_32)) i190 ((inv_F hIc57 0 1000 rfl v57_109_27)) i59 j57_3 j57_2 j57_1; have oc := oc_304_109; omega
          have n248h : (sc57.2.2.1 109 23).toInt = 0 → 3 * (sc57.2.2.1 109 32).toInt ≤ (sc57.2.2.1 109 27).toInt := by have b0 : w57_109_23 = sc57.2.2.1 109 23 := v57_109_23; have b1 : w57_109_32 = sc57.2.2.1 109 32 := v57_109_32; have b2 : w57_109_27 = sc57.2.2.1 109 27 := v57_109_27; rw [← b0, ← b1, ← b2]; exact n248g
          have n248i : (w57_109_23).toInt = 0 → (u_109_27).toInt + 1 ≤ (w57_109_27).toInt := by have a0 := oa9 ro_109_22 ro_109_9 ((inv_F hIc57 0 500 rfl v57_109_32)) i190 ((inv_F hIc57 0 1000 rfl v57_109_27)) i59 j57_3 j57_2 j57_1; have oc := oc_304_109; omega
          have n248j : (sc57.2.2.1 109 23).toInt = 0 → (s.2.2.1 109 27).toInt + 1 ≤ (sc57.2.2.1 109 27).toInt := by have b0 : w57_109_23 = sc57.2.2.1 109 23 := v57_109_23; have b1 : w57_109_27 = sc57.2.2.1 109 27 := v57_109_27; first | (rw [← b0, ← b1, ← e_109_27]; exact n248i) | (rw [← b0, ← b1]; exact n248i)
          have n248k : (w57_109_23).toInt = 0 → (u_109_9).toInt + (w57_109_32).toInt ≤ 4000 := by have a0 := oa9 ro_109_22 ro_109_9 ((inv_F hIc57 0 500 rfl v57_109_32)) i190 ((inv_F hIc57 0 1000 rfl v57_109_27)) i59 j57_3 j57_2 j57_1; have oc := oc_304_109; omega
          have n248l : (sc57.2.2.1 109 23).toInt = 0 → (sc57.2.2.1 109 9).toInt + (sc57.2.2.1 109 32).toInt ≤ 4000 := by have b0 : w57_109_23 = sc57.2.2.1 109 23 := v57_109_23; have b1 : u_109_9 = sc57.2.2.1 109 9 := fr_F e_109_9 hFc57 rfl; have b2 : w57_109_32 = sc57.2.2.1 109 32 := v57_109_32; rw [← b0, ← b1, ← b2]; exact n248k
          exact g_return (gd rfl) rfl (hP _ _ ⟨sc57, hIc57, hFc57, n248d, n248f, n248h, n248j, n248l, rfl, rfl, n248, n248a, n248b⟩)
        · skip
          have i190 := z_eq 0 0 c190 (inv_F hIc57 0 9 rfl v57_109_23) rfl
          refine g_aload_n 194 (gd rfl) rfl rfl ?_
          refine g_getA (q2 := 127) 197 (gd rfl) rfl rfl rfl rfl ?_
          refine g_aload_n 198 (gd rfl) rfl rfl ?_
          refine g_getI 201 (gd rfl) rfl rfl rfl (fun z198 e198 => ?_)
          have q198 : w57_109_32 = z198 := (v57_109_32).trans e198.symm
          subst q198
          refine g_iload_n 202 (gd rfl) rfl rfl ?_
          have i202 : In w57_109_32 0 499 := by have a0 := oa9 ro_109_22 ro_109_9 ((inv_F hIc57 0 500 rfl v57_109_32)) i190 ((inv_F hIc57 0 1000 rfl v57_109_27)) i59 j57_3 j57_2 j57_1; have oc := oc_304_109; exact ⟨by omega, by omega⟩
          refine g_iastore 203 (gd rfl) rfl (n := 500) rfl (in_ix i202 rfl) ?_
          have hI202 := inv_sI (q := 127) (j := w57_109_32.toNatClampNeg) hIc57 rfl (in_w (-2147483648) 2147483647 j57_2 rfl)
          refine g_aload_n 204 (gd rfl) rfl rfl ?_
          refine g_iload_n 205 (gd rfl) rfl rfl ?_
          refine g_iconst 5 206 (gd rfl) rfl rfl ?_
          refine g_aload_n 207 (gd rfl) rfl rfl ?_
          refine g_getI 210 (gd rfl) rfl rfl rfl (fun z207 e207 => ?_)
          have q207 : w57_109_32 = z207 := (sI_F (v57_109_32)).trans e207.symm
          subst q207
          refine g_imul 211 (gd rfl) rfl (fun z210 e210 => ?_)
          have i210 := in_mulc 5 0 2495 (Or.inl e210) i202 rfl rfl
          have p211 : 0 ≤ ((sI sc57 127 w57_109_32.toNatClampNeg y57_2).1 110 2).toInt ∧ ((sI sc57 127 w57_109_32.toNatClampNeg y57_2).1 110 2).toInt ≤ 32 := by exact ldq_n hI202 (show LDQ (sI sc57 127 w57_109_32.toNatClampNeg y57_2) w57_109_32.toNatClampNeg from (by have h := (ldq_cg (t := (sI sc57 127 w57_109_32.toNatClampNeg y57_2)) (g57_0 (by rw [← v57_109_23]; exact c190)) (sI_p rfl) (sI_p rfl) (fun j hj => by rw [sI_q, up_n (by rw [v57_109_32]; omega)]) (fun j _ => by rw [sI_p rfl])); rw [← v57_109_32] at h; exact h))
          have p211a : C4 (y57_2).toInt := by exact g57_3.1
          refine g_callv (X := _) (As := [.int y57_2, .int z210]) (r := []) (b := A 109) (q := 109) 214 (gd rfl) rfl rfl rfl rfl rfl (ww_o rfl) (Nat.le_of_ble_eq_true rfl) (Nat.zero_le _) (Nat.zero_le _) (f_305 (by first | exact dq1 hd rfl | exact dq0 hd rfl | exact dq2 hd rfl | exact dq3 hd rfl | omega) hI202 (in_w 97 119 j57_2 rfl) (in_w 0 2495 i210 rfl) p211 p211a) (fun e u h => h) (fun v u h => ?_)
          obtain ⟨s211, hI211, hF211, z211, rfl, rfl, i211, p211b, p211c⟩ := h
          show GG _ _ _ _ _ _ _ _ [.int z211] _ _ _
          refine g_if_eq 217 232 (gd rfl) rfl rfl (fun c214 => ?_) (fun c214 => ?_)
          · skip
            have i214 := z_eq 0 0 c214 i211 rfl
            refine g_aload_n 233 (gd rfl) rfl rfl ?_
            refine g_iconst 4 234 (gd rfl) rfl rfl ?_
            refine g_iload_n 235 (gd rfl) rfl rfl ?_
            have v235 : w57_109_23 = s211.2.2.1 109 23 := fr_F (s := (sI sc57 127 w57_109_32.toNatClampNeg y57_2)) (sI_F (v57_109_23)) hF211 rfl
            refine g_callv (X := _) (As := [.int (Int32.ofInt 4), .int y57_1]) (r := []) (b := A 109) (q := 109) 238 (gd rfl) rfl rfl rfl rfl rfl (ww_o rfl) (Nat.le_of_ble_eq_true rfl) (Nat.zero_le _) (Nat.zero_le _) (f_298 (by first | exact dq1 hd rfl | exact dq0 hd rfl | exact dq2 hd rfl | exact dq3 hd rfl | omega) hI211 (in_w 1 5 (in_c 4 rfl) rfl) v235) (fun e u h => h) (fun v u h => ?_)
            obtain ⟨s235, hI235, hF235, n235, rfl, rfl, p235⟩ := h
            obtain ⟨z235a, e235⟩ : ∃ w, w = s235.2.2.1 109 23 := ⟨_, rfl⟩
            have i235a := inv_F hI235 0 9 rfl e235
            rw [← (show z235a = s235.2.2.1 109 23 from e235)] at n235
            show GG _ _ _ _ _ _ _ _ [] _ _ _
            refine g_aload_n 239 (gd rfl) rfl rfl ?_
            refine g_dup 240 (gd rfl) rfl rfl ?_
            refine g_getI 243 (gd rfl) rfl rfl rfl (fun z240 e240 => ?_)
            have q240 : w57_109_32 = z240 := (fr_F (fr_F (s := (sI sc57 127 w57_109_32.toNatClampNeg y57_2)) (sI_F (v57_109_32)) hF211 rfl) hF235 rfl).trans e240.symm
            subst q240
            refine g_iconst 1 244 (gd rfl) rfl rfl ?_
            refine g_iadd 245 (gd rfl) rfl (fun z244 e244 => ?_)
            have i244 := in_add 1 500 e244 i202 (in_c 1 rfl) rfl rfl
            refine g_putI 248 (gd rfl) rfl rfl rfl rfl ?_
            have hI245 := inv_sF (q := 109) (j := 32) hI235 rfl (in_w 0 500 i244 rfl)
            have n248 : ((sF s235 109 32 z244).2.2.1 109 23).toInt = 0 → LDQ (sF s235 109 32 z244) ((sF s235 109 32 z244).2.2.1 109 32).toNatClampNeg := by (intro hf; exfalso; have hg : (s235.2.2.1 109 23).toInt = 0 := hf; rw [← e235] at hg; have hn := n235; omega)
            have n248a : RCM s (sF s235 109 32 z244) := by exact rcm_n g57_3 g57_4 g57_6 (by rw [← v57_109_23]; exact c190) c59 (hFc57.2.2.1 109 9 rfl) v57_109_32 (by show z210.toInt.toNat = 5 * w57_109_32.toInt.toNat; have r1 := i202; have a0 := oa10 ro_109_22 ro_109_9 i202 i190 ((inv_F hIc57 0 1000 rfl v57_109_27)) i59 j57_3 j57_2 j57_1 i244; have a10 := t_add e244 i202 (in_c 1 rfl) rfl; have a11 := oa3 ((in_c 1 rfl)) i235a i210; have a14 := (t_mulc 5 (Or.inl e210) i202 rfl).1; have oc := oc_304_109; omega) (Or.inl (p211c.2 c214)) (p235.1 (by rw [← v235]; exact c190)).1 (p235.1 (by rw [← v235]; exact c190)).2 (by have a0 := oa10 ro_109_22 ro_109_9 i202 i190 ((inv_F hIc57 0 1000 rfl v57_109_27)) i59 j57_3 j57_2 j57_1 i244; have a10 := t_add e244 i202 (in_c 1 rfl) rfl; have a11 := oa3 ((in_c 1 rfl)) i235a i210; have a14 := (t_mulc 5 (Or.inl e210) i202 rfl).1; have oc := oc_304_109; omega)
            have n248b : G0S s (sF s235 109 32 z244) := by exact g0_tr (g0_tr (g0_cg (t := sI sc57 127 _ _) ((sI_p rfl).trans g57_4.1) ((sI_p rfl).trans g57_4.2.1)) p211b.1) (g0_cg (hF235.1 110 rfl) (hF235.1 112 rfl))
            have n248c : (w57_109_27).toInt ≤ (u_109_22).toInt := by first | exact n57_0 | (have a0 := oa10 ro_109_22 ro_109_9 i202 i190 ((inv_F hIc57 0 1000 rfl v57_109_27)) i59 j57_3 j57_2 j57_1 i244; have a10 := t_add e244 i202 (in_c 1 rfl) rfl; have a11 := oa3 ((in_c 1 rfl)) i235a i210; have a14 := (t_mulc 5 (Or.inl e210) i202 rfl).1; have oc := oc_304_109; omega)
            have n248d : ((sF s235 109 32 z244).2.2.1 109 27).toInt ≤ ((sF s235 109 32 z244).2.2.1 109 22).toInt := by have b0 : w57_109_27 = (sF s235 109 32 z244).2.2.1 109 27 := sF_ne rfl (fr_F (fr_F (s := (sI sc57 127 w57_109_32.toNatClampNeg y57_2)) (sI_F (v57_109_27)) hF211 rfl) hF235 rfl); have b1 : u_109_22 = (sF s235 109 32 z244).2.2.1 109 22 := sF_ne rfl (fr_F (fr_F (s := (sI sc57 127 w57_109_32.toNatClampNeg y57_2)) (sI_F (fr_F e_109_22 hFc57 rfl)) hF211 rfl) hF235 rfl); rw [← b0, ← b1]; exact n248c
            have n248e : (u_109_27).toInt ≤ (w57_109_27).toInt := by first | exact n57_1 | (have a0 := oa10 ro_109_22 ro_109_9 i202 i190 ((inv_F hIc57 0 1000 rfl v57_109_27)) i59 j57_3 j57_2 j57_1 i244; have a10 := t_add e244 i202 (in_c 1 rfl) rfl; have a11 := oa3 ((in_c 1 rfl)) i235a i210; have a14 := (t_mulc 5 (Or.inl e210) i202 rfl).1; have oc := oc_304_109; omega)
            have n248f : (s.2.2.1 109 27).toInt ≤ ((sF s235 109 32 z244).2.2.1 109 27).toInt := by have b0 : w57_109_27 = (sF s235 109 32 z244).2.2.1 109 27 := sF_ne rfl (fr_F (fr_F (s := (sI sc57 127 w57_109_32.toNatClampNeg y57_2)) (sI_F (v57_109_27)) hF211 rfl) hF235 rfl); first | (rw [← b0, ← e_109_27]; exact n248e) | (rw [← b0]; exact n248e)
            have n248g : (z235a).toInt = 0 → 3 * (z244).toInt ≤ (w57_109_27).toInt := by have a0 := oa10 ro_109_22 ro_109_9 i202 i190 ((inv_F hIc57 0 1000 rfl v57_109_27)) i59 j57_3 j57_2 j57_1 i244; have a10 := t_add e244 i202 (in_c 1 rfl) rfl; have a11 := oa3 ((in_c 1 rfl)) i235a i210; have a14 := (t_mulc 5 (Or.inl e210) i202 rfl).1; have oc := oc_304_109; omega
            have n248h : ((sF s235 109 32 z244).2.2.1 109 23).toInt = 0 → 3 * ((sF s235 109 32 z244).2.2.1 109 32).toInt ≤ ((sF s235 109 32 z244).2.2.1 109 27).toInt := by have b0 : z235a = (sF s235 109 32 z244).2.2.1 109 23 := sF_ne rfl (e235); have b1 : z244 = (sF s235 109 32 z244).2.2.1 109 32 := sF_get; have b2 : w57_109_27 = (sF s235 109 32 z244).2.2.1 109 27 := sF_ne rfl (fr_F (fr_F (s := (sI sc57 127 w57_109_32.toNatClampNeg y57_2)) (sI_F (v57_109_27)) hF211 rfl) hF235 rfl); rw [← b0, ← b1, ← b2]; exact n248g
            have n248i : (z235a).toInt = 0 → (u_109_27).toInt + 1 ≤ (w57_109_27).toInt := by have a0 := oa10 ro_109_22 ro_109_9 i202 i190 ((inv_F hIc57 0 1000 rfl v57_109_27)) i59 j57_3 j57_2 j57_1 i244; have a10 := t_add e244 i202 (in_c 1 rfl) rfl; have a11 := oa3 ((in_c 1 rfl)) i235a i210; have a14 := (t_mulc 5 (Or.inl e210) i202 rfl).1; have oc := oc_304_109; omega
            have n248j : ((sF s235 109 32 z244).2.2.1 109 23).toInt = 0 → (s.2.2.1 109 27).toInt + 1 ≤ ((sF s235 109 32 z244).2.2.1 109 27).toInt := by have b0 : z235a = (sF s235 109 32 z244).2.2.1 109 23 := sF_ne rfl (e235); have b1 : w57_109_27 = (sF s235 109 32 z244).2.2.1 109 27 := sF_ne rfl (fr_F (fr_F (s := (sI sc57 127 w57_109_32.toNatClampNeg y57_2)) (sI_F (v57_109_27)) hF211 rfl) hF235 rfl); first | (rw [← b0, ← b1, ← e_109_27]; exact n248i) | (rw [← b0, ← b1]; exact n248i)
            have n248k : (z235a).toInt = 0 → (u_109_9).toInt + (z244).toInt ≤ 4000 := by have a0 := oa10 ro_109_22 ro_109_9 i202 i190 ((inv_F hIc57 0 1000 rfl v57_109_27)) i59 j57_3 j57_2 j57_1 i244; have a10 := t_add e244 i202 (in_c 1 rfl) rfl; have a11 := oa3 ((in_c 1 rfl)) i235a i210; have a14 := (t_mulc 5 (Or.inl e210) i202 rfl).1; have oc := oc_304_109; omega
            have n248l : ((sF s235 109 32 z244).2.2.1 109 23).toInt = 0 → ((sF s235 109 32 z244).2.2.1 109 9).toInt + ((sF s235 109 32 z244).2.2.1 109 32).toInt ≤ 4000 := by have b0 : z235a = (sF s235 109 32 z244).2.2.1 109 23 := sF_ne rfl (e235); have b1 : u_109_9 = (sF s235 109 32 z244).2.2.1 109 9 := sF_ne rfl (fr_F (fr_F (s := (sI sc57 127 w57_109_32.toNatClampNeg y57_2)) (sI_F (fr_F e_109_9 hFc57 rfl)) hF211 rfl) hF235 rfl); have b2 : z244 = (sF s235 109 32 z244).2.2.1 109 32 := sF_get; rw [← b0, ← b1, ← b2]; exact n248k
            exact g_return (gd rfl) rfl (hP _ _ ⟨(sF s235 109 32 z244), hI245, (fr_sF rfl (fr_tr rfl (fr_tr rfl (fr_sI rfl hFc57) hF211) hF235)), n248d, n248f, n248h, n248j, n248l, rfl, rfl, n248, n248a, n248b⟩)
          · skip
            have i214 := z_ne 1 1 c214 i211 rfl
            refine g_aload_n 218 (gd rfl) rfl rfl ?_
            refine g_getI 221 (gd rfl) rfl rfl rfl (fun z218 e218 => ?_)
            have q218 : u_109_9 = z218 := (fr_F (s := (sI sc57 127 w57_109_32.toNatClampNeg y57_2)) (sI_F (fr_F e_109_9 hFc57 rfl)) hF211 rfl).trans e218.symm
            subst q218
            refine g_aload_n 222 (gd rfl) rfl rfl ?_
            refine g_getI 225 (gd rfl) rfl rfl rfl (fun z222 e222 => ?_)
            have q222 : w57_109_32 = z222 := (fr_F (s := (sI sc57 127 w57_109_32.toNatClampNeg y57_2)) (sI_F (v57_109_32)) hF211 rfl).trans e222.symm
            subst q222
            refine g_iadd 226 (gd rfl) rfl (fun z225 e225 => ?_)
            have i225 := in_add 0 4499 e225 ro_109_9 i202 rfl rfl
            refine g_sipush 4000 229 (gd rfl) rfl rfl ?_
            refine g_cmp_lt 232 238 (gd rfl) rfl rfl (fun c229 => ?_) (fun c229 => ?_)
            · skip
              have i229 := r_lt1 0 3999 c229 i225 (in_c 4000 rfl) rfl
              refine g_aload_n 239 (gd rfl) rfl rfl ?_
              refine g_dup 240 (gd rfl) rfl rfl ?_
              refine g_getI 243 (gd rfl) rfl rfl rfl (fun z240 e240 => ?_)
              have q240 : w57_109_32 = z240 := (fr_F (s := (sI sc57 127 w57_109_32.toNatClampNeg y57_2)) (sI_F (v57_109_32)) hF211 rfl).trans e240.symm
              subst q240
              refine g_iconst 1 244 (gd rfl) rfl rfl ?_
              refine g_iadd 245 (gd rfl) rfl (fun z244 e244 => ?_)
              have i244 := in_add 1 500 e244 i202 (in_c 1 rfl) rfl rfl
              refine g_putI 248 (gd rfl) rfl rfl rfl rfl ?_
              have hI245 := inv_sF (q := 109) (j := 32) hI211 rfl (in_w 0 500 i244 rfl)
              have n248 : ((sF s211 109 32 z244).2.2.1 109 23).toInt = 0 → LDQ (sF s211 109 32 z244) ((sF s211 109 32 z244).2.2.1 109 32).toNatClampNeg := by (intro hf; have hz : z244.toNatClampNeg = w57_109_32.toNatClampNeg + 1 := (by show z244.toInt.toNat = w57_109_32.toInt.toNat + 1; have r1 := i202; have a0 := in_u ro_109_22; have a1 := in_u ro_109_9; have a2 := in_u i202; have a3 := in_u i190; have a4 := in_u ((inv_F hIc57 0 1000 rfl v57_109_27)); have a5 := in_u i59; have a6 := in_u j57_3; have a7 := in_u j57_2; have a8 := in_u j57_1; have a9 := in_u i244; have a10 := t_add e244 i202 (in_c 1 rfl) rfl; have a11 := in_u ((in_c 1 rfl)); have a12 := in_u i229; have a13 := t_add e225 ro_109_9 i202 rfl; have a14 := in_u i210; have a15 := (t_mulc 5 (Or.inl e210) i202 rfl).1; have oc := oc_304_109; omega); rw [show ((sF s211 109 32 z244).2.2.1 109 32) = z244 from sF_get.symm, hz]; have hlu : LDQ (sI sc57 127 w57_109_32.toNatClampNeg y57_2) w57_109_32.toNatClampNeg := (by have h := (ldq_cg (t := (sI sc57 127 w57_109_32.toNatClampNeg y57_2)) (g57_0 (by rw [← v57_109_23]; exact c190)) (sI_p rfl) (sI_p rfl) (fun j hj => by rw [sI_q, up_n (by rw [v57_109_32]; omega)]) (fun j _ => by rw [sI_p rfl])); rw [← v57_109_32] at h; exact h); exact ldq_s (s := (sI sc57 127 w57_109_32.toNatClampNeg y57_2)) (t := s211) (R := z211.toInt) hlu (by rw [sI_q, up_e]) (by have h := p211b; rw [show z210.toNatClampNeg = 5 * w57_109_32.toNatClampNeg from (by show z210.toInt.toNat = 5 * w57_109_32.toInt.toNat; have r1 := i202; have a0 := in_u ro_109_22; have a1 := in_u ro_109_9; have a2 := in_u i202; have a3 := in_u i190; have a4 := in_u ((inv_F hIc57 0 1000 rfl v57_109_27)); have a5 := in_u i59; have a6 := in_u j57_3; have a7 := in_u j57_2; have a8 := in_u j57_1; have a9 := in_u i244; have a10 := t_add e244 i202 (in_c 1 rfl) rfl; have a11 := in_u ((in_c 1 rfl)); have a12 := in_u i229; have a13 := t_add e225 ro_109_9 i202 rfl; have a14 := in_u i210; have a15 := (t_mulc 5 (Or.inl e210) i202 rfl).1; have oc := oc_304_109; omega)] at h; exact h) c214 (hF211.1 127 rfl) (hF211.1 128 rfl) (fun a1 => by rw [sI_p rfl, v57_109_32]; exact (g57_1 (by rw [← v57_109_23]; exact c190)).1 a1 ((g57_2 c59 (by rw [← v57_109_23]; exact c190)).1 a1)) (fun a1 => by rw [sI_p rfl, v57_109_32]; exact (g57_1 (by rw [← v57_109_23]; exact c190)).2 a1 ((g57_2 c59 (by rw [← v57_109_23]; exact c190)).2 a1)))
              have n248a : RCM s (sF s211 109 32 z244) := by exact rcm_d g57_3 g57_4 g57_6 (by rw [← v57_109_23]; exact c190) c59 (hFc57.2.2.1 109 9 rfl) v57_109_32 (by show z210.toInt.toNat = 5 * w57_109_32.toInt.toNat; have r1 := i202; have a0 := oa10 ro_109_22 ro_109_9 i202 i190 ((inv_F hIc57 0 1000 rfl v57_109_27)) i59 j57_3 j57_2 j57_1 i244; have a10 := t_add e244 i202 (in_c 1 rfl) rfl; have a11 := oa2 ((in_c 1 rfl)) i229; have a13 := t_add e225 ro_109_9 i202 rfl; have a14 := in_u i210; have a15 := (t_mulc 5 (Or.inl e210) i202 rfl).1; have oc := oc_304_109; omega) (p211c.1 c214) (p211b.2 c214) (by have q32 := congrArg Int32.toInt (show w57_109_32 = s.2.2.1 109 32 from v57_109_32.trans g57_4.2.2.2.2); rw [← e_109_9, ← q32]; have a0 := oa10 ro_109_22 ro_109_9 i202 i190 ((inv_F hIc57 0 1000 rfl v57_109_27)) i59 j57_3 j57_2 j57_1 i244; have a10 := t_add e244 i202 (in_c 1 rfl) rfl; have a11 := oa2 ((in_c 1 rfl)) i229; have a13 := t_add e225 ro_109_9 i202 rfl; have a14 := in_u i210; have a15 := (t_mulc 5 (Or.inl e210) i202 rfl).1; have oc := oc_304_109; omega) v57_109_27 (by have a0 := oa10 ro_109_22 ro_109_9 i202 i190 ((inv_F hIc57 0 1000 rfl v57_109_27)) i59 j57_3 j57_2 j57_1 i244; have a10 := t_add e244 i202 (in_c 1 rfl) rfl; have a11 := oa2 ((in_c 1 rfl)) i229; have a13 := t_add e225 ro_109_9 i202 rfl; have a14 := in_u i210; have a15 := (t_mulc 5 (Or.inl e210) i202 rfl).1; have oc := oc_304_109; omega) (hF211.2.2.1 109 9 rfl) (hF211.2.2.1 109 23 rfl) (hF211.2.2.1 109 27 rfl) (hF211.1 127 rfl) (hF211.1 128 rfl)
              have n248b : G0S s (sF s211 109 32 z244) := by exact g0_tr (g0_cg (t := sI sc57 127 _ _) ((sI_p rfl).trans g57_4.1) ((sI_p rfl).trans g57_4.2.1)) p211b.1
              have n248c : (w57_109_27).toInt ≤ (u_109_22).toInt := by first | exact n57_0 | (have a0 := oa10 ro_109_22 ro_109_9 i202 i190 ((inv_F hIc57 0 1000 rfl v57_109_27)) i59 j57_3 j57_2 j57_1 i244; have a10 := t_add e244 i202 (in_c 1 rfl) rfl; have a11 := oa2 ((in_c 1 rfl)) i229; have a13 := t_add e225 ro_109_9 i202 rfl; have a14 := in_u i210; have a15 := (t_mulc 5 (Or.inl e210) i202 rfl).1; have oc := oc_304_109; omega)
              have n248d : ((sF s211 109 32 z244).2.2.1 109 27).toInt ≤ ((sF s211 109 32 z244).2.2.1 109 22).toInt := by have b0 : w57_109_27 = (sF s211 109 32 z244).2.2.1 109 27 := sF_ne rfl (fr_F (s := (sI sc57 127 w57_109_32.toNatClampNeg y57_2)) (sI_F (v57_109_27)) hF211 rfl); have b1 : u_109_22 = (sF s211 109 32 z244).2.2.1 109 22 := sF_ne rfl (fr_F (s := (sI sc57 127 w57_109_32.toNatClampNeg y57_2)) (sI_F (fr_F e_109_22 hFc57 rfl)) hF211 rfl); rw [← b0, ← b1]; exact n248c
              have n248e : (u_109_27).toInt ≤ (w57_109_27).toInt := by first | exact n57_1 | (have a0 := oa10 ro_109_22 ro_109_9 i202 i190 ((inv_F hIc57 0 1000 rfl v57_109_27)) i59 j57_3 j57_2 j57_1 i244; have a10 := t_add e244 i202 (in_c 1 rfl) rfl; have a11 := oa2 ((in_c 1 rfl)) i229; have a13 := t_add e225 ro_109_9 i202 rfl; have a14 := in_u i210; have a15 := (t_mulc 5 (Or.inl e210) i202 rfl).1; have oc := oc_304_109; omega)
              have n248f : (s.2.2.1 109 27).toInt ≤ ((sF s211 109 32 z244).2.2.1 109 27).toInt := by have b0 : w57_109_27 = (sF s211 109 32 z244).2.2.1 109 27 := sF_ne rfl (fr_F (s := (sI sc57 127 w57_109_32.toNatClampNeg y57_2)) (sI_F (v57_109_27)) hF211 rfl); first | (rw [← b0, ← e_109_27]; exact n248e) | (rw [← b0]; exact n248e)
              have n248g : (w57_109_23).toInt = 0 → 3 * (z244).toInt ≤ (w57_109_27).toInt := by have a0 := oa10 ro_109_22 ro_109_9 i202 i190 ((inv_F hIc57 0 1000 rfl v57_109_27)) i59 j57_3 j57_2 j57_1 i244; have a10 := t_add e244 i202 (in_c 1 rfl) rfl; have a11 := oa2 ((in_c 1 rfl)) i229; have a13 := t_add e225 ro_109_9 i202 rfl; have a14 := in_u i210; have a15 := (t_mulc 5 (Or.inl e210) i202 rfl).1; have oc := oc_304_109; omega
              have n248h : ((sF s211 109 32 z244).2.2.1 109 23).toInt = 0 → 3 * ((sF s211 109 32 z244).2.2.1 109 32).toInt ≤ ((sF s211 109 32 z244).2.2.1 109 27).toInt := by have b0 : w57_109_23 = (sF s211 109 32 z244).2.2.1 109 23 := sF_ne rfl (fr_F (s := (sI sc57 127 w57_109_32.toNatClampNeg y57_2)) (sI_F (v57_109_23)) hF211 rfl); have b1 : z244 = (sF s211 109 32 z244).2.2.1 109 32 := sF_get; have b2 : w57_109_27 = (sF s211 109 32 z244).2.2.1 109 27 := sF_ne rfl (fr_F (s := (sI sc57 127 w57_109_32.toNatClampNeg y57_2)) (sI_F (v57_109_27)) hF211 rfl); rw [← b0, ← b1, ← b2]; exact n248g
              have n248i : (w57_109_23).toInt = 0 → (u_109_27).toInt + 1 ≤ (w57_109_27).toInt := by have a0 := oa10 ro_109_22 ro_109_9 i202 i190 ((inv_F hIc57 0 1000 rfl v57_109_27)) i59 j57_3 j57_2 j57_1 i244; have a10 := t_add e244 i202 (in_c 1 rfl) rfl; have a11 := oa2 ((in_c 1 rfl)) i229; have a13 := t_add e225 ro_109_9 i202 rfl; have a14 := in_u i210; have a15 := (t_mulc 5 (Or.inl e210) i202 rfl).1; have oc := oc_304_109; omega
              have n248j : ((sF s211 109 32 z244).2.2.1 109 23).toInt = 0 → (s.2.2.1 109 27).toInt + 1 ≤ ((sF s211 109 32 z244).2.2.1 109 27).toInt := by have b0 : w57_109_23 = (sF s211 109 32 z244).2.2.1 109 23 := sF_ne rfl (fr_F (s := (sI sc57 127 w57_109_32.toNatClampNeg y57_2)) (sI_F (v57_109_23)) hF211 rfl); have b1 : w57_109_27 = (sF s211 109 32 z244).2.2.1 109 27 := sF_ne rfl (fr_F (s := (sI sc57 127 w57_109_32.toNatClampNeg y57_2)) (sI_F (v57_109_27)) hF211 rfl); first | (rw [← b0, ← b1, ← e_109_27]; exact n248i) | (rw [← b0, ← b1]; exact n248i)
              have n248k : (w57_109_23).toInt = 0 → (u_109_9).toInt + (z244).toInt ≤ 4000 := by have a0 := oa10 ro_109_22 ro_109_9 i202 i190 ((inv_F hIc57 0 1000 rfl v57_109_27)) i59 j57_3 j57_2 j57_1 i244; have a10 := t_add e244 i202 (in_c 1 rfl) rfl; have a11 := oa2 ((in_c 1 rfl)) i229; have a13 := t_add e225 ro_109_9 i202 rfl; have a14 := in_u i210; have a15 := (t_mulc 5 (Or.inl e210) i202 rfl).1; have oc := oc_304_109; omega
              have n248l : ((sF s211 109 32 z244).2.2.1 109 23).toInt = 0 → ((sF s211 109 32 z244).2.2.1 109 9).toInt + ((sF s211 109 32 z244).2.2.1 109 32).toInt ≤ 4000 := by have b0 : w57_109_23 = (sF s211 109 32 z244).2.2.1 109 23 := sF_ne rfl (fr_F (s := (sI sc57 127 w57_109_32.toNatClampNeg y57_2)) (sI_F (v57_109_23)) hF211 rfl); have b1 : u_109_9 = (sF s211 109 32 z244).2.2.1 109 9 := sF_ne rfl (fr_F (s := (sI sc57 127 w57_109_32.toNatClampNeg y57_2)) (sI_F (fr_F e_109_9 hFc57 rfl)) hF211 rfl); have b2 : z244 = (sF s211 109 32 z244).2.2.1 109 32 := sF_get; rw [← b0, ← b1, ← b2]; exact n248k
              exact g_return (gd rfl) rfl (hP _ _ ⟨(sF s211 109 32 z244), hI245, (fr_sF rfl (fr_tr rfl (fr_sI rfl hFc57) hF211)), n248d, n248f, n248h, n248j, n248l, rfl, rfl, n248, n248a, n248b⟩)
            · skip
              have i229 := r_le2 4000 4499 c229 (in_c 4000 rfl) i225 rfl
              refine g_aload_n 233 (gd rfl) rfl rfl ?_
              refine g_iconst 4 234 (gd rfl) rfl rfl ?_
              refine g_iload_n 235 (gd rfl) rfl rfl ?_
              have v235 : w57_109_23 = s211.2.2.1 109 23 := fr_F (s := (sI sc57 127 w57_109_32.toNatClampNeg y57_2)) (sI_F (v57_109_23)) hF211 rfl
              refine g_callv (X := _) (As := [.int (Int32.ofInt 4), .int y57_1]) (r := []) (b := A 109) (q := 109) 238 (gd rfl) rfl rfl rfl rfl rfl (ww_o rfl) (Nat.le_of_ble_eq_true rfl) (Nat.zero_le _) (Nat.zero_le _) (f_298 (by first | exact dq1 hd rfl | exact dq0 hd rfl | exact dq2 hd rfl | exact dq3 hd rfl | omega) hI211 (in_w 1 5 (in_c 4 rfl) rfl) v235) (fun e u h => h) (fun v u h => ?_)
              obtain ⟨s235, hI235, hF235, n235, rfl, rfl, p235⟩ := h
              obtain ⟨z235a, e235⟩ : ∃ w, w = s235.2.2.1 109 23 := ⟨_, rfl⟩
              have i235a := inv_F hI235 0 9 rfl e235
              rw [← (show z235a = s235.2.2.1 109 23 from e235)] at n235
              show GG _ _ _ _ _ _ _ _ [] _ _ _
              refine g_aload_n 239 (gd rfl) rfl rfl ?_
              refine g_dup 240 (gd rfl) rfl rfl ?_
              refine g_getI 243 (gd rfl) rfl rfl rfl (fun z240 e240 => ?_)
              have q240 : w57_109_32 = z240 := (fr_F (fr_F (s := (sI sc57 127 w57_109_32.toNatClampNeg y57_2)) (sI_F (v57_109_32)) hF211 rfl) hF235 rfl).trans e240.symm
              subst q240
              refine g_iconst 1 244 (gd rfl) rfl rfl ?_
              refine g_iadd 245 (gd rfl) rfl (fun z244 e244 => ?_)
              have i244 := in_add 1 500 e244 i202 (in_c 1 rfl) rfl rfl
              refine g_putI 248 (gd rfl) rfl rfl rfl rfl ?_
              have hI245 := inv_sF (q := 109) (j := 32) hI235 rfl (in_w 0 500 i244 rfl)
              have n248 : ((sF s235 109 32 z244).2.2.1 109 23).toInt = 0 → LDQ (sF s235 109 32 z244) ((sF s235 109 32 z244).2.2.1 109 32).toNatClampNeg := by (intro hf; exfalso; have hg : (s235.2.2.1 109 23).toInt = 0 := hf; rw [← e235] at hg; have hn := n235; omega)
              have n248a : RCM s (sF s235 109 32 z244) := by exact rcm_n g57_3 g57_4 g57_6 (by rw [← v57_109_23]; exact c190) c59 (hFc57.2.2.1 109 9 rfl) v57_109_32 (by show z210.toInt.toNat = 5 * w57_109_32.toInt.toNat; have r1 := i202; have a0 := oa10 ro_109_22 ro_109_9 i202 i190 ((inv_F hIc57 0 1000 rfl v57_109_27)) i59 j57_3 j57_2 j57_1 i244; have a10 := t_add e244 i202 (in_c 1 rfl) rfl; have a11 := oa3 ((in_c 1 rfl)) i235a i229; have a14 := t_add e225 ro_109_9 i202 rfl; have a15 := in_u i210; have a16 := (t_mulc 5 (Or.inl e210) i202 rfl).1; have oc := oc_304_109; omega) (Or.inr (by have q32 := congrArg Int32.toInt (show w57_109_32 = s.2.2.1 109 32 from v57_109_32.trans g57_4.2.2.2.2); rw [← e_109_9, ← q32]; have a0 := oa10 ro_109_22 ro_109_9 i202 i190 ((inv_F hIc57 0 1000 rfl v57_109_27)) i59 j57_3 j57_2 j57_1 i244; have a10 := t_add e244 i202 (in_c 1 rfl) rfl; have a11 := oa3 ((in_c 1 rfl)) i235a i229; have a14 := t_add e225 ro_109_9 i202 rfl; have a15 := in_u i210; have a16 := (t_mulc 5 (Or.inl e210) i202 rfl).1; have oc := oc_304_109; omega)) (p235.1 (by rw [← v235]; exact c190)).1 (p235.1 (by rw [← v235]; exact c190)).2 (by have a0 := oa10 ro_109_22 ro_109_9 i202 i190 ((inv_F hIc57 0 1000 rfl v57_109_27)) i59 j57_3 j57_2 j57_1 i244; have a10 := t_add e244 i202 (in_c 1 rfl) rfl; have a11 := oa3 ((in_c 1 rfl)) i235a i229; have a14 := t_add e225 ro_109_9 i202 rfl; have a15 := in_u i210; have a16 := (t_mulc 5 (Or.inl e210) i202 rfl).1; have oc := oc_304_109; omega)
              have n248b : G0S s (sF s235 109 32 z244) := by exact g0_tr (g0_tr (g0_cg (t := sI sc57 127 _ _) ((sI_p rfl).trans g57_4.1) ((sI_p rfl).trans g57_4.2.1)) p211b.1) (g0_cg (hF235.1 110 rfl) (hF235.1 112 rfl))
              have n248c : (w57_109_27).toInt ≤ (u_109_22).toInt := by first | exact n57_0 | (have a0 := oa10 ro_109_22 ro_109_9 i202 i190 ((inv_F hIc57 0 1000 rfl v57_109_27)) i59 j57_3 j57_2 j57_1 i244; have a10 := t_add e244 i202 (in_c 1 rfl) rfl; have a11 := oa3 ((in_c 1 rfl)) i235a i229; have a14 := t_add e225 ro_109_9 i202 rfl; have a15 := in_u i210; have a16 := (t_mulc 5 (Or.inl e210) i202 rfl).1; have oc := oc_304_109; omega)
              have n248d : ((sF s235 109 32 z244).2.2.1 109 27).toInt ≤ ((sF s235 109 32 z244).2.2.1 109 22).toInt := by have b0 : w57_109_27 = (sF s235 109 32 z244).2.2.1 109 27 := sF_ne rfl (fr_F (fr_F (s := (sI sc57 127 w57_109_32.toNatClampNeg y57_2)) (sI_F (v57_109_27)) hF211 rfl) hF235 rfl); have b1 : u_109_22 = (sF s235 109 32 z244).2.2.1 109 22 := sF_ne rfl (fr_F (fr_F (s := (sI sc57 127 w57_109_32.toNatClampNeg y57_2)) (sI_F (fr_F e_109_22 hFc57 rfl)) hF211 rfl) hF235 rfl); rw [← b0, ← b1]; exact n248c
              have n248e : (u_109_27).toInt ≤ (w57_109_27).toInt := by first | exact n57_1 | (have a0 := oa10 ro_109_22 ro_109_9 i202 i190 ((inv_F hIc57 0 1000 rfl v57_109_27)) i59 j57_3 j57_2 j57_1 i244; have a10 := t_add e244 i202 (in_c 1 rfl) rfl; have a11 := oa3 ((in_c 1 rfl)) i235a i229; have a14 := t_add e225 ro_109_9 i202 rfl; have a15 := in_u i210; have a16 := (t_mulc 5 (Or.inl e210) i202 rfl).1; have oc := oc_304_109; omega)
              have n248f : (s.2.2.1 109 27).toInt ≤ ((sF s235 109 32 z244).2.2.1 109 27).toInt := by have b0 : w57_109_27 = (sF s235 109 32 z244).2.2.1 109 27 := sF_ne rfl (fr_F (fr_F (s := (sI sc57 127 w57_109_32.toNatClampNeg y57_2)) (sI_F (v57_109_27)) hF211 rfl) hF235 rfl); first | (rw [← b0, ← e_109_27]; exact n248e) | (rw [← b0]; exact n248e)
              have n248g : (z235a).toInt = 0 → 3 * (z244).toInt ≤ (w57_109_27).toInt := by have a0 := oa10 ro_109_22 ro_109_9 i202 i190 ((inv_F hIc57 0 1000 rfl v57_109_27)) i59 j57_3 j57_2 j57_1 i244; have a10 := t_add e244 i202 (in_c 1 rfl) rfl; have a11 := oa3 ((in_c 1 rfl)) i235a i229; have a14 := t_add e225 ro_109_9 i202 rfl; have a15 := in_u i210; have a16 := (t_mulc 5 (Or.inl e210) i202 rfl).1; have oc := oc_304_109; omega
              have n248h : ((sF s235 109 32 z244).2.2.1 109 23).toInt = 0 → 3 * ((sF s235 109 32 z244).2.2.1 109 32).toInt ≤ ((sF s235 109 32 z244).2.2.1 109 27).toInt := by have b0 : z235a = (sF s235 109 32 z244).2.2.1 109 23 := sF_ne rfl (e235); have b1 : z244 = (sF s235 109 32 z244).2.2.1 109 32 := sF_get; have b2 : w57_109_27 = (sF s235 109 32 z244).2.2.1 109 27 := sF_ne rfl (fr_F (fr_F (s := (sI sc57 127 w57_109_32.toNatClampNeg y57_2)) (sI_F (v57_109_27)) hF211 rfl) hF235 rfl); rw [← b0, ← b1, ← b2]; exact n248g
              have n248i : (z235a).toInt = 0 → (u_109_27).toInt + 1 ≤ (w57_109_27).toInt := by have a0 := oa10 ro_109_22 ro_109_9 i202 i190 ((inv_F hIc57 0 1000 rfl v57_109_27)) i59 j57_3 j57_2 j57_1 i244; have a10 := t_add e244 i202 (in_c 1 rfl) rfl; have a11 := oa3 ((in_c 1 rfl)) i235a i229; have a14 := t_add e225 ro_109_9 i202 rfl; have a15 := in_u i210; have a16 := (t_mulc 5 (Or.inl e210) i202 rfl).1; have oc := oc_304_109; omega
              have n248j : ((sF s235 109 32 z244).2.2.1 109 23).toInt = 0 → (s.2.2.1 109 27).toInt + 1 ≤ ((sF s235 109 32 z244).2.2.1 109 27).toInt := by have b0 : z235a = (sF s235 109 32 z244).2.2.1 109 23 := sF_ne rfl (e235); have b1 : w57_109_27 = (sF s235 109 32 z244).2.2.1 109 27 := sF_ne rfl (fr_F (fr_F (s := (sI sc57 127 w57_109_32.toNatClampNeg y57_2)) (sI_F (v57_109_27)) hF211 rfl) hF235 rfl); first | (rw [← b0, ← b1, ← e_109_27]; exact n248i) | (rw [← b0, ← b1]; exact n248i)
              have n248k : (z235a).toInt = 0 → (u_109_9).toInt + (z244).toInt ≤ 4000 := by have a0 := oa10 ro_109_22 ro_109_9 i202 i190 ((inv_F hIc57 0 1000 rfl v57_109_27)) i59 j57_3 j57_2 j57_1 i244; have a10 := t_add e244 i202 (in_c 1 rfl) rfl; have a11 := oa3 ((in_c 1 rfl)) i235a i229; have a14 := t_add e225 ro_109_9 i202 rfl; have a15 := in_u i210; have a16 := (t_mulc 5 (Or.inl e210) i202 rfl).1; have oc := oc_304_109; omega
              have n248l : ((sF s235 109 32 z244).2.2.1 109 23).toInt = 0 → ((sF s235 109 32 z244).2.2.1 109 9).toInt + ((sF s235 109 32 z244).2.2.1 109 32).toInt ≤ 4000 := by have b0 : z235a = (sF s235 109 32 z244).2.2.1 109 23 := sF_ne rfl (e235); have b1 : u_109_9 = (sF s235 109 32 z244).2.2.1 109 9 := sF_ne rfl (fr_F (fr_F (s := (sI sc57 127 w57_109_32.toNatClampNeg y57_2)) (sI_F (fr_F e_109_9 hFc57 rfl)) hF211 rfl) hF235 rfl); have b2 : z244 = (sF s235 109 32 z244).2.2.1 109 32 := sF_get; rw [← b0, ← b1, ← b2]; exact n248k
              exact g_return (gd rfl) rfl (hP _ _ ⟨(sF s235 109 32 z244), hI245, (fr_sF rfl (fr_tr rfl (fr_tr rfl (fr_sI rfl hFc57) hF211) hF235)), n248d, n248f, n248h, n248j, n248l, rfl, rfl, n248, n248a, n248b⟩)
      · skip
        have i59 := z_ne 1 1 c59 j57_4 rfl
        refine g_aload_n 63 (gd rfl) rfl rfl ?_
        refine g_getI 66 (gd rfl) rfl rfl rfl (fun z63 e63 => ?_)
        have q63 : w57_109_23 = z63 := (v57_109_23).trans e63.symm
        subst q63
        refine g_if_ne 69 186 (gd rfl) rfl rfl (fun c66 => ?_) (fun c66 => ?_)
        · skip
          have i66 := z_ne 1 9 c66 (inv_F hIc57 0 9 rfl v57_109_23) rfl
          refine g_aload_n 187 (gd rfl) rfl rfl ?_
          refine g_getI 190 (gd rfl) rfl rfl rfl (fun z187 e187 => ?_)
          have q187 : w57_109_23 = z187 := (v57_109_23).trans e187.symm
          subst q187
          refine g_if_ne 193 248 (gd rfl) rfl rfl (fun c190 => ?_) (fun c190 => ?_)
          · skip
            have n248 : (sc57.2.2.1 109 23).toInt = 0 → LDQ sc57 (sc57.2.2.1 109 32).toNatClampNeg := by (intro hf; exfalso; rw [← v57_109_23] at hf; exact absurd hf c190)
            have n248a : RCM s sc57 := by exact rcm_x g57_3.2.2.1 (c97 g57_3.2.1) g57_7 (by rw [← v57_109_23]; exact c190)
            have n248b : G0S s sc57 := by exact g0_cg g57_4.1 g57_4.2.1
            have n248c : (w57_109_27).toInt ≤ (u_109_22).toInt := by first | exact n57_0 | (have a0 := oa9 ro_109_22 ro_109_9 ((inv_F hIc57 0 500 rfl v57_109_32)) i66 ((inv_F hIc57 0 1000 rfl v57_109_27)) i59 j57_3 j57_2 j57_1; have oc := oc_304_109; omega)
            have n248d : (sc57.2.2.1 109 27).toInt ≤ (sc57.2.2.1 109 22).toInt := by have b0 : w57_109_27 = sc57.2.2.1 109 27 := v57_109_27; have b1 : u_109_22 = sc57.2.2.1 109 22 := fr_F e_109_22 hFc57 rfl; rw [← b0, ← b1]; exact n248c
            have n248e : (u_109_27).toInt ≤ (w57_109_27).toInt := by first | exact n57_1 | (have a0 := oa9 ro_109_22 ro_109_9 ((inv_F hIc57 0 500 rfl v57_109_32)) i66 ((inv_F hIc57 0 1000 rfl v57_109_27)) i59 j57_3 j57_2 j57_1; have oc := oc_304_109; omega)
            have n248f : (s.2.2.1 109 27).toInt ≤ (sc57.2.2.1 109 27).toInt := by have b0 : w57_109_27 = sc57.2.2.1 109 27 := v57_109_27; first | (rw [← b0, ← e_109_27]; exact n248e) | (rw [← b0]; exact n248e)
            have n248g : (w57_109_23).toInt = 0 → 3 * (w57_109_32).toInt ≤ (w57_109_27).toInt := by have a0 := oa9 ro_109_22 ro_109_9 ((inv_F hIc57 0 500 rfl v57_109_32)) i66 ((inv_F hIc57 0 1000 rfl v57_109_27)) i59 j57_3 j57_2 j57_1; have oc := oc_304_109; omega
            have n248h : (sc57.2.2.1 109 23).toInt = 0 → 3 * (sc57.2.2.1 109 32).toInt ≤ (sc57.2.2.1 109 27).toInt := by have b0 : w57_109_23 = sc57.2.2.1 109 23 := v57_109_23; have b1 : w57_109_32 = sc57.2.2.1 109 32 := v57_109_32; have b2 : w57_109_27 = sc57.2.2.1 109 27 := v57_109_27; rw [← b0, ← b1, ← b2]; exact n248g
            have n248i : (w57_109_23).toInt = 0 → (u_109_27).toInt + 1 ≤ (w57_109_27).toInt := by have a0 := oa9 ro_109_22 ro_109_9 ((inv_F hIc57 0 500 rfl v57_109_32)) i66 ((inv_F hIc57 0 1000 rfl v57_109_27)) i59 j57_3 j57_2 j57_1; have oc := oc_304_109; omega
            have n248j : (sc57.2.2.1 109 23).toInt = 0 → (s.2.2.1 109 27).toInt + 1 ≤ (sc57.2.2.1 109 27).toInt := by have b0 : w57_109_23 = sc57.2.2.1 109 23 := v57_109_23; have b1 : w57_109_27 = sc57.2.2.1 109 27 := v57_109_27; first | (rw [← b0, ← b1, ← e_109_27]; exact n248i) | (rw [← b0, ← b1]; exact n248i)
            have n248k : (w57_109_23).toInt = 0 → (u_109_9).toInt + (w57_109_32).toInt ≤ 4000 := by have a0 := oa9 ro_109_22 ro_109_9 ((inv_F hIc57 0 500 rfl v57_109_32)) i66 ((inv_F hIc57 0 1000 rfl v57_109_27)) i59 j57_3 j57_2 j57_1; have oc := oc_304_109; omega
            have n248l : (sc57.2.2.1 109 23).toInt = 0 → (sc57.2.2.1 109 9).toInt + (sc57.2.2.1 109 32).toInt ≤ 4000 := by have b0 : w57_109_23 = sc57.2.2.1 109 23 := v57_109_23; have b1 : u_109_9 = sc57.2.2.1 109 9 := fr_F e_109_9 hFc57 rfl; have b2 : w57_109_32 = sc57.2.2.1 109 32 := v57_109_32; rw [← b0, ← b1, ← b2]; exact n248k
            exact g_return (gd rfl) rfl (hP _ _ ⟨sc57, hIc57, hFc57, n248d, n248f, n248h, n248j, n248l, rfl, rfl, n248, n248a, n248b⟩)
          · skip
            exact zn_eq c190 i66 rfl
        · skip
          have i66 := z_eq 0 0 c66 (inv_F hIc57 0 9 rfl v57_109_23) rfl
          refine g_aload_n 70 (gd rfl) rfl rfl ?_
          have v70 : u_109_22 = sc57.2.2.1 109 22 := fr_F e_109_22 hFc57 rfl
          have n70 : (w57_109_27).toInt ≤ (u_109_22).toInt := by first | exact n57_0 | (have a0 := oa9 ro_109_22 ro_109_9 ((inv_F hIc57 0 500 rfl v57_109_32)) i66 ((inv_F hIc57 0 1000 rfl v57_109_27)) i59 j57_3 j57_2 j57_1; have oc := oc_304_109; omega)
          refine g_callv (X := _) (As := []) (r := []) (b := A 109) (q := 109) 73 (gd rfl) rfl rfl rfl rfl rfl (ww_o rfl) (Nat.le_of_ble_eq_true rfl) (Nat.zero_le _) (Nat.zero_le _) (f_299 (by first | exact dq1 hd rfl | exact dq0 hd rfl | exact dq2 hd rfl | exact dq3 hd rfl | omega) hIc57 v57_109_27 v70 n70) (fun e u h => h) (fun v u h => ?_)
          obtain ⟨s70, hI70, hF70, n70a, n70b, n70c, n70d, n70e, rfl, rfl, p70⟩ := h
          obtain ⟨z70a, e70⟩ : ∃ w, w = s70.2.2.1 109 27 := ⟨_, rfl⟩
          have i70a := inv_F hI70 0 1000 rfl e70
          obtain ⟨z70b, e70a⟩ : ∃ w, w = s70.2.2.1 109 28 := ⟨_, rfl⟩
          obtain ⟨z70c, e70b⟩ : ∃ w, w = s70.2.2.1 109 30 := ⟨_, rfl⟩
          rw [← (show z70a = s70.2.2.1 109 27 from e70)] at n70a
          rw [← (show u_109_22 = s70.2.2.1 109 22 from fr_F (fr_F e_109_22 hFc57 rfl) hF70 rfl)] at n70a
          rw [← (show w57_109_27 = sc57.2.2.1 109 27 from v57_109_27)] at n70b
          rw [← (show z70a = s70.2.2.1 109 27 from e70)] at n70b
          rw [← (show w57_109_27 = sc57.2.2.1 109 27 from v57_109_27)] at n70c
          rw [← (show z70a = s70.2.2.1 109 27 from e70)] at n70c
          rw [← (show z70b = s70.2.2.1 109 28 from e70a)] at n70c
          rw [← (show z70b = s70.2.2.1 109 28 from e70a)] at n70d
          rw [← (show z70c = s70.2.2.1 109 30 from e70b)] at n70d
          rw [← (show z70b = s70.2.2.1 109 28 from e70a)] at n70e
          rw [← (show z70c = s70.2.2.1 109 30 from e70b)] at n70e
          show GG _ _ _ _ _ _ _ _ [] _ _ _
          refine g_aload_n 74 (gd rfl) rfl rfl ?_
          refine g_iload_n 75 (gd rfl) rfl rfl ?_
          refine g_iload_n 76 (gd rfl) rfl rfl ?_
          refine g_callv (X := _) (As := [.int y57_2, .int y57_3]) (r := []) (b := A 109) (q := 109) 79 (gd rfl) rfl rfl rfl rfl rfl (ww_o rfl) (Nat.le_of_ble_eq_true rfl) (Nat.zero_le _) (Nat.zero_le _) (f_301 (by first | exact dq1 hd rfl | exact dq0 hd rfl | exact dq2 hd rfl | exact dq3 hd rfl | omega) hI70 (in_w 97 119 j57_2 rfl) (in_w 0 5 j57_3 rfl)) (fun e u h => h) (fun v u h => ?_)
          obtain ⟨z76, rfl, rfl, i76, p76, p76a⟩ := h
          show GG _ _ _ _ _ _ _ _ [.int z76] _ _ _
          have hp76 := p76; unfold SHP at hp76
          refine g_istore 81 (gd rfl) rfl (Nat.le_of_ble_eq_true rfl) ?_
          refine g_aload_n 82 (gd rfl) rfl rfl ?_
          refine g_getI 85 (gd rfl) rfl rfl rfl (fun z82 e82 => ?_)
          have i82 := inv_F hI70 0 9 rfl e82
          refine g_if_ne 88 121 (gd rfl) rfl rfl (fun c85 => ?_) (fun c85 => ?_)
          · skip
            have i85 := z_ne 1 9 c85 i82 rfl
            refine g_iload 123 (gd rfl) rfl rfl ?_
            refine g_iconst 3 124 (gd rfl) rfl rfl ?_
            refine g_cmp_eq 127 131 (gd rfl) rfl rfl (fun c124 => ?_) (fun c124 => ?_)
            · skip
              have i124 := r_eq1 3 3 c124 i76 (in_c 3 rfl) rfl
              refine g_iconst 0 132 (gd rfl) rfl rfl ?_
              refine g_istore 134 (gd rfl) rfl (Nat.le_of_ble_eq_true rfl) ?_
              refine g_aload_n 135 (gd rfl) rfl rfl ?_
              refine g_getI 138 (gd rfl) rfl rfl rfl (fun z135 e135 => ?_)
              have q135 : z82 = z135 := (e82).trans e135.symm
              subst q135
              refine g_if_ne 141 183 (gd rfl) rfl rfl (fun c138 => ?_) (fun c138 => ?_)
              · skip
                refine g_goto 57 (gd rfl) rfl ?_
                have v57 : w57_109_32 = s70.2.2.1 109 32 := fr_F (v57_109_32) hF70 rfl
                have n57 : (z70a).toInt ≤ (u_109_22).toInt := by have a0 := oa13 ro_109_22 ro_109_9 ((inv_F hIc57 0 500 rfl v57_109_32)) i66 ((inv_F hIc57 0 1000 rfl v57_109_27)) i59 j57_3 j57_2 j57_1 i124 ((in_c 0 rfl)) i85 i70a; have oc := oc_304_109; omega
                have n57a : (u_109_27).toInt ≤ (z70a).toInt := by have a0 := oa13 ro_109_22 ro_109_9 ((inv_F hIc57 0 500 rfl v57_109_32)) i66 ((inv_F hIc57 0 1000 rfl v57_109_27)) i59 j57_3 j57_2 j57_1 i124 ((in_c 0 rfl)) i85 i70a; have oc := oc_304_109; omega
                have n57b : 3 * (w57_109_32).toInt + 1 + (y57_3).toInt ≤ (z70a).toInt := by have a0 := oa13 ro_109_22 ro_109_9 ((inv_F hIc57 0 500 rfl v57_109_32)) i66 ((inv_F hIc57 0 1000 rfl v57_109_27)) i59 j57_3 j57_2 j57_1 i124 ((in_c 0 rfl)) i85 i70a; have oc := oc_304_109; omega
                have n57c : ((Int32.ofInt 0)).toInt = 0 → (z82).toInt = 0 → 3 * (w57_109_32).toInt + 3 ≤ (z70a).toInt := by first | exact fun _ h => absurd h (Int.ne_of_gt (in_u i85).1) | (have a0 := oa13 ro_109_22 ro_109_9 ((inv_F hIc57 0 500 rfl v57_109_32)) i66 ((inv_F hIc57 0 1000 rfl v57_109_27)) i59 j57_3 j57_2 j57_1 i124 ((in_c 0 rfl)) i85 i70a; have oc := oc_304_109; omega)
                have n57d : ((Int32.ofInt 0)).toInt ≠ 0 → 0 ≤ (y57_3).toInt := by exact fun h => absurd rfl h
                have n57e : (u_109_27).toInt + (y57_3).toInt ≤ (z70a).toInt := by have a0 := oa13 ro_109_22 ro_109_9 ((inv_F hIc57 0 500 rfl v57_109_32)) i66 ((inv_F hIc57 0 1000 rfl v57_109_27)) i59 j57_3 j57_2 j57_1 i124 ((in_c 0 rfl)) i85 i70a; have oc := oc_304_109; omega
                have n57f : ((Int32.ofInt 0)).toInt = 0 → (z82).toInt = 0 → (u_109_27).toInt + 1 ≤ (z70a).toInt := by first | exact fun _ h => absurd h (Int.ne_of_gt (in_u i85).1) | (have a0 := oa13 ro_109_22 ro_109_9 ((inv_F hIc57 0 500 rfl v57_109_32)) i66 ((inv_F hIc57 0 1000 rfl v57_109_27)) i59 j57_3 j57_2 j57_1 i124 ((in_c 0 rfl)) i85 i70a; have oc := oc_304_109; omega)
                have n57g : (s70.2.2.1 109 23).toInt = 0 → LDQ s70 (s70.2.2.1 109 32).toNatClampNeg := by (intro _; rw [show (s70).2.2.1 109 32 = sc57.2.2.1 109 32 from hF70.2.2.1 109 32 rfl]; exact ldq_cg (g57_0 (by rw [← v57_109_23]; exact c66)) (hF70.1 110 rfl) (hF70.1 112 rfl) (fun j _ => by rw [hF70.1 127 rfl]) (fun j _ => by rw [hF70.1 128 rfl]))
                have n57h : (s70.2.2.1 109 23).toInt = 0 → ((y57_2).toInt = 110 → 1 ≤ (y57_3).toInt → nq (s70.1 128 (5 * (s70.2.2.1 109 32).toNatClampNeg)) 0 25) ∧ ((y57_2).toInt = 97 → 5 ≤ (y57_3).toInt → nq (s70.1 128 (5 * (s70.2.2.1 109 32).toNatClampNeg + 4)) 0 25) := by (intro _; have hl := g57_1 (by rw [← v57_109_23]; exact c66); rw [show (s70).2.2.1 109 32 = sc57.2.2.1 109 32 from hF70.2.2.1 109 32 rfl, hF70.1 128 rfl]; exact hl)
                have n57i : ((Int32.ofInt 0)).toInt = 0 → (s70.2.2.1 109 23).toInt = 0 → ((y57_2).toInt = 110 → 1 ≤ (y57_3).toInt) ∧ ((y57_2).toInt = 97 → 5 ≤ (y57_3).toInt) := by first | (exact fun hm => absurd hm (by decide)) | (intro hm _; have hp := p76; unfold SHP at hp; have h3 := c124; have h13 : (Int32.ofInt 3).toInt = 3 := rfl; have h11 : (Int32.ofInt 1).toInt = 1 := rfl; have r3 := j57_3; unfold In at r3; exact ⟨fun a1 => (by have q := hp.1 a1; omega), fun a1 => (by have q := hp.2.1 a1; omega)⟩)
                have n57j : C4 (y57_2).toInt ∧ (y57_2) = s.2.2.1 109 30 ∧ (s.2.2.1 109 28).toInt = 1 ∧ (y57_1) = s.2.2.1 109 29 := by exact g57_3
                have n57k : s70.1 110 = s.1 110 ∧ s70.1 112 = s.1 112 ∧ s70.1 127 = s.1 127 ∧ (∀ j, j < 5 * (s.2.2.1 109 32).toNatClampNeg → s70.1 128 j = s.1 128 j) ∧ s70.2.2.1 109 32 = s.2.2.1 109 32 := by exact ⟨(hF70.1 110 rfl).trans g57_4.1, (hF70.1 112 rfl).trans g57_4.2.1, (hF70.1 127 rfl).trans g57_4.2.2.1, fun j hj => by rw [hF70.1 128 rfl]; exact g57_4.2.2.2.1 j hj, (hF70.2.2.1 109 32 rfl).trans g57_4.2.2.2.2⟩
                have n57l : HQ5 s s70 ((y57_2).toInt - 97) (y57_3) ((Int32.ofInt 0)) (z70a).toInt.toNat := by first | (intro _ h; exact absurd rfl h) | (intro hf; exfalso; rw [← e82] at hf; exact c85 hf)
                have n57m : HQ6 s s70 ((y57_2).toInt - 97) ((Int32.ofInt 0)) (z70a).toInt.toNat := by first | (intro _ h; exact absurd h (by decide)) | (intro hf; exfalso; rw [← e82] at hf; exact c85 hf) | ((try clear hp76); obtain ⟨k, v, ht, hn⟩ := p70; rw [show sc57.1 125 = s.1 125 from hFc57.1 125 rfl, show sc57.2.2.1 109 22 = s.2.2.1 109 22 from hFc57.2.2.1 109 22 rfl, ← v57_109_27] at ht; have hv := (ntk_f hn (by rw [← v57_109_23]; exact c66)).2 (by rw [← e82]; exact c85); have htk := ntv_t hv (tkn_e ht).2.2.2.2.1 (tkn_e ht).2.2.2.2.2; rw [← e70a] at htk; have hkz : k = z76.toInt := htk.symm.trans c94; rw [(show z70a = s70.2.2.1 109 27 from e70)]; exact hq6_e (by rw [← v57_109_23]; exact c66) c59 g57_5 g57_3.1 ht p76a hkz (in_at i100) j57_3.1 (hF70.1 128 rfl))
                have n57n : HQ7 s s70 ((y57_2).toInt - 97) := by first | ((try clear hp76); obtain ⟨k, v, ht, hn⟩ := p70; rw [show sc57.1 125 = s.1 125 from hFc57.1 125 rfl, show sc57.2.2.1 109 22 = s.2.2.1 109 22 from hFc57.2.2.1 109 22 rfl, ← v57_109_27] at ht; exact hq7_t hI70 (by rw [← v57_109_23]; exact c66) c59 g57_5 g57_3.1 j57_3.1 ht hn) | (intro hf; exfalso; exact hf (by rw [← e82]; exact c85))
                have m57 : 100 - 10 * (y57_3).toInt + 5 * ((Int32.ofInt 0)).toInt + 9 - (z82).toInt < ((k57 : Nat) : Int) := by have a0 := oa13 ro_109_22 ro_109_9 ((inv_F hIc57 0 500 rfl v57_109_32)) i66 ((inv_F hIc57 0 1000 rfl v57_109_27)) i59 j57_3 j57_2 j57_1 i124 ((in_c 0 rfl)) i85 i70a; have oc := oc_304_109; omega
                exact gg_w (by first | exact Nat.le_add_right _ _ | exact gw2 | exact gw3 | exact gwe rfl | exact gwf rfl | exact gwg rfl | exact gwh rfl | omega) (gg_f (gf_cons rfl (gf_cons rfl (gf_cons rfl (gf_cons rfl (gf_cons rfl gf_nil))))) (ih57  s70 y57_1 y57_2 y57_3 (Int32.ofInt 0) z70a z82 w57_109_32 hI70 (fr_tr rfl hFc57 hF70) (in_w 0 1000 j57_1 rfl) (in_w 97 119 j57_2 rfl) (in_w 0 5 j57_3 rfl) (in_w 0 1 (in_c 0 rfl) rfl) e70 e82 v57 n57 n57a n57b n57c n57d n57e n57f n57g n57h n57i n57j n57k n57l n57m n57n m57))
              · skip
                exact zn_eq c138 i85 rfl
            · skip
              have i124 := r_ne1 1 2 c124 i76 (in_c 3 rfl) rfl
              refine g_iconst 1 128 (gd rfl) rfl rfl ?_
              refine g_goto 132 (gd rfl) rfl ?_
              refine g_istore 134 (gd rfl) rfl (Nat.le_of_ble_eq_true rfl) ?_
              refine g_aload_n 135 (gd rfl) rfl rfl ?_
              refine g_getI 138 (gd rfl) rfl rfl rfl (fun z135 e135 => ?_)
              have q135 : z82 = z135 := (e82).trans e135.symm
              subst q135
              refine g_if_ne 141 183 (gd rfl) rfl rfl (fun c138 => ?_) (fun c138 => ?_)
              · skip
                refine g_goto 57 (gd rfl) rfl ?_
                have v57 : w57_109_32 = s70.2.2.1 109 32 := fr_F (v57_109_32) hF70 rfl
                have n57 : (z70a).toInt ≤ (u_109_22).toInt := by have a0 := oa13 ro_109_22 ro_109_9 ((inv_F hIc57 0 500 rfl v57_109_32)) i66 ((inv_F hIc57 0 1000 rfl v57_109_27)) i59 j57_3 j57_2 j57_1 i124 ((in_c 1 rfl)) i85 i70a; have oc := oc_304_109; omega
                have n57a : (u_109_27).toInt ≤ (z70a).toInt := by have a0 := oa13 ro_109_22 ro_109_9 ((inv_F hIc57 0 500 rfl v57_109_32)) i66 ((inv_F hIc57 0 1000 rfl v57_109_27)) i59 j57_3 j57_2 j57_1 i124 ((in_c 1 rfl)) i85 i70a; have oc := oc_304_109; omega
                have n57b : 3 * (w57_109_32).toInt + 1 + (y57_3).toInt ≤ (z70a).toInt := by have a0 := oa13 ro_109_22 ro_109_9 ((inv_F hIc57 0 500 rfl v57_109_32)) i66 ((inv_F hIc57 0 1000 rfl v57_109_27)) i59 j57_3 j57_2 j57_1 i124 ((in_c 1 rfl)) i85 i70a; have oc := oc_304_109; omega
                have n57c : ((Int32.ofInt 1)).toInt = 0 → (z82).toInt = 0 → 3 * (w57_109_32).toInt + 3 ≤ (z70a).toInt := by exact fun h => absurd h (by decide)
                have n57d : ((Int32.ofInt 1)).toInt ≠ 0 → 0 ≤ (y57_3).toInt := by have a0 := oa13 ro_109_22 ro_109_9 ((inv_F hIc57 0 500 rfl v57_109_32)) i66 ((inv_F hIc57 0 1000 rfl v57_109_27)) i59 j57_3 j57_2 j57_1 i124 ((in_c 1 rfl)) i85 i70a; have oc := oc_304_109; omega
                have n57e : (u_109_27).toInt + (y57_3).toInt ≤ (z70a).toInt := by have a0 := oa13 ro_109_22 ro_109_9 ((inv_F hIc57 0 500 rfl v57_109_32)) i66 ((inv_F hIc57 0 1000 rfl v57_109_27)) i59 j57_3 j57_2 j57_1 i124 ((in_c 1 rfl)) i85 i70a; have oc := oc_304_109; omega
                have n57f : ((Int32.ofInt 1)).toInt = 0 → (z82).toInt = 0 → (u_109_27).toInt + 1 ≤ (z70a).toInt := by exact fun h => absurd h (by decide)
                have n57g : (s70.2.2.1 109 23).toInt = 0 → LDQ s70 (s70.2.2.1 109 32).toNatClampNeg := by (intro _; rw [show (s70).2.2.1 109 32 = sc57.2.2.1 109 32 from hF70.2.2.1 109 32 rfl]; exact ldq_cg (g57_0 (by rw [← v57_109_23]; exact c66)) (hF70.1 110 rfl) (hF70.1 112 rfl) (fun j _ => by rw [hF70.1 127 rfl]) (fun j _ => by rw [hF70.1 128 rfl]))
                have n57h : (s70.2.2.1 109 23).toInt = 0 → ((y57_2).toInt = 110 → 1 ≤ (y57_3).toInt → nq (s70.1 128 (5 * (s70.2.2.1 109 32).toNatClampNeg)) 0 25) ∧ ((y57_2).toInt = 97 → 5 ≤ (y57_3).toInt → nq (s70.1 128 (5 * (s70.2.2.1 109 32).toNatClampNeg + 4)) 0 25) := by (intro _; have hl := g57_1 (by rw [← v57_109_23]; exact c66); rw [show (s70).2.2.1 109 32 = sc57.2.2.1 109 32 from hF70.2.2.1 109 32 rfl, hF70.1 128 rfl]; exact hl)
                have n57i : ((Int32.ofInt 1)).toInt = 0 → (s70.2.2.1 109 23).toInt = 0 → ((y57_2).toInt = 110 → 1 ≤ (y57_3).toInt) ∧ ((y57_2).toInt = 97 → 5 ≤ (y57_3).toInt) := by exact fun h => absurd h (by decide)
                have n57j : C4 (y57_2).toInt ∧ (y57_2) = s.2.2.1 109 30 ∧ (s.2.2.1 109 28).toInt = 1 ∧ (y57_1) = s.2.2.1 109 29 := by exact g57_3
                have n57k : s70.1 110 = s.1 110 ∧ s70.1 112 = s.1 112 ∧ s70.1 127 = s.1 127 ∧ (∀ j, j < 5 * (s.2.2.1 109 32).toNatClampNeg → s70.1 128 j = s.1 128 j) ∧ s70.2.2.1 109 32 = s.2.2.1 109 32 := by exact ⟨(hF70.1 110 rfl).trans g57_4.1, (hF70.1 112 rfl).trans g57_4.2.1, (hF70.1 127 rfl).trans g57_4.2.2.1, fun j hj => by rw [hF70.1 128 rfl]; exact g57_4.2.2.2.1 j hj, (hF70.2.2.1 109 32 rfl).trans g57_4.2.2.2.2⟩
                have n57l : HQ5 s s70 ((y57_2).toInt - 97) (y57_3) ((Int32.ofInt 1)) (z70a).toInt.toNat := by first | (intro _ h; exact absurd rfl h) | (intro hf; exfalso; rw [← e82] at hf; exact c85 hf)
                have n57m : HQ6 s s70 ((y57_2).toInt - 97) ((Int32.ofInt 1)) (z70a).toInt.toNat := by first | (intro _ h; exact absurd h (by decide)) | (intro hf; exfalso; rw [← e82] at hf; exact c85 hf) | ((try clear hp76); obtain ⟨k, v, ht, hn⟩ := p70; rw [show sc57.1 125 = s.1 125 from hFc57.1 125 rfl, show sc57.2.2.1 109 22 = s.2.2.1 109 22 from hFc57.2.2.1 109 22 rfl, ← v57_109_27] at ht; have hv := (ntk_f hn (by rw [← v57_109_23]; exact c66)).2 (by rw [← e82]; exact c85); have htk := ntv_t hv (tkn_e ht).2.2.2.2.1 (tkn_e ht).2.2.2.2.2; rw [← e70a] at htk; have hkz : k = z76.toInt := htk.symm.trans c94; rw [(show z70a = s70.2.2.1 109 27 from e70)]; exact hq6_e (by rw [← v57_109_23]; exact c66) c59 g57_5 g57_3.1 ht p76a hkz (in_at i100) j57_3.1 (hF70.1 128 rfl))
                have n57n : HQ7 s s70 ((y57_2).toInt - 97) := by first | ((try clear hp76); obtain ⟨k, v, ht, hn⟩ := p70; rw [show sc57.1 125 = s.1 125 from hFc57.1 125 rfl, show sc57.2.2.1 109 22 = s.2.2.1 109 22 from hFc57.2.2.1 109 22 rfl, ← v57_109_27] at ht; exact hq7_t hI70 (by rw [← v57_109_23]; exact c66) c59 g57_5 g57_3.1 j57_3.1 ht hn) | (intro hf; exfalso; exact hf (by rw [← e82]; exact c85))
                have m57 : 100 - 10 * (y57_3).toInt + 5 * ((Int32.ofInt 1)).toInt + 9 - (z82).toInt < ((k57 : Nat) : Int) := by have a0 := oa13 ro_109_22 ro_109_9 ((inv_F hIc57 0 500 rfl v57_109_32)) i66 ((inv_F hIc57 0 1000 rfl v57_109_27)) i59 j57_3 j57_2 j57_1 i124 ((in_c 1 rfl)) i85 i70a; have oc := oc_304_109; omega
                exact gg_w (by first | exact Nat.le_add_right _ _ | exact gw2 | exact gw3 | exact gwe rfl | exact gwf rfl | exact gwg rfl | exact gwh rfl | omega) (gg_f (gf_cons rfl (gf_cons rfl (gf_cons rfl (gf_cons rfl (gf_cons rfl gf_nil))))) (ih57  s70 y57_1 y57_2 y57_3 (Int32.ofInt 1) z70a z82 w57_109_32 hI70 (fr_tr rfl hFc57 hF70) (in_w 0 1000 j57_1 rfl) (in_w 97 119 j57_2 rfl) (in_w 0 5 j57_3 rfl) (in_w 0 1 (in_c 1 rfl) rfl) e70 e82 v57 n57 n57a n57b n57c n57d n57e n57f n57g n57h n57i n57j n57k n57l n57m n57n m57))
              · skip
                exact zn_eq c138 i85 rfl
          · skip
            have i85 := z_eq 0 0 c85 i82 rfl
            refine g_aload_n 89 (gd rfl) rfl rfl ?_
            refine g_getI 92 (gd rfl) rfl rfl rfl (fun z89 e89 => ?_)
            have q89 : z70b = z89 := (e70a).trans e89.symm
            subst q89
            refine g_iload 94 (gd rfl) rfl rfl ?_
            refine g_cmp_ne 97 112 (gd rfl) rfl rfl (fun c94 => ?_) (fun c94 => ?_)
            · skip
              refine g_aload_n 113 (gd rfl) rfl rfl ?_
              refine g_iconst 2 114 (gd rfl) rfl rfl ?_
              refine g_aload_n 115 (gd rfl) rfl rfl ?_
              refine g_getI 118 (gd rfl) rfl rfl rfl (fun z115 e115 => ?_)
              have i115 := inv_F hI70 0 1000 rfl e115
              refine g_callv (X := _) (As := [.int (Int32.ofInt 2), .int z115]) (r := []) (b := A 109) (q := 109) 121 (gd rfl) rfl rfl rfl rfl rfl (ww_o rfl) (Nat.le_of_ble_eq_true rfl) (Nat.zero_le _) (Nat.zero_le _) (f_298 (by first | exact dq1 hd rfl | exact dq0 hd rfl | exact dq2 hd rfl | exact dq3 hd rfl | omega) hI70 (in_w 1 5 (in_c 2 rfl) rfl) e82) (fun e u h => h) (fun v u h => ?_)
              obtain ⟨s118, hI118, hF118, n118, rfl, rfl, p118⟩ := h
              obtain ⟨z118a, e118⟩ : ∃ w, w = s118.2.2.1 109 23 := ⟨_, rfl⟩
              have i118a := inv_F hI118 0 9 rfl e118
              rw [← (show z118a = s118.2.2.1 109 23 from e118)] at n118
              show GG _ _ _ _ _ _ _ _ [] _ _ _
              refine g_iload 123 (gd rfl) rfl rfl ?_
              refine g_iconst 3 124 (gd rfl) rfl rfl ?_
              refine g_cmp_eq 127 131 (gd rfl) rfl rfl (fun c124 => ?_) (fun c124 => ?_)
              · skip
                have i124 := r_eq1 3 3 c124 i76 (in_c 3 rfl) rfl
                refine g_iconst 0 132 (gd rfl) rfl rfl ?_
                refine g_istore 134 (gd rfl) rfl (Nat.le_of_ble_eq_true rfl) ?_
                refine g_aload_n 135 (gd rfl) rfl rfl ?_
                refine g_getI 138 (gd rfl) rfl rfl rfl (fun z135 e135 => ?_)
                have q135 : z118a = z135 := (e118).trans e135.symm
                subst q135
                refine g_if_ne 141 183 (gd rfl) rfl rfl (fun c138 => ?_) (fun c138 => ?_)
                · skip
                  have i138 := z_ne 1 9 c138 i118a rfl
                  refine g_goto 57 (gd rfl) rfl ?_
                  have v57 : z70a = s118.2.2.1 109 27 := fr_F (e70) hF118 rfl
                  have v57a : w57_109_32 = s118.2.2.1 109 32 := fr_F (fr_F (v57_109_32) hF70 rfl) hF118 rfl
                  have n57 : (z70a).toInt ≤ (u_109_22).toInt := by have a0 := oa14 ro_109_22 ro_109_9 ((inv_F hIc57 0 500 rfl v57_109_32)) i66 ((inv_F hIc57 0 1000 rfl v57_109_27)) i59 j57_3 j57_2 j57_1 i124 ((in_c 0 rfl)) i138 i115 i70a; have oc := oc_304_109; omega
                  have n57a : (u_109_27).toInt ≤ (z70a).toInt := by have a0 := oa14 ro_109_22 ro_109_9 ((inv_F hIc57 0 500 rfl v57_109_32)) i66 ((inv_F hIc57 0 1000 rfl v57_109_27)) i59 j57_3 j57_2 j57_1 i124 ((in_c 0 rfl)) i138 i115 i70a; have oc := oc_304_109; omega
                  have n57b : 3 * (w57_109_32).toInt + 1 + (y57_3).toInt ≤ (z70a).toInt := by have a0 := oa14 ro_109_22 ro_109_9 ((inv_F hIc57 0 500 rfl v57_109_32)) i66 ((inv_F hIc57 0 1000 rfl v57_109_27)) i59 j57_3 j57_2 j57_1 i124 ((in_c 0 rfl)) i138 i115 i70a; have oc := oc_304_109; omega
                  have n57c : ((Int32.ofInt 0)).toInt = 0 → (z118a).toInt = 0 → 3 * (w57_109_32).toInt + 3 ≤ (z70a).toInt := by first | exact fun _ h => absurd h (Int.ne_of_gt n118) | (have a0 := oa14 ro_109_22 ro_109_9 ((inv_F hIc57 0 500 rfl v57_109_32)) i66 ((inv_F hIc57 0 1000 rfl v57_109_27)) i59 j57_3 j57_2 j57_1 i124 ((in_c 0 rfl)) i138 i115 i70a; have oc := oc_304_109; omega)
                  have n57d : ((Int32.ofInt 0)).toInt ≠ 0 → 0 ≤ (y57_3).toInt := by exact fun h => absurd rfl h
                  have n57e : (u_109_27).toInt + (y57_3).toInt ≤ (z70a).toInt := by have a0 := oa14 ro_109_22 ro_109_9 ((inv_F hIc57 0 500 rfl v57_109_32)) i66 ((inv_F hIc57 0 1000 rfl v57_109_27)) i59 j57_3 j57_2 j57_1 i124 ((in_c 0 rfl)) i138 i115 i70a; have oc := oc_304_109; omega
                  have n57f : ((Int32.ofInt 0)).toInt = 0 → (z118a).toInt = 0 → (u_109_27).toInt + 1 ≤ (z70a).toInt := by first | exact fun _ h => absurd h (Int.ne_of_gt n118) | (have a0 := oa14 ro_109_22 ro_109_9 ((inv_F hIc57 0 500 rfl v57_109_32)) i66 ((inv_F hIc57 0 1000 rfl v57_109_27)) i59 j57_3 j57_2 j57_1 i124 ((in_c 0 rfl)) i138 i115 i70a; have oc := oc_304_109; omega)
                  have n57g : (s118.2.2.1 109 23).toInt = 0 → LDQ s118 (s118.2.2.1 109 32).toNatClampNeg := by (intro hf; exfalso; have hg : (s118.2.2.1 109 23).toInt = 0 := hf; rw [← e118] at hg; have hn := n118; omega)
                  have n57h : (s118.2.2.1 109 23).toInt = 0 → ((y57_2).toInt = 110 → 1 ≤ (y57_3).toInt → nq (s118.1 128 (5 * (s118.2.2.1 109 32).toNatClampNeg)) 0 25) ∧ ((y57_2).toInt = 97 → 5 ≤ (y57_3).toInt → nq (s118.1 128 (5 * (s118.2.2.1 109 32).toNatClampNeg + 4)) 0 25) := by (intro hf; exfalso; have hg : (s118.2.2.1 109 23).toInt = 0 := hf; rw [← e118] at hg; have hn := n118; omega)
                  have n57i : ((Int32.ofInt 0)).toInt = 0 → (s118.2.2.1 109 23).toInt = 0 → ((y57_2).toInt = 110 → 1 ≤ (y57_3).toInt) ∧ ((y57_2).toInt = 97 → 5 ≤ (y57_3).toInt) := by (intro _ hf; exfalso; have hg : (s118.2.2.1 109 23).toInt = 0 := hf; rw [← e118] at hg; have hn := n118; omega)
                  have n57j : C4 (y57_2).toInt ∧ (y57_2) = s.2.2.1 109 30 ∧ (s.2.2.1 109 28).toInt = 1 ∧ (y57_1) = s.2.2.1 109 29 := by exact g57_3
                  have n57k : s118.1 110 = s.1 110 ∧ s118.1 112 = s.1 112 ∧ s118.1 127 = s.1 127 ∧ (∀ j, j < 5 * (s.2.2.1 109 32).toNatClampNeg → s118.1 128 j = s.1 128 j) ∧ s118.2.2.1 109 32 = s.2.2.1 109 32 := by have h9 := (show _ from ⟨(hF70.1 110 rfl).trans g57_4.1, (hF70.1 112 rfl).trans g57_4.2.1, (hF70.1 127 rfl).trans g57_4.2.2.1, fun j hj => by rw [hF70.1 128 rfl]; exact g57_4.2.2.2.1 j hj, (hF70.2.2.1 109 32 rfl).trans g57_4.2.2.2.2⟩ : s70.1 110 = s.1 110 ∧ s70.1 112 = s.1 112 ∧ s70.1 127 = s.1 127 ∧ (∀ j, j < 5 * (s.2.2.1 109 32).toNatClampNeg → s70.1 128 j = s.1 128 j) ∧ s70.2.2.1 109 32 = s.2.2.1 109 32); exact ⟨(hF118.1 110 rfl).trans h9.1, (hF118.1 112 rfl).trans h9.2.1, (hF118.1 127 rfl).trans h9.2.2.1, fun j hj => by rw [hF118.1 128 rfl]; exact h9.2.2.2.1 j hj, (hF118.2.2.1 109 32 rfl).trans h9.2.2.2.2⟩
                  have n57l : HQ5 s s118 ((y57_2).toInt - 97) (y57_3) ((Int32.ofInt 0)) (z70a).toInt.toNat := by intro hf; exfalso; rw [← e118] at hf; have hn := n118; omega
                  have n57m : HQ6 s s118 ((y57_2).toInt - 97) ((Int32.ofInt 0)) (z70a).toInt.toNat := by intro hf; exfalso; rw [← e118] at hf; have hn := n118; omega
                  have n57n : HQ7 s s118 ((y57_2).toInt - 97) := by intro _; (try clear hp76); obtain ⟨k, v, ht, hn⟩ := p70; rw [show sc57.1 125 = s.1 125 from hFc57.1 125 rfl, show sc57.2.2.1 109 22 = s.2.2.1 109 22 from hFc57.2.2.1 109 22 rfl, ← v57_109_27] at ht; have hf := ntk_f hn (by rw [← v57_109_23]; exact c66); have hk0 := (tkn_e ht).2.2.2.2.1; have hk5 := (tkn_e ht).2.2.2.2.2; have hc9 : cmI (y57_2.toInt - 97) := c4_i g57_3.1; have h5 := g57_5 (by rw [← v57_109_23]; exact c66) c59; have hw := p76a hc9 h5.1; have hv := hf.2 (by rw [← e82]; exact c85); clear hf; have htk := ntv_t hv hk0 hk5; rw [← e70a] at htk; have hb := p118.1 (by rw [← e82]; exact c85); refine ⟨by rw [hb.2]; have a0 := oa14 ro_109_22 ro_109_9 ((inv_F hIc57 0 500 rfl v57_109_32)) i66 ((inv_F hIc57 0 1000 rfl v57_109_27)) i59 j57_3 j57_2 j57_1 i124 ((in_c 0 rfl)) i138 i115 i70a; have oc := oc_304_109; omega, fun a ha => ?_⟩; rw [hb.1, hb.2]; have hk2 : cmF k = 2 := (by unfold cmF; rw [if_neg hv.2.2.2.2.1, if_neg hv.2.2.2.2.2]); rw [show (Int32.ofInt 2).toInt = cmF k from (by rw [hk2]; rfl), e115]; refine cs_bad hc9 ha (by have h7 := h5.1; omega) (h5.2 a ha) ht ?_; rw [← hw, ← htk]; first | (exact c94) | (intro _; have q9 := (hv.2.2.2.1 ((htk.symm.trans c94).trans (in_at i100))).2; rw [← e70b] at q9; exact absurd q9 c109)
                  have m57 : 100 - 10 * (y57_3).toInt + 5 * ((Int32.ofInt 0)).toInt + 9 - (z118a).toInt < ((k57 : Nat) : Int) := by have a0 := oa14 ro_109_22 ro_109_9 ((inv_F hIc57 0 500 rfl v57_109_32)) i66 ((inv_F hIc57 0 1000 rfl v57_109_27)) i59 j57_3 j57_2 j57_1 i124 ((in_c 0 rfl)) i138 i115 i70a; have oc := oc_304_109; omega
                  exact gg_w (by first | exact Nat.le_add_right _ _ | exact gw2 | exact gw3 | exact gwe rfl | exact gwf rfl | exact gwg rfl | exact gwh rfl | omega) (gg_f (gf_cons rfl (gf_cons rfl (gf_cons rfl (gf_cons rfl (gf_cons rfl gf_nil))))) (ih57  s118 y57_1 y57_2 y57_3 (Int32.ofInt 0) z70a z118a w57_109_32 hI118 (fr_tr rfl (fr_tr rfl hFc57 hF70) hF118) (in_w 0 1000 j57_1 rfl) (in_w 97 119 j57_2 rfl) (in_w 0 5 j57_3 rfl) (in_w 0 1 (in_c 0 rfl) rfl) v57 e118 v57a n57 n57a n57b n57c n57d n57e n57f n57g n57h n57i n57j n57k n57l n57m n57n m57))
                · skip
                  have i138 := z_eq 0 0 c138 i118a rfl
                  refine g_iload 143 (gd rfl) rfl rfl ?_
                  refine g_if_eq 146 183 (gd rfl) rfl rfl (fun c143 => ?_) (fun c143 => ?_)
                  · skip
                    refine g_goto 57 (gd rfl) rfl ?_
                    have v57 : z70a = s118.2.2.1 109 27 := fr_F (e70) hF118 rfl
                    have v57a : w57_109_32 = s118.2.2.1 109 32 := fr_F (fr_F (v57_109_32) hF70 rfl) hF118 rfl
                    have n57 : (z70a).toInt ≤ (u_109_22).toInt := by have a0 := oa14 ro_109_22 ro_109_9 ((inv_F hIc57 0 500 rfl v57_109_32)) i66 ((inv_F hIc57 0 1000 rfl v57_109_27)) i59 j57_3 j57_2 j57_1 i124 ((in_c 0 rfl)) i138 i115 i70a; have oc := oc_304_109; omega
                    have n57a : (u_109_27).toInt ≤ (z70a).toInt := by have a0 := oa14 ro_109_22 ro_109_9 ((inv_F hIc57 0 500 rfl v57_109_32)) i66 ((inv_F hIc57 0 1000 rfl v57_109_27)) i59 j57_3 j57_2 j57_1 i124 ((in_c 0 rfl)) i138 i115 i70a; have oc := oc_304_109; omega
                    have n57b : 3 * (w57_109_32).toInt + 1 + (y57_3).toInt ≤ (z70a).toInt := by have a0 := oa14 ro_109_22 ro_109_9 ((inv_F hIc57 0 500 rfl v57_109_32)) i66 ((inv_F hIc57 0 1000 rfl v57_109_27)) i59 j57_3 j57_2 j57_1 i124 ((in_c 0 rfl)) i138 i115 i70a; have oc := oc_304_109; omega
                    have n57c : ((Int32.ofInt 0)).toInt = 0 → (z118a).toInt = 0 → 3 * (w57_109_32).toInt + 3 ≤ (z70a).toInt := by first | exact fun _ h => absurd h (Int.ne_of_gt n118) | (have a0 := oa14 ro_109_22 ro_109_9 ((inv_F hIc57 0 500 rfl v57_109_32)) i66 ((inv_F hIc57 0 1000 rfl v57_109_27)) i59 j57_3 j57_2 j57_1 i124 ((in_c 0 rfl)) i138 i115 i70a; have oc := oc_304_109; omega)
                    have n57d : ((Int32.ofInt 0)).toInt ≠ 0 → 0 ≤ (y57_3).toInt := by exact fun h => absurd rfl h
                    have n57e : (u_109_27).toInt + (y57_3).toInt ≤ (z70a).toInt := by have a0 := oa14 ro_109_22 ro_109_9 ((inv_F hIc57 0 500 rfl v57_109_32)) i66 ((inv_F hIc57 0 1000 rfl v57_109_27)) i59 j57_3 j57_2 j57_1 i124 ((in_c 0 rfl)) i138 i115 i70a; have oc := oc_304_109; omega
                    have n57f : ((Int32.ofInt 0)).toInt = 0 → (z118a).toInt = 0 → (u_109_27).toInt + 1 ≤ (z70a).toInt := by first | exact fun _ h => absurd h (Int.ne_of_gt n118) | (have a0 := oa14 ro_109_22 ro_109_9 ((inv_F hIc57 0 500 rfl v57_109_32)) i66 ((inv_F hIc57 0 1000 rfl v57_109_27)) i59 j57_3 j57_2 j57_1 i124 ((in_c 0 rfl)) i138 i115 i70a; have oc := oc_304_109; omega)
                    have n57g : (s118.2.2.1 109 23).toInt = 0 → LDQ s118 (s118.2.2.1 109 32).toNatClampNeg := by (intro hf; exfalso; have hg : (s118.2.2.1 109 23).toInt = 0 := hf; rw [← e118] at hg; have hn := n118; omega)
                    have n57h : (s118.2.2.1 109 23).toInt = 0 → ((y57_2).toInt = 110 → 1 ≤ (y57_3).toInt → nq (s118.1 128 (5 * (s118.2.2.1 109 32).toNatClampNeg)) 0 25) ∧ ((y57_2).toInt = 97 → 5 ≤ (y57_3).toInt → nq (s118.1 128 (5 * (s118.2.2.1 109 32).toNatClampNeg + 4)) 0 25) := by (intro hf; exfalso; have hg : (s118.2.2.1 109 23).toInt = 0 := hf; rw [← e118] at hg; have hn := n118; omega)
                    have n57i : ((Int32.ofInt 0)).toInt = 0 → (s118.2.2.1 109 23).toInt = 0 → ((y57_2).toInt = 110 → 1 ≤ (y57_3).toInt) ∧ ((y57_2).toInt = 97 → 5 ≤ (y57_3).toInt) := by (intro _ hf; exfalso; have hg : (s118.2.2.1 109 23).toInt = 0 := hf; rw [← e118] at hg; have hn := n118; omega)
                    have n57j : C4 (y57_2).toInt ∧ (y57_2) = s.2.2.1 109 30 ∧ (s.2.2.1 109 28).toInt = 1 ∧ (y57_1) = s.2.2.1 109 29 := by exact g57_3
                    have n57k : s118.1 110 = s.1 110 ∧ s118.1 112 = s.1 112 ∧ s118.1 127 = s.1 127 ∧ (∀ j, j < 5 * (s.2.2.1 109 32).toNatClampNeg → s118.1 128 j = s.1 128 j) ∧ s118.2.2.1 109 32 = s.2.2.1 109 32 := by have h9 := (show _ from ⟨(hF70.1 110 rfl).trans g57_4.1, (hF70.1 112 rfl).trans g57_4.2.1, (hF70.1 127 rfl).trans g57_4.2.2.1, fun j hj => by rw [hF70.1 128 rfl]; exact g57_4.2.2.2.1 j hj, (hF70.2.2.1 109 32 rfl).trans g57_4.2.2.2.2⟩ : s70.1 110 = s.1 110 ∧ s70.1 112 = s.1 112 ∧ s70.1 127 = s.1 127 ∧ (∀ j, j < 5 * (s.2.2.1 109 32).toNatClampNeg → s70.1 128 j = s.1 128 j) ∧ s70.2.2.1 109 32 = s.2.2.1 109 32); exact ⟨(hF118.1 110 rfl).trans h9.1, (hF118.1 112 rfl).trans h9.2.1, (hF118.1 127 rfl).trans h9.2.2.1, fun j hj => by rw [hF118.1 128 rfl]; exact h9.2.2.2.1 j hj, (hF118.2.2.1 109 32 rfl).trans h9.2.2.2.2⟩
                    have n57l : HQ5 s s118 ((y57_2).toInt - 97) (y57_3) ((Int32.ofInt 0)) (z70a).toInt.toNat := by intro hf; exfalso; rw [← e118] at hf; have hn := n118; omega
                    have n57m : HQ6 s s118 ((y57_2).toInt - 97) ((Int32.ofInt 0)) (z70a).toInt.toNat := by intro hf; exfalso; rw [← e118] at hf; have hn := n118; omega
                    have n57n : HQ7 s s118 ((y57_2).toInt - 97) := by intro _; (try clear hp76); obtain ⟨k, v, ht, hn⟩ := p70; rw [show sc57.1 125 = s.1 125 from hFc57.1 125 rfl, show sc57.2.2.1 109 22 = s.2.2.1 109 22 from hFc57.2.2.1 109 22 rfl, ← v57_109_27] at ht; have hf := ntk_f hn (by rw [← v57_109_23]; exact c66); have hk0 := (tkn_e ht).2.2.2.2.1; have hk5 := (tkn_e ht).2.2.2.2.2; have hc9 : cmI (y57_2.toInt - 97) := c4_i g57_3.1; have h5 := g57_5 (by rw [← v57_109_23]; exact c66) c59; have hw := p76a hc9 h5.1; have hv := hf.2 (by rw [← e82]; exact c85); clear hf; have htk := ntv_t hv hk0 hk5; rw [← e70a] at htk; have hb := p118.1 (by rw [← e82]; exact c85); refine ⟨by rw [hb.2]; have a0 := oa14 ro_109_22 ro_109_9 ((inv_F hIc57 0 500 rfl v57_109_32)) i66 ((inv_F hIc57 0 1000 rfl v57_109_27)) i59 j57_3 j57_2 j57_1 i124 ((in_c 0 rfl)) i138 i115 i70a; have oc := oc_304_109; omega, fun a ha => ?_⟩; rw [hb.1, hb.2]; have hk2 : cmF k = 2 := (by unfold cmF; rw [if_neg hv.2.2.2.2.1, if_neg hv.2.2.2.2.2]); rw [show (Int32.ofInt 2).toInt = cmF k from (by rw [hk2]; rfl), e115]; refine cs_bad hc9 ha (by have h7 := h5.1; omega) (h5.2 a ha) ht ?_; rw [← hw, ← htk]; first | (exact c94) | (intro _; have q9 := (hv.2.2.2.1 ((htk.symm.trans c94).trans (in_at i100))).2; rw [← e70b] at q9; exact absurd q9 c109)
                    have m57 : 100 - 10 * (y57_3).toInt + 5 * ((Int32.ofInt 0)).toInt + 9 - (z118a).toInt < ((k57 : Nat) : Int) := by have a0 := oa14 ro_109_22 ro_109_9 ((inv_F hIc57 0 500 rfl v57_109_32)) i66 ((inv_F hIc57 0 1000 rfl v57_109_27)) i59 j57_3 j57_2 j57_1 i124 ((in_c 0 rfl)) i138 i115 i70a; have oc := oc_304_109; omega
                    exact gg_w (by first | exact Nat.le_add_right _ _ | exact gw2 | exact gw3 | exact gwe rfl | exact gwf rfl | exact gwg rfl | exact gwh rfl | omega) (gg_f (gf_cons rfl (gf_cons rfl (gf_cons rfl (gf_cons rfl (gf_cons rfl gf_nil))))) (ih57  s118 y57_1 y57_2 y57_3 (Int32.ofInt 0) z70a z118a w57_109_32 hI118 (fr_tr rfl (fr_tr rfl hFc57 hF70) hF118) (in_w 0 1000 j57_1 rfl) (in_w 97 119 j57_2 rfl) (in_w 0 5 j57_3 rfl) (in_w 0 1 (in_c 0 rfl) rfl) v57 e118 v57a n57 n57a n57b n57c n57d n57e n57f n57g n57h n57i n57j n57k n57l n57m n57n m57))
                  · skip
                    exact zn_ne c143 (in_c 0 rfl) rfl
              · skip
                have i124 := r_ne1 1 2 c124 i76 (in_c 3 rfl) rfl
                refine g_iconst 1 128 (gd rfl) rfl rfl ?_
                refine g_goto 132 (gd rfl) rfl ?_
                refine g_istore 134 (gd rfl) rfl (Nat.le_of_ble_eq_true rfl) ?_
                refine g_aload_n 135 (gd rfl) rfl rfl ?_
                refine g_getI 138 (gd rfl) rfl rfl rfl (fun z135 e135 => ?_)
                have q135 : z118a = z135 := (e118).trans e135.symm
                subst q135
                refine g_if_ne 141 183 (gd rfl) rfl rfl (fun c138 => ?_) (fun c138 => ?_)
                · skip
                  have i138 := z_ne 1 9 c138 i118a rfl
                  refine g_goto 57 (gd rfl) rfl ?_
                  have v57 : z70a = s118.2.2.1 109 27 := fr_F (e70) hF118 rfl
                  have v57a : w57_109_32 = s118.2.2.1 109 32 := fr_F (fr_F (v57_109_32) hF70 rfl) hF118 rfl
                  have n57 : (z70a).toInt ≤ (u_109_22).toInt := by have a0 := oa14 ro_109_22 ro_109_9 ((inv_F hIc57 0 500 rfl v57_109_32)) i66 ((inv_F hIc57 0 1000 rfl v57_109_27)) i59 j57_3 j57_2 j57_1 i124 ((in_c 1 rfl)) i138 i115 i70a; have oc := oc_304_109; omega
                  have n57a : (u_109_27).toInt ≤ (z70a).toInt := by have a0 := oa14 ro_109_22 ro_109_9 ((inv_F hIc57 0 500 rfl v57_109_32)) i66 ((inv_F hIc57 0 1000 rfl v57_109_27)) i59 j57_3 j57_2 j57_1 i124 ((in_c 1 rfl)) i138 i115 i70a; have oc := oc_304_109; omega
                  have n57b : 3 * (w57_109_32).toInt + 1 + (y57_3).toInt ≤ (z70a).toInt := by have a0 := oa14 ro_109_22 ro_109_9 ((inv_F hIc57 0 500 rfl v57_109_32)) i66 ((inv_F hIc57 0 1000 rfl v57_109_27)) i59 j57_3 j57_2 j57_1 i124 ((in_c 1 rfl)) i138 i115 i70a; have oc := oc_304_109; omega
                  have n57c : ((Int32.ofInt 1)).toInt = 0 → (z118a).toInt = 0 → 3 * (w57_109_32).toInt + 3 ≤ (z70a).toInt := by exact fun h => absurd h (by decide)
                  have n57d : ((Int32.ofInt 1)).toInt ≠ 0 → 0 ≤ (y57_3).toInt := by have a0 := oa14 ro_109_22 ro_109_9 ((inv_F hIc57 0 500 rfl v57_109_32)) i66 ((inv_F hIc57 0 1000 rfl v57_109_27)) i59 j57_3 j57_2 j57_1 i124 ((in_c 1 rfl)) i138 i115 i70a; have oc := oc_304_109; omega
                  have n57e : (u_109_27).toInt + (y57_3).toInt ≤ (z70a).toInt := by have a0 := oa14 ro_109_22 ro_109_9 ((inv_F hIc57 0 500 rfl v57_109_32)) i66 ((inv_F hIc57 0 1000 rfl v57_109_27)) i59 j57_3 j57_2 j57_1 i124 ((in_c 1 rfl)) i138 i115 i70a; have oc := oc_304_109; omega
                  have n57f : ((Int32.ofInt 1)).toInt = 0 → (z118a).toInt = 0 → (u_109_27).toInt + 1 ≤ (z70a).toInt := by exact fun h => absurd h (by decide)
                  have n57g : (s118.2.2.1 109 23).toInt = 0 → LDQ s118 (s118.2.2.1 109 32).toNatClampNeg := by (intro hf; exfalso; have hg : (s118.2.2.1 109 23).toInt = 0 := hf; rw [← e118] at hg; have hn := n118; omega)
                  have n57h : (s118.2.2.1 109 23).toInt = 0 → ((y57_2).toInt = 110 → 1 ≤ (y57_3).toInt → nq (s118.1 128 (5 * (s118.2.2.1 109 32).toNatClampNeg)) 0 25) ∧ ((y57_2).toInt = 97 → 5 ≤ (y57_3).toInt → nq (s118.1 128 (5 * (s118.2.2.1 109 32).toNatClampNeg + 4)) 0 25) := by (intro hf; exfalso; have hg : (s118.2.2.1 109 23).toInt = 0 := hf; rw [← e118] at hg; have hn := n118; omega)
                  have n57i : ((Int32.ofInt 1)).toInt = 0 → (s118.2.2.1 109 23).toInt = 0 → ((y57_2).toInt = 110 → 1 ≤ (y57_3).toInt) ∧ ((y57_2).toInt = 97 → 5 ≤ (y57_3).toInt) := by exact fun h => absurd h (by decide)
                  have n57j : C4 (y57_2).toInt ∧ (y57_2) = s.2.2.1 109 30 ∧ (s.2.2.1 109 28).toInt = 1 ∧ (y57_1) = s.2.2.1 109 29 := by exact g57_3
                  have n57k : s118.1 110 = s.1 110 ∧ s118.1 112 = s.1 112 ∧ s118.1 127 = s.1 127 ∧ (∀ j, j < 5 * (s.2.2.1 109 32).toNatClampNeg → s118.1 128 j = s.1 128 j) ∧ s118.2.2.1 109 32 = s.2.2.1 109 32 := by have h9 := (show _ from ⟨(hF70.1 110 rfl).trans g57_4.1, (hF70.1 112 rfl).trans g57_4.2.1, (hF70.1 127 rfl).trans g57_4.2.2.1, fun j hj => by rw [hF70.1 128 rfl]; exact g57_4.2.2.2.1 j hj, (hF70.2.2.1 109 32 rfl).trans g57_4.2.2.2.2⟩ : s70.1 110 = s.1 110 ∧ s70.1 112 = s.1 112 ∧ s70.1 127 = s.1 127 ∧ (∀ j, j < 5 * (s.2.2.1 109 32).toNatClampNeg → s70.1 128 j = s.1 128 j) ∧ s70.2.2.1 109 32 = s.2.2.1 109 32); exact ⟨(hF118.1 110 rfl).trans h9.1, (hF118.1 112 rfl).trans h9.2.1, (hF118.1 127 rfl).trans h9.2.2.1, fun j hj => by rw [hF118.1 128 rfl]; exact h9.2.2.2.1 j hj, (hF118.2.2.1 109 32 rfl).trans h9.2.2.2.2⟩
                  have n57l : HQ5 s s118 ((y57_2).toInt - 97) (y57_3) ((Int32.ofInt 1)) (z70a).toInt.toNat := by intro hf; exfalso; rw [← e118] at hf; have hn := n118; omega
                  have n57m : HQ6 s s118 ((y57_2).toInt - 97) ((Int32.ofInt 1)) (z70a).toInt.toNat := by intro hf; exfalso; rw [← e118] at hf; have hn := n118; omega
                  have n57n : HQ7 s s118 ((y57_2).toInt - 97) := by intro _; (try clear hp76); obtain ⟨k, v, ht, hn⟩ := p70; rw [show sc57.1 125 = s.1 125 from hFc57.1 125 rfl, show sc57.2.2.1 109 22 = s.2.2.1 109 22 from hFc57.2.2.1 109 22 rfl, ← v57_109_27] at ht; have hf := ntk_f hn (by rw [← v57_109_23]; exact c66); have hk0 := (tkn_e ht).2.2.2.2.1; have hk5 := (tkn_e ht).2.2.2.2.2; have hc9 : cmI (y57_2.toInt - 97) := c4_i g57_3.1; have h5 := g57_5 (by rw [← v57_109_23]; exact c66) c59; have hw := p76a hc9 h5.1; have hv := hf.2 (by rw [← e82]; exact c85); clear hf; have htk := ntv_t hv hk0 hk5; rw [← e70a] at htk; have hb := p118.1 (by rw [← e82]; exact c85); refine ⟨by rw [hb.2]; have a0 := oa14 ro_109_22 ro_109_9 ((inv_F hIc57 0 500 rfl v57_109_32)) i66 ((inv_F hIc57 0 1000 rfl v57_109_27)) i59 j57_3 j57_2 j57_1 i124 ((in_c 1 rfl)) i138 i115 i70a; have oc := oc_304_109; omega, fun a ha => ?_⟩; rw [hb.1, hb.2]; have hk2 : cmF k = 2 := (by unfold cmF; rw [if_neg hv.2.2.2.2.1, if_neg hv.2.2.2.2.2]); rw [show (Int32.ofInt 2).toInt = cmF k from (by rw [hk2]; rfl), e115]; refine cs_bad hc9 ha (by have h7 := h5.1; omega) (h5.2 a ha) ht ?_; rw [← hw, ← htk]; first | (exact c94) | (intro _; have q9 := (hv.2.2.2.1 ((htk.symm.trans c94).trans (in_at i100))).2; rw [← e70b] at q9; exact absurd q9 c109)
                  have m57 : 100 - 10 * (y57_3).toInt + 5 * ((Int32.ofInt 1)).toInt + 9 - (z118a).toInt < ((k57 : Nat) : Int) := by have a0 := oa14 ro_109_22 ro_109_9 ((inv_F hIc57 0 500 rfl v57_109_32)) i66 ((inv_F hIc57 0 1000 rfl v57_109_27)) i59 j57_3 j57_2 j57_1 i124 ((in_c 1 rfl)) i138 i115 i70a; have oc := oc_304_109; omega
                  exact gg_w (by first | exact Nat.le_add_right _ _ | exact gw2 | exact gw3 | exact gwe rfl | exact gwf rfl | exact gwg rfl | exact gwh rfl | omega) (gg_f (gf_cons rfl (gf_cons rfl (gf_cons rfl (gf_cons rfl (gf_cons rfl gf_nil))))) (ih57  s118 y57_1 y57_2 y57_3 (Int32.ofInt 1) z70a z118a w57_109_32 hI118 (fr_tr rfl (fr_tr rfl hFc57 hF70) hF118) (in_w 0 1000 j57_1 rfl) (in_w 97 119 j57_2 rfl) (in_w 0 5 j57_3 rfl) (in_w 0 1 (in_c 1 rfl) rfl) v57 e118 v57a n57 n57a n57b n57c n57d n57e n57f n57g n57h n57i n57j n57k n57l n57m n57n m57))
                · skip
                  have i138 := z_eq 0 0 c138 i118a rfl
                  refine g_iload 143 (gd rfl) rfl rfl ?_
                  refine g_if_eq 146 183 (gd rfl) rfl rfl (fun c143 => ?_) (fun c143 => ?_)
                  · skip
                    exact zn_eq c143 (in_c 1 rfl) rfl
                  · skip
                    refine g_aload_n 147 (gd rfl) rfl rfl ?_
                    refine g_getA (q2 := 128) 150 (gd rfl) rfl rfl rfl rfl ?_
                    refine g_iconst 5 151 (gd rfl) rfl rfl ?_
                    refine g_aload_n 152 (gd rfl) rfl rfl ?_
                    refine g_getI 155 (gd rfl) rfl rfl rfl (fun z152 e152 => ?_)
                    have q152 : w57_109_32 = z152 := (fr_F (fr_F (v57_109_32) hF70 rfl) hF118 rfl).trans e152.symm
                    subst q152
                    refine g_imul 156 (gd rfl) rfl (fun z155 e155 => ?_)
                    have i155 := in_mulc 5 0 2500 (Or.inl e155) (inv_F hIc57 0 500 rfl v57_109_32) rfl rfl
                    refine g_iload_n 157 (gd rfl) rfl rfl ?_
                    refine g_iadd 158 (gd rfl) rfl (fun z157 e157 => ?_)
                    have i157 := in_add 0 2505 e157 i155 j57_3 rfl rfl
                    refine g_iload 160 (gd rfl) rfl rfl ?_
                    refine g_iconst 1 161 (gd rfl) rfl rfl ?_
                    refine g_cmp_ne 164 174 (gd rfl) rfl rfl (fun c161 => ?_) (fun c161 => ?_)
                    · skip
                      have i161 := r_ne1 2 2 c161 i124 (in_c 1 rfl) rfl
                      refine g_aload_n 175 (gd rfl) rfl rfl ?_
                      refine g_getL 178 (gd rfl) rfl rfl rfl (fun z175 e175 => ?_)
                      refine g_l2i 179 (gd rfl) rfl (fun z178 e178 => ?_)
                      have i179 : In z157 0 2499 := by have a0 := oa15 ro_109_22 ro_109_9 ((inv_F hIc57 0 500 rfl v57_109_32)) i66 ((inv_F hIc57 0 1000 rfl v57_109_27)) i59 j57_3 j57_2 j57_1 i161 ((in_c 1 rfl)) i138 i115 i70a i157; have a15 := t_add e157 i155 j57_3 rfl; have a16 := in_u i155; have a17 := (t_mulc 5 (Or.inl e155) (inv_F hIc57 0 500 rfl v57_109_32) rfl).1; have oc := oc_304_109; exact ⟨by omega, by omega⟩
                      refine g_iastore 180 (gd rfl) rfl (n := 2500) rfl (in_ix i179 rfl) ?_
                      have hI179 := inv_sI (q := 128) (j := z157.toNatClampNeg) hI118 rfl (in_w (-2147483648) 2147483647 (i_rng z178) rfl)
                      refine g_iinc 183 (gd rfl) rfl rfl (Nat.le_of_ble_eq_true rfl) (fun z180 e180 => ?_)
                      have i180 := in_add 1 6 e180 j57_3 (in_c 1 rfl) rfl rfl
                      refine g_goto 57 (gd rfl) rfl ?_
                      have i57 : In z180 0 5 := by exact ⟨by have a0 := oa12 ro_109_22 ro_109_9 ((inv_F hIc57 0 500 rfl v57_109_32)) i66 ((inv_F hIc57 0 1000 rfl v57_109_27)) i59 j57_3 j57_2 j57_1 i161 ((in_c 1 rfl)) i180; have a12 := t_add e180 j57_3 (in_c 1 rfl) rfl; have a13 := oa4 i138 i115 i70a i179; have a17 := t_add e157 i155 j57_3 rfl; have a18 := in_u i155; have a19 := (t_mulc 5 (Or.inl e155) (inv_F hIc57 0 500 rfl v57_109_32) rfl).1; have oc := oc_304_109; omega, by have a0 := oa12 ro_109_22 ro_109_9 ((inv_F hIc57 0 500 rfl v57_109_32)) i66 ((inv_F hIc57 0 1000 rfl v57_109_27)) i59 j57_3 j57_2 j57_1 i161 ((in_c 1 rfl)) i180; have a12 := t_add e180 j57_3 (in_c 1 rfl) rfl; have a13 := oa4 i138 i115 i70a i179; have a17 := t_add e157 i155 j57_3 rfl; have a18 := in_u i155; have a19 := (t_mulc 5 (Or.inl e155) (inv_F hIc57 0 500 rfl v57_109_32) rfl).1; have oc := oc_304_109; omega⟩
                      have v57 : z70a = (sI s118 128 z157.toNatClampNeg z178).2.2.1 109 27 := sI_F (fr_F (e70) hF118 rfl)
                      have v57a : z118a = (sI s118 128 z157.toNatClampNeg z178).2.2.1 109 23 := sI_F (e118)
                      have v57b : w57_109_32 = (sI s118 128 z157.toNatClampNeg z178).2.2.1 109 32 := sI_F (fr_F (fr_F (v57_109_32) hF70 rfl) hF118 rfl)
                      have n57 : (z70a).toInt ≤ (u_109_22).toInt := by have a0 := oa12 ro_109_22 ro_109_9 ((inv_F hIc57 0 500 rfl v57_109_32)) i66 ((inv_F hIc57 0 1000 rfl v57_109_27)) i59 j57_3 j57_2 j57_1 i161 ((in_c 1 rfl)) i57; have a12 := t_add e180 j57_3 (in_c 1 rfl) rfl; have a13 := oa4 i138 i115 i70a i179; have a17 := t_add e157 i155 j57_3 rfl; have a18 := in_u i155; have a19 := (t_mulc 5 (Or.inl e155) (inv_F hIc57 0 500 rfl v57_109_32) rfl).1; have oc := oc_304_109; omega
                      have n57a : (u_109_27).toInt ≤ (z70a).toInt := by have a0 := oa12 ro_109_22 ro_109_9 ((inv_F hIc57 0 500 rfl v57_109_32)) i66 ((inv_F hIc57 0 1000 rfl v57_109_27)) i59 j57_3 j57_2 j57_1 i161 ((in_c 1 rfl)) i57; have a12 := t_add e180 j57_3 (in_c 1 rfl) rfl; have a13 := oa4 i138 i115 i70a i179; have a17 := t_add e157 i155 j57_3 rfl; have a18 := in_u i155; have a19 := (t_mulc 5 (Or.inl e155) (inv_F hIc57 0 500 rfl v57_109_32) rfl).1; have oc := oc_304_109; omega
                      have n57b : 3 * (w57_109_32).toInt + 1 + (z180).toInt ≤ (z70a).toInt := by have a0 := oa12 ro_109_22 ro_109_9 ((inv_F hIc57 0 500 rfl v57_109_32)) i66 ((inv_F hIc57 0 1000 rfl v57_109_27)) i59 j57_3 j57_2 j57_1 i161 ((in_c 1 rfl)) i57; have a12 := t_add e180 j57_3 (in_c 1 rfl) rfl; have a13 := oa4 i138 i115 i70a i179; have a17 := t_add e157 i155 j57_3 rfl; have a18 := in_u i155; have a19 := (t_mulc 5 (Or.inl e155) (inv_F hIc57 0 500 rfl v57_109_32) rfl).1; have oc := oc_304_109; omega
                      have n57c : ((Int32.ofInt 1)).toInt = 0 → (z118a).toInt = 0 → 3 * (w57_109_32).toInt + 3 ≤ (z70a).toInt := by exact fun h => absurd h (by decide)
                      have n57d : ((Int32.ofInt 1)).toInt ≠ 0 → 0 ≤ (z180).toInt := by have a0 := oa12 ro_109_22 ro_109_9 ((inv_F hIc57 0 500 rfl v57_109_32)) i66 ((inv_F hIc57 0 1000 rfl v57_109_27)) i59 j57_3 j57_2 j57_1 i161 ((in_c 1 rfl)) i57; have a12 := t_add e180 j57_3 (in_c 1 rfl) rfl; have a13 := oa4 i138 i115 i70a i179; have a17 := t_add e157 i155 j57_3 rfl; have a18 := in_u i155; have a19 := (t_mulc 5 (Or.inl e155) (inv_F hIc57 0 500 rfl v57_109_32) rfl).1; have oc := oc_304_109; omega
                      have n57e : (u_109_27).toInt + (z180).toInt ≤ (z70a).toInt := by have a0 := oa12 ro_109_22 ro_109_9 ((inv_F hIc57 0 500 rfl v57_109_32)) i66 ((inv_F hIc57 0 1000 rfl v57_109_27)) i59 j57_3 j57_2 j57_1 i161 ((in_c 1 rfl)) i57; have a12 := t_add e180 j57_3 (in_c 1 rfl) rfl; have a13 := oa4 i138 i115 i70a i179; have a17 := t_add e157 i155 j57_3 rfl; have a18 := in_u i155; have a19 := (t_mulc 5 (Or.inl e155) (inv_F hIc57 0 500 rfl v57_109_32) rfl).1; have oc := oc_304_109; omega
                      have n57f : ((Int32.ofInt 1)).toInt = 0 → (z118a).toInt = 0 → (u_109_27).toInt + 1 ≤ (z70a).toInt := by exact fun h => absurd h (by decide)
                      have n57g : ((sI s118 128 z157.toNatClampNeg z178).2.2.1 109 23).toInt = 0 → LDQ (sI s118 128 z157.toNatClampNeg z178) ((sI s118 128 z157.toNatClampNeg z178).2.2.1 109 32).toNatClampNeg := by (intro hf; exfalso; have hg : (s118.2.2.1 109 23).toInt = 0 := hf; rw [← e118] at hg; have hn := n118; omega)
                      have n57h : ((sI s118 128 z157.toNatClampNeg z178).2.2.1 109 23).toInt = 0 → ((y57_2).toInt = 110 → 1 ≤ (z180).toInt → nq ((sI s118 128 z157.toNatClampNeg z178).1 128 (5 * ((sI s118 128 z157.toNatClampNeg z178).2.2.1 109 32).toNatClampNeg)) 0 25) ∧ ((y57_2).toInt = 97 → 5 ≤ (z180).toInt → nq ((sI s118 128 z157.toNatClampNeg z178).1 128 (5 * ((sI s118 128 z157.toNatClampNeg z178).2.2.1 109 32).toNatClampNeg + 4)) 0 25) := by (intro hf; exfalso; have hg : (s118.2.2.1 109 23).toInt = 0 := hf; rw [← e118] at hg; have hn := n118; omega)
                      have n57i : ((Int32.ofInt 1)).toInt = 0 → ((sI s118 128 z157.toNatClampNeg z178).2.2.1 109 23).toInt = 0 → ((y57_2).toInt = 110 → 1 ≤ (z180).toInt) ∧ ((y57_2).toInt = 97 → 5 ≤ (z180).toInt) := by exact fun h => absurd h (by decide)
                      have n57j : C4 (y57_2).toInt ∧ (y57_2) = s.2.2.1 109 30 ∧ (s.2.2.1 109 28).toInt = 1 ∧ (y57_1) = s.2.2.1 109 29 := by exact g57_3
                      have n57k : (sI s118 128 z157.toNatClampNeg z178).1 110 = s.1 110 ∧ (sI s118 128 z157.toNatClampNeg z178).1 112 = s.1 112 ∧ (sI s118 128 z157.toNatClampNeg z178).1 127 = s.1 127 ∧ (∀ j, j < 5 * (s.2.2.1 109 32).toNatClampNeg → (sI s118 128 z157.toNatClampNeg z178).1 128 j = s.1 128 j) ∧ (sI s118 128 z157.toNatClampNeg z178).2.2.1 109 32 = s.2.2.1 109 32 := by (try clear hp76); exfalso; have hn := n118; have a0 := oa12 ro_109_22 ro_109_9 ((inv_F hIc57 0 500 rfl v57_109_32)) i66 ((inv_F hIc57 0 1000 rfl v57_109_27)) i59 j57_3 j57_2 j57_1 i161 ((in_c 1 rfl)) i57; have a12 := t_add e180 j57_3 (in_c 1 rfl) rfl; have a13 := oa4 i138 i115 i70a i179; have a17 := t_add e157 i155 j57_3 rfl; have a18 := in_u i155; have a19 := (t_mulc 5 (Or.inl e155) (inv_F hIc57 0 500 rfl v57_109_32) rfl).1; have oc := oc_304_109; omega
                      have n57l : HQ5 s (sI s118 128 z157.toNatClampNeg z178) ((y57_2).toInt - 97) (z180) ((Int32.ofInt 1)) (z70a).toInt.toNat := by (try clear hp76); exfalso; have hn := n118; have a0 := oa12 ro_109_22 ro_109_9 ((inv_F hIc57 0 500 rfl v57_109_32)) i66 ((inv_F hIc57 0 1000 rfl v57_109_27)) i59 j57_3 j57_2 j57_1 i161 ((in_c 1 rfl)) i57; have a12 := t_add e180 j57_3 (in_c 1 rfl) rfl; have a13 := oa4 i138 i115 i70a i179; have a17 := t_add e157 i155 j57_3 rfl; have a18 := in_u i155; have a19 := (t_mulc 5 (Or.inl e155) (inv_F hIc57 0 500 rfl v57_109_32) rfl).1; have oc := oc_304_109; omega
                      have n57m : HQ6 s (sI s118 128 z157.toNatClampNeg z178) ((y57_2).toInt - 97) ((Int32.ofInt 1)) (z70a).toInt.toNat := by (try clear hp76); exfalso; have hn := n118; have a0 := oa12 ro_109_22 ro_109_9 ((inv_F hIc57 0 500 rfl v57_109_32)) i66 ((inv_F hIc57 0 1000 rfl v57_109_27)) i59 j57_3 j57_2 j57_1 i161 ((in_c 1 rfl)) i57; have a12 := t_add e180 j57_3 (in_c 1 rfl) rfl; have a13 := oa4 i138 i115 i70a i179; have a17 := t_add e157 i155 j57_3 rfl; have a18 := in_u i155; have a19 := (t_mulc 5 (Or.inl e155) (inv_F hIc57 0 500 rfl v57_109_32) rfl).1; have oc := oc_304_109; omega
                      have n57n : HQ7 s (sI s118 128 z157.toNatClampNeg z178) ((y57_2).toInt - 97) := by (try clear hp76); exfalso; have hn := n118; have a0 := oa12 ro_109_22 ro_109_9 ((inv_F hIc57 0 500 rfl v57_109_32)) i66 ((inv_F hIc57 0 1000 rfl v57_109_27)) i59 j57_3 j57_2 j57_1 i161 ((in_c 1 rfl)) i57; have a12 := t_add e180 j57_3 (in_c 1 rfl) rfl; have a13 := oa4 i138 i115 i70a i179; have a17 := t_add e157 i155 j57_3 rfl; have a18 := in_u i155; have a19 := (t_mulc 5 (Or.inl e155) (inv_F hIc57 0 500 rfl v57_109_32) rfl).1; have oc := oc_304_109; omega
                      have m57 : 100 - 10 * (z180).toInt + 5 * ((Int32.ofInt 1)).toInt + 9 - (z118a).toInt < ((k57 : Nat) : Int) := by have a0 := oa12 ro_109_22 ro_109_9 ((inv_F hIc57 0 500 rfl v57_109_32)) i66 ((inv_F hIc57 0 1000 rfl v57_109_27)) i59 j57_3 j57_2 j57_1 i161 ((in_c 1 rfl)) i57; have a12 := t_add e180 j57_3 (in_c 1 rfl) rfl; have a13 := oa4 i138 i115 i70a i179; have a17 := t_add e157 i155 j57_3 rfl; have a18 := in_u i155; have a19 := (t_mulc 5 (Or.inl e155) (inv_F hIc57 0 500 rfl v57_109_32) rfl).1; have oc := oc_304_109; omega
                      exact gg_w (by first | exact Nat.le_add_right _ _ | exact gw2 | exact gw3 | exact gwe rfl | exact gwf rfl | exact gwg rfl | exact gwh rfl | omega) (gg_f (gf_cons rfl (gf_cons rfl (gf_cons rfl (gf_cons rfl (gf_cons rfl gf_nil))))) (ih57  (sI s118 128 z157.toNatClampNeg z178) y57_1 y57_2 z180 (Int32.ofInt 1) z70a z118a w57_109_32 hI179 (fr_sI rfl (fr_tr rfl (fr_tr rfl hFc57 hF70) hF118)) (in_w 0 1000 j57_1 rfl) (in_w 97 119 j57_2 rfl) i57 (in_w 0 1 (in_c 1 rfl) rfl) v57 v57a v57b n57 n57a n57b n57c n57d n57e n57f n57g n57h n57i n57j n57k n57l n57m n57n m57))
                    · skip
                      have i161 := r_eq1 1 1 c161 i124 (in_c 1 rfl) rfl
                      refine g_aload_n 165 (gd rfl) rfl rfl ?_
                      refine g_getI 168 (gd rfl) rfl rfl rfl (fun z165 e165 => ?_)
                      have q165 : z70c = z165 := (fr_F (e70b) hF118 rfl).trans e165.symm
                      subst q165
                      refine g_bipush 97 170 (gd rfl) rfl rfl ?_
                      refine g_isub 171 (gd rfl) rfl (fun z170 e170 => ?_)
                      refine g_goto 179 (gd rfl) rfl ?_
                      have i179 : In z157 0 2499 := by have a0 := oa15 ro_109_22 ro_109_9 ((inv_F hIc57 0 500 rfl v57_109_32)) i66 ((inv_F hIc57 0 1000 rfl v57_109_27)) i59 j57_3 j57_2 j57_1 i161 ((in_c 1 rfl)) i138 i115 i70a i157; have a15 := t_add e157 i155 j57_3 rfl; have a16 := in_u i155; have a17 := (t_mulc 5 (Or.inl e155) (inv_F hIc57 0 500 rfl v57_109_32) rfl).1; have oc := oc_304_109; exact ⟨by omega, by omega⟩
                      refine g_iastore 180 (gd rfl) rfl (n := 2500) rfl (in_ix i179 rfl) ?_
                      have hI179 := inv_sI (q := 128) (j := z157.toNatClampNeg) hI118 rfl (in_w (-2147483648) 2147483647 (i_rng z170) rfl)
                      refine g_iinc 183 (gd rfl) rfl rfl (Nat.le_of_ble_eq_true rfl) (fun z180 e180 => ?_)
                      have i180 := in_add 1 6 e180 j57_3 (in_c 1 rfl) rfl rfl
                      refine g_goto 57 (gd rfl) rfl ?_
                      have i57 : In z180 0 5 := by exact ⟨by have a0 := oa12 ro_109_22 ro_109_9 ((inv_F hIc57 0 500 rfl v57_109_32)) i66 ((inv_F hIc57 0 1000 rfl v57_109_27)) i59 j57_3 j57_2 j57_1 i161 ((in_c 1 rfl)) i180; have a12 := t_add e180 j57_3 (in_c 1 rfl) rfl; have a13 := oa4 i138 i115 i70a i179; have a17 := t_add e157 i155 j57_3 rfl; have a18 := in_u i155; have a19 := (t_mulc 5 (Or.inl e155) (inv_F hIc57 0 500 rfl v57_109_32) rfl).1; have oc := oc_304_109; omega, by have a0 := oa12 ro_109_22 ro_109_9 ((inv_F hIc57 0 500 rfl v57_109_32)) i66 ((inv_F hIc57 0 1000 rfl v57_109_27)) i59 j57_3 j57_2 j57_1 i161 ((in_c 1 rfl)) i180; have a12 := t_add e180 j57_3 (in_c 1 rfl) rfl; have a13 := oa4 i138 i115 i70a i179; have a17 := t_add e157 i155 j57_3 rfl; have a18 := in_u i155; have a19 := (t_mulc 5 (Or.inl e155) (inv_F hIc57 0 500 rfl v57_109_32) rfl).1; have oc := oc_304_109; omega⟩
                      have v57 : z70a = (sI s118 128 z157.toNatClampNeg z170).2.2.1 109 27 := sI_F (fr_F (e70) hF118 rfl)
                      have v57a : z118a = (sI s118 128 z157.toNatClampNeg z170).2.2.1 109 23 := sI_F (e118)
                      have v57b : w57_109_32 = (sI s118 128 z157.toNatClampNeg z170).2.2.1 109 32 := sI_F (fr_F (fr_F (v57_109_32) hF70 rfl) hF118 rfl)
                      have n57 : (z70a).toInt ≤ (u_109_22).toInt := by have a0 := oa12 ro_109_22 ro_109_9 ((inv_F hIc57 0 500 rfl v57_109_32)) i66 ((inv_F hIc57 0 1000 rfl v57_109_27)) i59 j57_3 j57_2 j57_1 i161 ((in_c 1 rfl)) i57; have a12 := t_add e180 j57_3 (in_c 1 rfl) rfl; have a13 := oa4 i138 i115 i70a i179; have a17 := t_add e157 i155 j57_3 rfl; have a18 := in_u i155; have a19 := (t_mulc 5 (Or.inl e155) (inv_F hIc57 0 500 rfl v57_109_32) rfl).1; have oc := oc_304_109; omega
                      have n57a : (u_109_27).toInt ≤ (z70a).toInt := by have a0 := oa12 ro_109_22 ro_109_9 ((inv_F hIc57 0 500 rfl v57_109_32)) i66 ((inv_F hIc57 0 1000 rfl v57_109_27)) i59 j57_3 j57_2 j57_1 i161 ((in_c 1 rfl)) i57; have a12 := t_add e180 j57_3 (in_c 1 rfl) rfl; have a13 := oa4 i138 i115 i70a i179; have a17 := t_add e157 i155 j57_3 rfl; have a18 := in_u i155; have a19 := (t_mulc 5 (Or.inl e155) (inv_F hIc57 0 500 rfl v57_109_32) rfl).1; have oc := oc_304_109; omega
                      have n57b : 3 * (w57_109_32).toInt + 1 + (z180).toInt ≤ (z70a).toInt := by have a0 := oa12 ro_109_22 ro_109_9 ((inv_F hIc57 0 500 rfl v57_109_32)) i66 ((inv_F hIc57 0 1000 rfl v57_109_27)) i59 j57_3 j57_2 j57_1 i161 ((in_c 1 rfl)) i57; have a12 := t_add e180 j57_3 (in_c 1 rfl) rfl; have a13 := oa4 i138 i115 i70a i179; have a17 := t_add e157 i155 j57_3 rfl; have a18 := in_u i155; have a19 := (t_mulc 5 (Or.inl e155) (inv_F hIc57 0 500 rfl v57_109_32) rfl).1; have oc := oc_304_109; omega
                      have n57c : ((Int32.ofInt 1)).toInt = 0 → (z118a).toInt = 0 → 3 * (w57_109_32).toInt + 3 ≤ (z70a).toInt := by exact fun h => absurd h (by decide)
                      have n57d : ((Int32.ofInt 1)).toInt ≠ 0 → 0 ≤ (z180).toInt := by have a0 := oa12 ro_109_22 ro_109_9 ((inv_F hIc57 0 500 rfl v57_109_32)) i66 ((inv_F hIc57 0 1000 rfl v57_109_27)) i59 j57_3 j57_2 j57_1 i161 ((in_c 1 rfl)) i57; have a12 := t_add e180 j57_3 (in_c 1 rfl) rfl; have a13 := oa4 i138 i115 i70a i179; have a17 := t_add e157 i155 j57_3 rfl; have a18 := in_u i155; have a19 := (t_mulc 5 (Or.inl e155) (inv_F hIc57 0 500 rfl v57_109_32) rfl).1; have oc := oc_304_109; omega
                      have n57e : (u_109_27).toInt + (z180).toInt ≤ (z70a).toInt := by have a0 := oa12 ro_109_22 ro_109_9 ((inv_F hIc57 0 500 rfl v57_109_32)) i66 ((inv_F hIc57 0 1000 rfl v57_109_27)) i59 j57_3 j57_2 j57_1 i161 ((in_c 1 rfl)) i57; have a12 := t_add e180 j57_3 (in_c 1 rfl) rfl; have a13 := oa4 i138 i115 i70a i179; have a17 := t_add e157 i155 j57_3 rfl; have a18 := in_u i155; have a19 := (t_mulc 5 (Or.inl e155) (inv_F hIc57 0 500 rfl v57_109_32) rfl).1; have oc := oc_304_109; omega
                      have n57f : ((Int32.ofInt 1)).toInt = 0 → (z118a).toInt = 0 → (u_109_27).toInt + 1 ≤ (z70a).toInt := by exact fun h => absurd h (by decide)
                      have n57g : ((sI s118 128 z157.toNatClampNeg z170).2.2.1 109 23).toInt = 0 → LDQ (sI s118 128 z157.toNatClampNeg z170) ((sI s118 128 z157.toNatClampNeg z170).2.2.1 109 32).toNatClampNeg := by (intro hf; exfalso; have hg : (s118.2.2.1 109 23).toInt = 0 := hf; rw [← e118] at hg; have hn := n118; omega)
                      have n57h : ((sI s118 128 z157.toNatClampNeg z170).2.2.1 109 23).toInt = 0 → ((y57_2).toInt = 110 → 1 ≤ (z180).toInt → nq ((sI s118 128 z157.toNatClampNeg z170).1 128 (5 * ((sI s118 128 z157.toNatClampNeg z170).2.2.1 109 32).toNatClampNeg)) 0 25) ∧ ((y57_2).toInt = 97 → 5 ≤ (z180).toInt → nq ((sI s118 128 z157.toNatClampNeg z170).1 128 (5 * ((sI s118 128 z157.toNatClampNeg z170).2.2.1 109 32).toNatClampNeg + 4)) 0 25) := by (intro hf; exfalso; have hg : (s118.2.2.1 109 23).toInt = 0 := hf; rw [← e118] at hg; have hn := n118; omega)
                      have n57i : ((Int32.ofInt 1)).toInt = 0 → ((sI s118 128 z157.toNatClampNeg z170).2.2.1 109 23).toInt = 0 → ((y57_2).toInt = 110 → 1 ≤ (z180).toInt) ∧ ((y57_2).toInt = 97 → 5 ≤ (z180).toInt) := by exact fun h => absurd h (by decide)
                      have n57j : C4 (y57_2).toInt ∧ (y57_2) = s.2.2.1 109 30 ∧ (s.2.2.1 109 28).toInt = 1 ∧ (y57_1) = s.2.2.1 109 29 := by exact g57_3
                      have n57k : (sI s118 128 z157.toNatClampNeg z170).1 110 = s.1 110 ∧ (sI s118 128 z157.toNatClampNeg z170).1 112 = s.1 112 ∧ (sI s118 128 z157.toNatClampNeg z170).1 127 = s.1 127 ∧ (∀ j, j < 5 * (s.2.2.1 109 32).toNatClampNeg → (sI s118 128 z157.toNatClampNeg z170).1 128 j = s.1 128 j) ∧ (sI s118 128 z157.toNatClampNeg z170).2.2.1 109 32 = s.2.2.1 109 32 := by (try clear hp76); exfalso; have hn := n118; have a0 := oa12 ro_109_22 ro_109_9 ((inv_F hIc57 0 500 rfl v57_109_32)) i66 ((inv_F hIc57 0 1000 rfl v57_109_27)) i59 j57_3 j57_2 j57_1 i161 ((in_c 1 rfl)) i57; have a12 := t_add e180 j57_3 (in_c 1 rfl) rfl; have a13 := oa4 i138 i115 i70a i179; have a17 := t_add e157 i155 j57_3 rfl; have a18 := in_u i155; have a19 := (t_mulc 5 (Or.inl e155) (inv_F hIc57 0 500 rfl v57_109_32) rfl).1; have oc := oc_304_109; omega
                      have n57l : HQ5 s (sI s118 128 z157.toNatClampNeg z170) ((y57_2).toInt - 97) (z180) ((Int32.ofInt 1)) (z70a).toInt.toNat := by (try clear hp76); exfalso; have hn := n118; have a0 := oa12 ro_109_22 ro_109_9 ((inv_F hIc57 0 500 rfl v57_109_32)) i66 ((inv_F hIc57 0 1000 rfl v57_109_27)) i59 j57_3 j57_2 j57_1 i161 ((in_c 1 rfl)) i57; have a12 := t_add e180 j57_3 (in_c 1 rfl) rfl; have a13 := oa4 i138 i115 i70a i179; have a17 := t_add e157 i155 j57_3 rfl; have a18 := in_u i155; have a19 := (t_mulc 5 (Or.inl e155) (inv_F hIc57 0 500 rfl v57_109_32) rfl).1; have oc := oc_304_109; omega
                      have n57m : HQ6 s (sI s118 128 z157.toNatClampNeg z170) ((y57_2).toInt - 97) ((Int32.ofInt 1)) (z70a).toInt.toNat := by (try clear hp76); exfalso; have hn := n118; have a0 := oa12 ro_109_22 ro_109_9 ((inv_F hIc57 0 500 rfl v57_109_32)) i66 ((inv_F hIc57 0 1000 rfl v57_109_27)) i59 j57_3 j57_2 j57_1 i161 ((in_c 1 rfl)) i57; have a12 := t_add e180 j57_3 (in_c 1 rfl) rfl; have a13 := oa4 i138 i115 i70a i179; have a17 := t_add e157 i155 j57_3 rfl; have a18 := in_u i155; have a19 := (t_mulc 5 (Or.inl e155) (inv_F hIc57 0 500 rfl v57_109_32) rfl).1; have oc := oc_304_109; omega
                      have n57n : HQ7 s (sI s118 128 z157.toNatClampNeg z170) ((y57_2).toInt - 97) := by (try clear hp76); exfalso; have hn := n118; have a0 := oa12 ro_109_22 ro_109_9 ((inv_F hIc57 0 500 rfl v57_109_32)) i66 ((inv_F hIc57 0 1000 rfl v57_109_27)) i59 j57_3 j57_2 j57_1 i161 ((in_c 1 rfl)) i57; have a12 := t_add e180 j57_3 (in_c 1 rfl) rfl; have a13 := oa4 i138 i115 i70a i179; have a17 := t_add e157 i155 j57_3 rfl; have a18 := in_u i155; have a19 := (t_mulc 5 (Or.inl e155) (inv_F hIc57 0 500 rfl v57_109_32) rfl).1; have oc := oc_304_109; omega
                      have m57 : 100 - 10 * (z180).toInt + 5 * ((Int32.ofInt 1)).toInt + 9 - (z118a).toInt < ((k57 : Nat) : Int) := by have a0 := oa12 ro_109_22 ro_109_9 ((inv_F hIc57 0 500 rfl v57_109_32)) i66 ((inv_F hIc57 0 1000 rfl v57_109_27)) i59 j57_3 j57_2 j57_1 i161 ((in_c 1 rfl)) i57; have a12 := t_add e180 j57_3 (in_c 1 rfl) rfl; have a13 := oa4 i138 i115 i70a i179; have a17 := t_add e157 i155 j57_3 rfl; have a18 := in_u i155; have a19 := (t_mulc 5 (Or.inl e155) (inv_F hIc57 0 500 rfl v57_109_32) rfl).1; have oc := oc_304_109; omega
                      exact gg_w (by first | exact Nat.le_add_right _ _ | exact gw2 | exact gw3 | exact gwe rfl | exact gwf rfl | exact gwg rfl | exact gwh rfl | omega) (gg_f (gf_cons rfl (gf_cons rfl (gf_cons rfl (gf_cons rfl (gf_cons rfl gf_nil))))) (ih57  (sI s118 128 z157.toNatClampNeg z170) y57_1 y57_2 z180 (Int32.ofInt 1) z70a z118a w57_109_32 hI179 (fr_sI rfl (fr_tr rfl (fr_tr rfl hFc57 hF70) hF118)) (in_w 0 1000 j57_1 rfl) (in_w 97 119 j57_2 rfl) i57 (in_w 0 1 (in_c 1 rfl) rfl) v57 v57a v57b n57 n57a n57b n57c n57d n57e n57f n57g n57h n57i n57j n57k n57l n57m n57n m57))
            · skip
              have i94 := r_eq1 1 3 c94 (i_rng z70b) i76 rfl
              refine g_iload 99 (gd rfl) rfl rfl ?_
              refine g_iconst 3 100 (gd rfl) rfl rfl ?_
              refine g_cmp_ne 103 121 (gd rfl) rfl rfl (fun c100 => ?_) (fun c100 => ?_)
              · skip
                have i100 := r_ne1 1 2 c100 i76 (in_c 3 rfl) rfl
                refine g_iload 123 (gd rfl) rfl rfl ?_
                refine g_iconst 3 124 (gd rfl) rfl rfl ?_
                refine g_cmp_eq 127 131 (gd rfl) rfl rfl (fun c124 => ?_) (fun c124 => ?_)
                · skip
                  exact absurd c124 c100
                · skip
                  refine g_iconst 1 128 (gd rfl) rfl rfl ?_
                  refine g_goto 132 (gd rfl) rfl ?_
                  refine g_istore 134 (gd rfl) rfl (Nat.le_of_ble_eq_true rfl) ?_
                  refine g_aload_n 135 (gd rfl) rfl rfl ?_
                  refine g_getI 138 (gd rfl) rfl rfl rfl (fun z135 e135 => ?_)
                  have q135 : z82 = z135 := (e82).trans e135.symm
                  subst q135
                  refine g_if_ne 141 183 (gd rfl) rfl rfl (fun c138 => ?_) (fun c138 => ?_)
                  · skip
                    exact zn_ne c138 i85 rfl
                  · skip
                    refine g_iload 143 (gd rfl) rfl rfl ?_
                    refine g_if_eq 146 183 (gd rfl) rfl rfl (fun c143 => ?_) (fun c143 => ?_)
                    · skip
                      exact zn_eq c143 (in_c 1 rfl) rfl
                    · skip
                      refine g_aload_n 147 (gd rfl) rfl rfl ?_
                      refine g_getA (q2 := 128) 150 (gd rfl) rfl rfl rfl rfl ?_
                      refine g_iconst 5 151 (gd rfl) rfl rfl ?_
                      refine g_aload_n 152 (gd rfl) rfl rfl ?_
                      refine g_getI 155 (gd rfl) rfl rfl rfl (fun z152 e152 => ?_)
                      have q152 : w57_109_32 = z152 := (fr_F (v57_109_32) hF70 rfl).trans e152.symm
                      subst q152
                      refine g_imul 156 (gd rfl) rfl (fun z155 e155 => ?_)
                      have i155 := in_mulc 5 0 2500 (Or.inl e155) (inv_F hIc57 0 500 rfl v57_109_32) rfl rfl
                      refine g_iload_n 157 (gd rfl) rfl rfl ?_
                      refine g_iadd 158 (gd rfl) rfl (fun z157 e157 => ?_)
                      have i157 := in_add 0 2505 e157 i155 j57_3 rfl rfl
                      refine g_iload 160 (gd rfl) rfl rfl ?_
                      refine g_iconst 1 161 (gd rfl) rfl rfl ?_
                      refine g_cmp_ne 164 174 (gd rfl) rfl rfl (fun c161 => ?_) (fun c161 => ?_)
                      · skip
                        have i161 := r_ne1 2 2 c161 i100 (in_c 1 rfl) rfl
                        refine g_aload_n 175 (gd rfl) rfl rfl ?_
                        refine g_getL 178 (gd rfl) rfl rfl rfl (fun z175 e175 => ?_)
                        refine g_l2i 179 (gd rfl) rfl (fun z178 e178 => ?_)
                        have i179 : In z157 0 2499 := by have a0 := oa15 ro_109_22 ro_109_9 ((inv_F hIc57 0 500 rfl v57_109_32)) i66 ((inv_F hIc57 0 1000 rfl v57_109_27)) i59 j57_3 j57_2 j57_1 i161 ((in_c 1 rfl)) i85 i94 i70a i157; have a15 := t_add e157 i155 j57_3 rfl; have a16 := in_u i155; have a17 := (t_mulc 5 (Or.inl e155) (inv_F hIc57 0 500 rfl v57_109_32) rfl).1; have oc := oc_304_109; exact ⟨by omega, by omega⟩
                        refine g_iastore 180 (gd rfl) rfl (n := 2500) rfl (in_ix i179 rfl) ?_
                        have hI179 := inv_sI (q := 128) (j := z157.toNatClampNeg) hI70 rfl (in_w (-2147483648) 2147483647 (i_rng z178) rfl)
                        refine g_iinc 183 (gd rfl) rfl rfl (Nat.le_of_ble_eq_true rfl) (fun z180 e180 => ?_)
                        have i180 := in_add 1 6 e180 j57_3 (in_c 1 rfl) rfl rfl
                        refine g_goto 57 (gd rfl) rfl ?_
                        have i57 : In z180 0 5 := by exact ⟨by have a0 := oa12 ro_109_22 ro_109_9 ((inv_F hIc57 0 500 rfl v57_109_32)) i66 ((inv_F hIc57 0 1000 rfl v57_109_27)) i59 j57_3 j57_2 j57_1 i161 ((in_c 1 rfl)) i180; have a12 := t_add e180 j57_3 (in_c 1 rfl) rfl; have a13 := oa4 i85 i94 i70a i179; have a17 := t_add e157 i155 j57_3 rfl; have a18 := in_u i155; have a19 := (t_mulc 5 (Or.inl e155) (inv_F hIc57 0 500 rfl v57_109_32) rfl).1; have oc := oc_304_109; omega, by have a0 := oa12 ro_109_22 ro_109_9 ((inv_F hIc57 0 500 rfl v57_109_32)) i66 ((inv_F hIc57 0 1000 rfl v57_109_27)) i59 j57_3 j57_2 j57_1 i161 ((in_c 1 rfl)) i180; have a12 := t_add e180 j57_3 (in_c 1 rfl) rfl; have a13 := oa4 i85 i94 i70a i179; have a17 := t_add e157 i155 j57_3 rfl; have a18 := in_u i155; have a19 := (t_mulc 5 (Or.inl e155) (inv_F hIc57 0 500 rfl v57_109_32) rfl).1; have oc := oc_304_109; omega⟩
                        have v57 : z70a = (sI s70 128 z157.toNatClampNeg z178).2.2.1 109 27 := sI_F (e70)
                        have v57a : z82 = (sI s70 128 z157.toNatClampNeg z178).2.2.1 109 23 := sI_F (e82)
                        have v57b : w57_109_32 = (sI s70 128 z157.toNatClampNeg z178).2.2.1 109 32 := sI_F (fr_F (v57_109_32) hF70 rfl)
                        have n57 : (z70a).toInt ≤ (u_109_22).toInt := by have a0 := oa12 ro_109_22 ro_109_9 ((inv_F hIc57 0 500 rfl v57_109_32)) i66 ((inv_F hIc57 0 1000 rfl v57_109_27)) i59 j57_3 j57_2 j57_1 i161 ((in_c 1 rfl)) i57; have a12 := t_add e180 j57_3 (in_c 1 rfl) rfl; have a13 := oa4 i85 i94 i70a i179; have a17 := t_add e157 i155 j57_3 rfl; have a18 := in_u i155; have a19 := (t_mulc 5 (Or.inl e155) (inv_F hIc57 0 500 rfl v57_109_32) rfl).1; have oc := oc_304_109; omega
                        have n57a : (u_109_27).toInt ≤ (z70a).toInt := by have a0 := oa12 ro_109_22 ro_109_9 ((inv_F hIc57 0 500 rfl v57_109_32)) i66 ((inv_F hIc57 0 1000 rfl v57_109_27)) i59 j57_3 j57_2 j57_1 i161 ((in_c 1 rfl)) i57; have a12 := t_add e180 j57_3 (in_c 1 rfl) rfl; have a13 := oa4 i85 i94 i70a i179; have a17 := t_add e157 i155 j57_3 rfl; have a18 := in_u i155; have a19 := (t_mulc 5 (Or.inl e155) (inv_F hIc57 0 500 rfl v57_109_32) rfl).1; have oc := oc_304_109; omega
                        have n57b : 3 * (w57_109_32).toInt + 1 + (z180).toInt ≤ (z70a).toInt := by have a0 := oa12 ro_109_22 ro_109_9 ((inv_F hIc57 0 500 rfl v57_109_32)) i66 ((inv_F hIc57 0 1000 rfl v57_109_27)) i59 j57_3 j57_2 j57_1 i161 ((in_c 1 rfl)) i57; have a12 := t_add e180 j57_3 (in_c 1 rfl) rfl; have a13 := oa4 i85 i94 i70a i179; have a17 := t_add e157 i155 j57_3 rfl; have a18 := in_u i155; have a19 := (t_mulc 5 (Or.inl e155) (inv_F hIc57 0 500 rfl v57_109_32) rfl).1; have oc := oc_304_109; omega
                        have n57c : ((Int32.ofInt 1)).toInt = 0 → (z82).toInt = 0 → 3 * (w57_109_32).toInt + 3 ≤ (z70a).toInt := by exact fun h => absurd h (by decide)
                        have n57d : ((Int32.ofInt 1)).toInt ≠ 0 → 0 ≤ (z180).toInt := by have a0 := oa12 ro_109_22 ro_109_9 ((inv_F hIc57 0 500 rfl v57_109_32)) i66 ((inv_F hIc57 0 1000 rfl v57_109_27)) i59 j57_3 j57_2 j57_1 i161 ((in_c 1 rfl)) i57; have a12 := t_add e180 j57_3 (in_c 1 rfl) rfl; have a13 := oa4 i85 i94 i70a i179; have a17 := t_add e157 i155 j57_3 rfl; have a18 := in_u i155; have a19 := (t_mulc 5 (Or.inl e155) (inv_F hIc57 0 500 rfl v57_109_32) rfl).1; have oc := oc_304_109; omega
                        have n57e : (u_109_27).toInt + (z180).toInt ≤ (z70a).toInt := by have a0 := oa12 ro_109_22 ro_109_9 ((inv_F hIc57 0 500 rfl v57_109_32)) i66 ((inv_F hIc57 0 1000 rfl v57_109_27)) i59 j57_3 j57_2 j57_1 i161 ((in_c 1 rfl)) i57; have a12 := t_add e180 j57_3 (in_c 1 rfl) rfl; have a13 := oa4 i85 i94 i70a i179; have a17 := t_add e157 i155 j57_3 rfl; have a18 := in_u i155; have a19 := (t_mulc 5 (Or.inl e155) (inv_F hIc57 0 500 rfl v57_109_32) rfl).1; have oc := oc_304_109; omega
                        have n57f : ((Int32.ofInt 1)).toInt = 0 → (z82).toInt = 0 → (u_109_27).toInt + 1 ≤ (z70a).toInt := by exact fun h => absurd h (by decide)
                        have n57g : ((sI s70 128 z157.toNatClampNeg z178).2.2.1 109 23).toInt = 0 → LDQ (sI s70 128 z157.toNatClampNeg z178) ((sI s70 128 z157.toNatClampNeg z178).2.2.1 109 32).toNatClampNeg := by (intro _; have hcm : w57_109_32.toNatClampNeg = (sc57.2.2.1 109 32).toNatClampNeg := (by rw [v57_109_32]); have r152 := inv_F hIc57 0 500 rfl v57_109_32; unfold In at r152; have r3 := j57_3; unfold In at r3; have e5 : z155.toInt = 5 * w57_109_32.toInt := (by have a0 := oa12 ro_109_22 ro_109_9 ((inv_F hIc57 0 500 rfl v57_109_32)) i66 ((inv_F hIc57 0 1000 rfl v57_109_27)) i59 j57_3 j57_2 j57_1 i161 ((in_c 1 rfl)) i57; have a12 := t_add e180 j57_3 (in_c 1 rfl) rfl; have a13 := oa4 i85 i94 i70a i179; have a17 := t_add e157 i155 j57_3 rfl; have a18 := in_u i155; have a19 := (t_mulc 5 (Or.inl e155) (inv_F hIc57 0 500 rfl v57_109_32) rfl).1; have oc := oc_304_109; omega); have hix : z157.toNatClampNeg = 5 * (sc57.2.2.1 109 32).toNatClampNeg + y57_3.toNatClampNeg := (by rw [← hcm]; show z157.toInt.toNat = 5 * w57_109_32.toInt.toNat + y57_3.toInt.toNat; have a0 := oa12 ro_109_22 ro_109_9 ((inv_F hIc57 0 500 rfl v57_109_32)) i66 ((inv_F hIc57 0 1000 rfl v57_109_27)) i59 j57_3 j57_2 j57_1 i161 ((in_c 1 rfl)) i57; have a12 := t_add e180 j57_3 (in_c 1 rfl) rfl; have a13 := oa4 i85 i94 i70a i179; have a17 := t_add e157 i155 j57_3 rfl; have a18 := in_u i155; have a19 := (t_mulc 5 (Or.inl e155) (inv_F hIc57 0 500 rfl v57_109_32) rfl).1; have oc := oc_304_109; omega); have ey3 : y57_3.toNatClampNeg = y57_3.toInt.toNat := rfl; rw [show ((sI s70 128 z157.toNatClampNeg z178)).2.2.1 109 32 = sc57.2.2.1 109 32 from hF70.2.2.1 109 32 rfl]; exact ldq_cg (g57_0 (by rw [← v57_109_23]; exact c66)) ((sI_p rfl).trans (hF70.1 110 rfl)) ((sI_p rfl).trans (hF70.1 112 rfl)) (fun j _ => by rw [sI_p rfl, hF70.1 127 rfl]) (fun j hj => by rw [sI_q, up_n (by omega), hF70.1 128 rfl]))
                        have n57h : ((sI s70 128 z157.toNatClampNeg z178).2.2.1 109 23).toInt = 0 → ((y57_2).toInt = 110 → 1 ≤ (z180).toInt → nq ((sI s70 128 z157.toNatClampNeg z178).1 128 (5 * ((sI s70 128 z157.toNatClampNeg z178).2.2.1 109 32).toNatClampNeg)) 0 25) ∧ ((y57_2).toInt = 97 → 5 ≤ (z180).toInt → nq ((sI s70 128 z157.toNatClampNeg z178).1 128 (5 * ((sI s70 128 z157.toNatClampNeg z178).2.2.1 109 32).toNatClampNeg + 4)) 0 25) := by (intro _; have hp := p76; unfold SHP at hp; have h3 := c124; have h161 := c161; have hk0 : z180.toInt = y57_3.toInt + 1 := (by have a0 := in_u ro_109_22; have a1 := in_u ro_109_9; have a2 := in_u ((inv_F hIc57 0 500 rfl v57_109_32)); have a3 := in_u i66; have a4 := in_u ((inv_F hIc57 0 1000 rfl v57_109_27)); have a5 := in_u i59; have a6 := in_u j57_3; have a7 := in_u j57_2; have a8 := in_u j57_1; have a9 := in_u i161; have a10 := in_u ((in_c 1 rfl)); have a11 := in_u i57; have a12 := t_add e180 j57_3 (in_c 1 rfl) rfl; have a13 := in_u i85; have a14 := in_u i94; have a15 := in_u i70a; have a16 := in_u i179; have a17 := t_add e157 i155 j57_3 rfl; have a18 := in_u i155; have a19 := (t_mulc 5 (Or.inl e155) (inv_F hIc57 0 500 rfl v57_109_32) rfl).1; have oc := oc_304_109; omega); have h13 : (Int32.ofInt 3).toInt = 3 := rfl; have h11 : (Int32.ofInt 1).toInt = 1 := rfl; exact ⟨fun a1 b1 => (by exfalso; have q := hp.1 a1; have r3 := j57_3; unfold In at r3; omega), fun a1 b1 => (by exfalso; have q := hp.2.1 a1; have r3 := j57_3; unfold In at r3; omega)⟩)
                        have n57i : ((Int32.ofInt 1)).toInt = 0 → ((sI s70 128 z157.toNatClampNeg z178).2.2.1 109 23).toInt = 0 → ((y57_2).toInt = 110 → 1 ≤ (z180).toInt) ∧ ((y57_2).toInt = 97 → 5 ≤ (z180).toInt) := by exact fun h => absurd h (by decide)
                        have n57j : C4 (y57_2).toInt ∧ (y57_2) = s.2.2.1 109 30 ∧ (s.2.2.1 109 28).toInt = 1 ∧ (y57_1) = s.2.2.1 109 29 := by exact g57_3
                        have n57k : (sI s70 128 z157.toNatClampNeg z178).1 110 = s.1 110 ∧ (sI s70 128 z157.toNatClampNeg z178).1 112 = s.1 112 ∧ (sI s70 128 z157.toNatClampNeg z178).1 127 = s.1 127 ∧ (∀ j, j < 5 * (s.2.2.1 109 32).toNatClampNeg → (sI s70 128 z157.toNatClampNeg z178).1 128 j = s.1 128 j) ∧ (sI s70 128 z157.toNatClampNeg z178).2.2.1 109 32 = s.2.2.1 109 32 := by (try clear hp76); have hcm_ : w57_109_32.toNatClampNeg = (sc57.2.2.1 109 32).toNatClampNeg := (by rw [v57_109_32]); have r152 := inv_F hIc57 0 500 rfl v57_109_32; unfold In at r152; have r3 := j57_3; unfold In at r3; have e5 : z155.toInt = 5 * w57_109_32.toInt := (by have a0 := oa12 ro_109_22 ro_109_9 ((inv_F hIc57 0 500 rfl v57_109_32)) i66 ((inv_F hIc57 0 1000 rfl v57_109_27)) i59 j57_3 j57_2 j57_1 i161 ((in_c 1 rfl)) i57; have a12 := t_add e180 j57_3 (in_c 1 rfl) rfl; have a13 := oa4 i85 i94 i70a i179; have a17 := t_add e157 i155 j57_3 rfl; have a18 := in_u i155; have a19 := (t_mulc 5 (Or.inl e155) (inv_F hIc57 0 500 rfl v57_109_32) rfl).1; have oc := oc_304_109; omega); have hix : z157.toNatClampNeg = 5 * (sc57.2.2.1 109 32).toNatClampNeg + y57_3.toNatClampNeg := (by rw [← hcm_]; show z157.toInt.toNat = 5 * w57_109_32.toInt.toNat + y57_3.toInt.toNat; have a0 := oa12 ro_109_22 ro_109_9 ((inv_F hIc57 0 500 rfl v57_109_32)) i66 ((inv_F hIc57 0 1000 rfl v57_109_27)) i59 j57_3 j57_2 j57_1 i161 ((in_c 1 rfl)) i57; have a12 := t_add e180 j57_3 (in_c 1 rfl) rfl; have a13 := oa4 i85 i94 i70a i179; have a17 := t_add e157 i155 j57_3 rfl; have a18 := in_u i155; have a19 := (t_mulc 5 (Or.inl e155) (inv_F hIc57 0 500 rfl v57_109_32) rfl).1; have oc := oc_304_109; omega); have ey3 : y57_3.toNatClampNeg = y57_3.toInt.toNat := rfl; have hcm : (sc57.2.2.1 109 32).toNatClampNeg = (s.2.2.1 109 32).toNatClampNeg := (by rw [g57_4.2.2.2.2]); exact ⟨(sI_p rfl).trans ((hF70.1 110 rfl).trans g57_4.1), (sI_p rfl).trans ((hF70.1 112 rfl).trans g57_4.2.1), (sI_p rfl).trans ((hF70.1 127 rfl).trans g57_4.2.2.1), fun j hj => by rw [sI_q, ug_ne (by rw [hix, hcm]; omega), hF70.1 128 rfl]; exact g57_4.2.2.2.1 j hj, (hF70.2.2.1 109 32 rfl).trans g57_4.2.2.2.2⟩
                        have n57l : HQ5 s (sI s70 128 z157.toNatClampNeg z178) ((y57_2).toInt - 97) (z180) ((Int32.ofInt 1)) (z70a).toInt.toNat := by (try clear hp76); obtain ⟨k, v, ht, hn⟩ := p70; rw [show sc57.1 125 = s.1 125 from hFc57.1 125 rfl, show sc57.2.2.1 109 22 = s.2.2.1 109 22 from hFc57.2.2.1 109 22 rfl, ← v57_109_27] at ht; have hv := (ntk_f hn (by rw [← v57_109_23]; exact c66)).2 (by rw [← e82]; exact c85); have htk := ntv_t hv (tkn_e ht).2.2.2.2.1 (tkn_e ht).2.2.2.2.2; rw [← e70a] at htk; have hkz : k = z76.toInt := htk.symm.trans c94; have hcm_ : w57_109_32.toNatClampNeg = (sc57.2.2.1 109 32).toNatClampNeg := (by rw [v57_109_32]); have r152 := inv_F hIc57 0 500 rfl v57_109_32; unfold In at r152; have r3 := j57_3; unfold In at r3; have e5 : z155.toInt = 5 * w57_109_32.toInt := (by have a0 := oa12 ro_109_22 ro_109_9 ((inv_F hIc57 0 500 rfl v57_109_32)) i66 ((inv_F hIc57 0 1000 rfl v57_109_27)) i59 j57_3 j57_2 j57_1 i161 ((in_c 1 rfl)) i57; have a12 := t_add e180 j57_3 (in_c 1 rfl) rfl; have a13 := oa4 i85 i94 i70a i179; have a17 := t_add e157 i155 j57_3 rfl; have a18 := in_u i155; have a19 := (t_mulc 5 (Or.inl e155) (inv_F hIc57 0 500 rfl v57_109_32) rfl).1; have oc := oc_304_109; omega); have hix : z157.toNatClampNeg = 5 * (sc57.2.2.1 109 32).toNatClampNeg + y57_3.toNatClampNeg := (by rw [← hcm_]; show z157.toInt.toNat = 5 * w57_109_32.toInt.toNat + y57_3.toInt.toNat; have a0 := oa12 ro_109_22 ro_109_9 ((inv_F hIc57 0 500 rfl v57_109_32)) i66 ((inv_F hIc57 0 1000 rfl v57_109_27)) i59 j57_3 j57_2 j57_1 i161 ((in_c 1 rfl)) i57; have a12 := t_add e180 j57_3 (in_c 1 rfl) rfl; have a13 := oa4 i85 i94 i70a i179; have a17 := t_add e157 i155 j57_3 rfl; have a18 := in_u i155; have a19 := (t_mulc 5 (Or.inl e155) (inv_F hIc57 0 500 rfl v57_109_32) rfl).1; have oc := oc_304_109; omega); have ey3 : y57_3.toNatClampNeg = y57_3.toInt.toNat := rfl; rw [(show z70a = (sI s70 128 z157.toNatClampNeg z178).2.2.1 109 27 from sI_F (e70))]; exact hq5_s (by rw [← v57_109_23]; exact c66) c59 g57_5 g57_3.1 g57_4.2.2.2.2 ht p76a hkz (in_ne3 i161 rfl) j57_3.1 (by have a0 := oa12 ro_109_22 ro_109_9 ((inv_F hIc57 0 500 rfl v57_109_32)) i66 ((inv_F hIc57 0 1000 rfl v57_109_27)) i59 j57_3 j57_2 j57_1 i161 ((in_c 1 rfl)) i57; have a12 := t_add e180 j57_3 (in_c 1 rfl) rfl; have a13 := oa4 i85 i94 i70a i179; have a17 := t_add e157 i155 j57_3 rfl; have a18 := in_u i155; have a19 := (t_mulc 5 (Or.inl e155) (inv_F hIc57 0 500 rfl v57_109_32) rfl).1; have oc := oc_304_109; omega) hix (by have hk2 : k = 2 := hkz.trans (in_at i161); have q9 := (hv.2.2.1 hk2).2; rw [l2i_v e178 (by rw [e175, q9]; exact tkn_v2 ht hk2), e175, q9]) (hF70.1 128 rfl)
                        have n57m : HQ6 s (sI s70 128 z157.toNatClampNeg z178) ((y57_2).toInt - 97) ((Int32.ofInt 1)) (z70a).toInt.toNat := by intro _ h; exact absurd h (by decide)
                        have n57n : HQ7 s (sI s70 128 z157.toNatClampNeg z178) ((y57_2).toInt - 97) := by intro hf; exfalso; exact hf (by show (s70.2.2.1 109 23).toInt = 0; rw [← e82]; exact c85)
                        have m57 : 100 - 10 * (z180).toInt + 5 * ((Int32.ofInt 1)).toInt + 9 - (z82).toInt < ((k57 : Nat) : Int) := by have a0 := oa12 ro_109_22 ro_109_9 ((inv_F hIc57 0 500 rfl v57_109_32)) i66 ((inv_F hIc57 0 1000 rfl v57_109_27)) i59 j57_3 j57_2 j57_1 i161 ((in_c 1 rfl)) i57; have a12 := t_add e180 j57_3 (in_c 1 rfl) rfl; have a13 := oa4 i85 i94 i70a i179; have a17 := t_add e157 i155 j57_3 rfl; have a18 := in_u i155; have a19 := (t_mulc 5 (Or.inl e155) (inv_F hIc57 0 500 rfl v57_109_32) rfl).1; have oc := oc_304_109; omega
                        exact gg_w (by first | exact Nat.le_add_right _ _ | exact gw2 | exact gw3 | exact gwe rfl | exact gwf rfl | exact gwg rfl | exact gwh rfl | omega) (gg_f (gf_cons rfl (gf_cons rfl (gf_cons rfl (gf_cons rfl (gf_cons rfl gf_nil))))) (ih57  (sI s70 128 z157.toNatClampNeg z178) y57_1 y57_2 z180 (Int32.ofInt 1) z70a z82 w57_109_32 hI179 (fr_sI rfl (fr_tr rfl hFc57 hF70)) (in_w 0 1000 j57_1 rfl) (in_w 97 119 j57_2 rfl) i57 (in_w 0 1 (in_c 1 rfl) rfl) v57 v57a v57b n57 n57a n57b n57c n57d n57e n57f n57g n57h n57i n57j n57k n57l n57m n57n m57))
                      · skip
                        have i161 := r_eq1 1 1 c161 i100 (in_c 1 rfl) rfl
                        refine g_aload_n 165 (gd rfl) rfl rfl ?_
                        refine g_getI 168 (gd rfl) rfl rfl rfl (fun z165 e165 => ?_)
                        have q165 : z70c = z165 := (e70b).trans e165.symm
                        subst q165
                        refine g_bipush 97 170 (gd rfl) rfl rfl ?_
                        refine g_isub 171 (gd rfl) rfl (fun z170 e170 => ?_)
                        refine g_goto 179 (gd rfl) rfl ?_
                        have i179 : In z157 0 2499 := by have a0 := oa15 ro_109_22 ro_109_9 ((inv_F hIc57 0 500 rfl v57_109_32)) i66 ((inv_F hIc57 0 1000 rfl v57_109_27)) i59 j57_3 j57_2 j57_1 i161 ((in_c 1 rfl)) i85 i94 i70a i157; have a15 := t_add e157 i155 j57_3 rfl; have a16 := in_u i155; have a17 := (t_mulc 5 (Or.inl e155) (inv_F hIc57 0 500 rfl v57_109_32) rfl).1; have oc := oc_304_109; exact ⟨by omega, by omega⟩
                        refine g_iastore 180 (gd rfl) rfl (n := 2500) rfl (in_ix i179 rfl) ?_
                        have hI179 := inv_sI (q := 128) (j := z157.toNatClampNeg) hI70 rfl (in_w (-2147483648) 2147483647 (i_rng z170) rfl)
                        refine g_iinc 183 (gd rfl) rfl rfl (Nat.le_of_ble_eq_true rfl) (fun z180 e180 => ?_)
                        have i180 := in_add 1 6 e180 j57_3 (in_c 1 rfl) rfl rfl
                        refine g_goto 57 (gd rfl) rfl ?_
                        have i57 : In z180 0 5 := by exact ⟨by have a0 := oa12 ro_109_22 ro_109_9 ((inv_F hIc57 0 500 rfl v57_109_32)) i66 ((inv_F hIc57 0 1000 rfl v57_109_27)) i59 j57_3 j57_2 j57_1 i161 ((in_c 1 rfl)) i180; have a12 := t_add e180 j57_3 (in_c 1 rfl) rfl; have a13 := oa4 i85 i94 i70a i179; have a17 := t_add e157 i155 j57_3 rfl; have a18 := in_u i155; have a19 := (t_mulc 5 (Or.inl e155) (inv_F hIc57 0 500 rfl v57_109_32) rfl).1; have oc := oc_304_109; omega, by have a0 := oa12 ro_109_22 ro_109_9 ((inv_F hIc57 0 500 rfl v57_109_32)) i66 ((inv_F hIc57 0 1000 rfl v57_109_27)) i59 j57_3 j57_2 j57_1 i161 ((in_c 1 rfl)) i180; have a12 := t_add e180 j57_3 (in_c 1 rfl) rfl; have a13 := oa4 i85 i94 i70a i179; have a17 := t_add e157 i155 j57_3 rfl; have a18 := in_u i155; have a19 := (t_mulc 5 (Or.inl e155) (inv_F hIc57 0 500 rfl v57_109_32) rfl).1; have oc := oc_304_109; omega⟩
                        have v57 : z70a = (sI s70 128 z157.toNatClampNeg z170).2.2.1 109 27 := sI_F (e70)
                        have v57a : z82 = (sI s70 128 z157.toNatClampNeg z170).2.2.1 109 23 := sI_F (e82)
                        have v57b : w57_109_32 = (sI s70 128 z157.toNatClampNeg z170).2.2.1 109 32 := sI_F (fr_F (v57_109_32) hF70 rfl)
                        have n57 : (z70a).toInt ≤ (u_109_22).toInt := by have a0 := oa12 ro_109_22 ro_109_9 ((inv_F hIc57 0 500 rfl v57_109_32)) i66 ((inv_F hIc57 0 1000 rfl v57_109_27)) i59 j57_3 j57_2 j57_1 i161 ((in_c 1 rfl)) i57; have a12 := t_add e180 j57_3 (in_c 1 rfl) rfl; have a13 := oa4 i85 i94 i70a i179; have a17 := t_add e157 i155 j57_3 rfl; have a18 := in_u i155; have a19 := (t_mulc 5 (Or.inl e155) (inv_F hIc57 0 500 rfl v57_109_32) rfl).1; have oc := oc_304_109; omega
                        have n57a : (u_109_27).toInt ≤ (z70a).toInt := by have a0 := oa12 ro_109_22 ro_109_9 ((inv_F hIc57 0 500 rfl v57_109_32)) i66 ((inv_F hIc57 0 1000 rfl v57_109_27)) i59 j57_3 j57_2 j57_1 i161 ((in_c 1 rfl)) i57; have a12 := t_add e180 j57_3 (in_c 1 rfl) rfl; have a13 := oa4 i85 i94 i70a i179; have a17 := t_add e157 i155 j57_3 rfl; have a18 := in_u i155; have a19 := (t_mulc 5 (Or.inl e155) (inv_F hIc57 0 500 rfl v57_109_32) rfl).1; have oc := oc_304_109; omega
                        have n57b : 3 * (w57_109_32).toInt + 1 + (z180).toInt ≤ (z70a).toInt := by have a0 := oa12 ro_109_22 ro_109_9 ((inv_F hIc57 0 500 rfl v57_109_32)) i66 ((inv_F hIc57 0 1000 rfl v57_109_27)) i59 j57_3 j57_2 j57_1 i161 ((in_c 1 rfl)) i57; have a12 := t_add e180 j57_3 (in_c 1 rfl) rfl; have a13 := oa4 i85 i94 i70a i179; have a17 := t_add e157 i155 j57_3 rfl; have a18 := in_u i155; have a19 := (t_mulc 5 (Or.inl e155) (inv_F hIc57 0 500 rfl v57_109_32) rfl).1; have oc := oc_304_109; omega
                        have n57c : ((Int32.ofInt 1)).toInt = 0 → (z82).toInt = 0 → 3 * (w57_109_32).toInt + 3 ≤ (z70a).toInt := by exact fun h => absurd h (by decide)
                        have n57d : ((Int32.ofInt 1)).toInt ≠ 0 → 0 ≤ (z180).toInt := by have a0 := oa12 ro_109_22 ro_109_9 ((inv_F hIc57 0 500 rfl v57_109_32)) i66 ((inv_F hIc57 0 1000 rfl v57_109_27)) i59 j57_3 j57_2 j57_1 i161 ((in_c 1 rfl)) i57; have a12 := t_add e180 j57_3 (in_c 1 rfl) rfl; have a13 := oa4 i85 i94 i70a i179; have a17 := t_add e157 i155 j57_3 rfl; have a18 := in_u i155; have a19 := (t_mulc 5 (Or.inl e155) (inv_F hIc57 0 500 rfl v57_109_32) rfl).1; have oc := oc_304_109; omega
                        have n57e : (u_109_27).toInt + (z180).toInt ≤ (z70a).toInt := by have a0 := oa12 ro_109_22 ro_109_9 ((inv_F hIc57 0 500 rfl v57_109_32)) i66 ((inv_F hIc57 0 1000 rfl v57_109_27)) i59 j57_3 j57_2 j57_1 i161 ((in_c 1 rfl)) i57; have a12 := t_add e180 j57_3 (in_c 1 rfl) rfl; have a13 := oa4 i85 i94 i70a i179; have a17 := t_add e157 i155 j57_3 rfl; have a18 := in_u i155; have a19 := (t_mulc 5 (Or.inl e155) (inv_F hIc57 0 500 rfl v57_109_32) rfl).1; have oc := oc_304_109; omega
                        have n57f : ((Int32.ofInt 1)).toInt = 0 → (z82).toInt = 0 → (u_109_27).toInt + 1 ≤ (z70a).toInt := by exact fun h => absurd h (by decide)
                        have n57g : ((sI s70 128 z157.toNatClampNeg z170).2.2.1 109 23).toInt = 0 → LDQ (sI s70 128 z157.toNatClampNeg z170) ((sI s70 128 z157.toNatClampNeg z170).2.2.1 109 32).toNatClampNeg := by (intro _; have hcm : w57_109_32.toNatClampNeg = (sc57.2.2.1 109 32).toNatClampNeg := (by rw [v57_109_32]); have r152 := inv_F hIc57 0 500 rfl v57_109_32; unfold In at r152; have r3 := j57_3; unfold In at r3; have e5 : z155.toInt = 5 * w57_109_32.toInt := (by have a0 := oa12 ro_109_22 ro_109_9 ((inv_F hIc57 0 500 rfl v57_109_32)) i66 ((inv_F hIc57 0 1000 rfl v57_109_27)) i59 j57_3 j57_2 j57_1 i161 ((in_c 1 rfl)) i57; have a12 := t_add e180 j57_3 (in_c 1 rfl) rfl; have a13 := oa4 i85 i94 i70a i179; have a17 := t_add e157 i155 j57_3 rfl; have a18 := in_u i155; have a19 := (t_mulc 5 (Or.inl e155) (inv_F hIc57 0 500 rfl v57_109_32) rfl).1; have oc := oc_304_109; omega); have hix : z157.toNatClampNeg = 5 * (sc57.2.2.1 109 32).toNatClampNeg + y57_3.toNatClampNeg := (by rw [← hcm]; show z157.toInt.toNat = 5 * w57_109_32.toInt.toNat + y57_3.toInt.toNat; have a0 := oa12 ro_109_22 ro_109_9 ((inv_F hIc57 0 500 rfl v57_109_32)) i66 ((inv_F hIc57 0 1000 rfl v57_109_27)) i59 j57_3 j57_2 j57_1 i161 ((in_c 1 rfl)) i57; have a12 := t_add e180 j57_3 (in_c 1 rfl) rfl; have a13 := oa4 i85 i94 i70a i179; have a17 := t_add e157 i155 j57_3 rfl; have a18 := in_u i155; have a19 := (t_mulc 5 (Or.inl e155) (inv_F hIc57 0 500 rfl v57_109_32) rfl).1; have oc := oc_304_109; omega); have ey3 : y57_3.toNatClampNeg = y57_3.toInt.toNat := rfl; rw [show ((sI s70 128 z157.toNatClampNeg z170)).2.2.1 109 32 = sc57.2.2.1 109 32 from hF70.2.2.1 109 32 rfl]; exact ldq_cg (g57_0 (by rw [← v57_109_23]; exact c66)) ((sI_p rfl).trans (hF70.1 110 rfl)) ((sI_p rfl).trans (hF70.1 112 rfl)) (fun j _ => by rw [sI_p rfl, hF70.1 127 rfl]) (fun j hj => by rw [sI_q, up_n (by omega), hF70.1 128 rfl]))
                        have n57h : ((sI s70 128 z157.toNatClampNeg z170).2.2.1 109 23).toInt = 0 → ((y57_2).toInt = 110 → 1 ≤ (z180).toInt → nq ((sI s70 128 z157.toNatClampNeg z170).1 128 (5 * ((sI s70 128 z157.toNatClampNeg z170).2.2.1 109 32).toNatClampNeg)) 0 25) ∧ ((y57_2).toInt = 97 → 5 ≤ (z180).toInt → nq ((sI s70 128 z157.toNatClampNeg z170).1 128 (5 * ((sI s70 128 z157.toNatClampNeg z170).2.2.1 109 32).toNatClampNeg + 4)) 0 25) := by (intro _; have hcm : w57_109_32.toNatClampNeg = (sc57.2.2.1 109 32).toNatClampNeg := (by rw [v57_109_32]); have r152 := inv_F hIc57 0 500 rfl v57_109_32; unfold In at r152; have r3 := j57_3; unfold In at r3; have e5 : z155.toInt = 5 * w57_109_32.toInt := (by have a0 := in_u ro_109_22; have a1 := in_u ro_109_9; have a2 := in_u ((inv_F hIc57 0 500 rfl v57_109_32)); have a3 := in_u i66; have a4 := in_u ((inv_F hIc57 0 1000 rfl v57_109_27)); have a5 := in_u i59; have a6 := in_u j57_3; have a7 := in_u j57_2; have a8 := in_u j57_1; have a9 := in_u i161; have a10 := in_u ((in_c 1 rfl)); have a11 := in_u i57; have a12 := t_add e180 j57_3 (in_c 1 rfl) rfl; have a13 := in_u i85; have a14 := in_u i94; have a15 := in_u i70a; have a16 := in_u i179; have a17 := t_add e157 i155 j57_3 rfl; have a18 := in_u i155; have a19 := (t_mulc 5 (Or.inl e155) (inv_F hIc57 0 500 rfl v57_109_32) rfl).1; have oc := oc_304_109; omega); have hix : z157.toNatClampNeg = 5 * (sc57.2.2.1 109 32).toNatClampNeg + y57_3.toNatClampNeg := (by rw [← hcm]; show z157.toInt.toNat = 5 * w57_109_32.toInt.toNat + y57_3.toInt.toNat; have a0 := in_u ro_109_22; have a1 := in_u ro_109_9; have a2 := in_u ((inv_F hIc57 0 500 rfl v57_109_32)); have a3 := in_u i66; have a4 := in_u ((inv_F hIc57 0 1000 rfl v57_109_27)); have a5 := in_u i59; have a6 := in_u j57_3; have a7 := in_u j57_2; have a8 := in_u j57_1; have a9 := in_u i161; have a10 := in_u ((in_c 1 rfl)); have a11 := in_u i57; have a12 := t_add e180 j57_3 (in_c 1 rfl) rfl; have a13 := in_u i85; have a14 := in_u i94; have a15 := in_u i70a; have a16 := in_u i179; have a17 := t_add e157 i155 j57_3 rfl; have a18 := in_u i155; have a19 := (t_mulc 5 (Or.inl e155) (inv_F hIc57 0 500 rfl v57_109_32) rfl).1; have oc := oc_304_109; omega); have ey3 : y57_3.toNatClampNeg = y57_3.toInt.toNat := rfl; have hp := p76; unfold SHP at hp; have h3 := c124; have h161 := c161; have hk0 : z180.toInt = y57_3.toInt + 1 := (by have a0 := in_u ro_109_22; have a1 := in_u ro_109_9; have a2 := in_u ((inv_F hIc57 0 500 rfl v57_109_32)); have a3 := in_u i66; have a4 := in_u ((inv_F hIc57 0 1000 rfl v57_109_27)); have a5 := in_u i59; have a6 := in_u j57_3; have a7 := in_u j57_2; have a8 := in_u j57_1; have a9 := in_u i161; have a10 := in_u ((in_c 1 rfl)); have a11 := in_u i57; have a12 := t_add e180 j57_3 (in_c 1 rfl) rfl; have a13 := in_u i85; have a14 := in_u i94; have a15 := in_u i70a; have a16 := in_u i179; have a17 := t_add e157 i155 j57_3 rfl; have a18 := in_u i155; have a19 := (t_mulc 5 (Or.inl e155) (inv_F hIc57 0 500 rfl v57_109_32) rfl).1; have oc := oc_304_109; omega); have h13 : (Int32.ofInt 3).toInt = 3 := rfl; have h11 : (Int32.ofInt 1).toInt = 1 := rfl; rw [show ((sI s70 128 z157.toNatClampNeg z170)).2.2.1 109 32 = sc57.2.2.1 109 32 from hF70.2.2.1 109 32 rfl, sI_q]; have hsg : 97 ≤ z70c.toInt ∧ z70c.toInt ≤ 122 := (by have q1 := n70d; have q2 := n70e; have hc := c94; omega); have hv : z170.toInt = z70c.toInt - 97 := t_s97 e170 hsg.1 hsg.2; exact ⟨fun a1 b1 => (by have q := hp.1 a1; rw [show 5 * (sc57.2.2.1 109 32).toNatClampNeg = z157.toNatClampNeg from (by omega), up_e]; exact ⟨by omega, by omega⟩), fun a1 b1 => (by have q := hp.2.1 a1; rw [show 5 * (sc57.2.2.1 109 32).toNatClampNeg + 4 = z157.toNatClampNeg from (by omega), up_e]; exact ⟨by omega, by omega⟩)⟩)
                        have n57i : ((Int32.ofInt 1)).toInt = 0 → ((sI s70 128 z157.toNatClampNeg z170).2.2.1 109 23).toInt = 0 → ((y57_2).toInt = 110 → 1 ≤ (z180).toInt) ∧ ((y57_2).toInt = 97 → 5 ≤ (z180).toInt) := by exact fun h => absurd h (by decide)
                        have n57j : C4 (y57_2).toInt ∧ (y57_2) = s.2.2.1 109 30 ∧ (s.2.2.1 109 28).toInt = 1 ∧ (y57_1) = s.2.2.1 109 29 := by exact g57_3
                        have n57k : (sI s70 128 z157.toNatClampNeg z170).1 110 = s.1 110 ∧ (sI s70 128 z157.toNatClampNeg z170).1 112 = s.1 112 ∧ (sI s70 128 z157.toNatClampNeg z170).1 127 = s.1 127 ∧ (∀ j, j < 5 * (s.2.2.1 109 32).toNatClampNeg → (sI s70 128 z157.toNatClampNeg z170).1 128 j = s.1 128 j) ∧ (sI s70 128 z157.toNatClampNeg z170).2.2.1 109 32 = s.2.2.1 109 32 := by (try clear hp76); have hcm_ : w57_109_32.toNatClampNeg = (sc57.2.2.1 109 32).toNatClampNeg := (by rw [v57_109_32]); have r152 := inv_F hIc57 0 500 rfl v57_109_32; unfold In at r152; have r3 := j57_3; unfold In at r3; have e5 : z155.toInt = 5 * w57_109_32.toInt := (by have a0 := oa12 ro_109_22 ro_109_9 ((inv_F hIc57 0 500 rfl v57_109_32)) i66 ((inv_F hIc57 0 1000 rfl v57_109_27)) i59 j57_3 j57_2 j57_1 i161 ((in_c 1 rfl)) i57; have a12 := t_add e180 j57_3 (in_c 1 rfl) rfl; have a13 := oa4 i85 i94 i70a i179; have a17 := t_add e157 i155 j57_3 rfl; have a18 := in_u i155; have a19 := (t_mulc 5 (Or.inl e155) (inv_F hIc57 0 500 rfl v57_109_32) rfl).1; have oc := oc_304_109; omega); have hix : z157.toNatClampNeg = 5 * (sc57.2.2.1 109 32).toNatClampNeg + y57_3.toNatClampNeg := (by rw [← hcm_]; show z157.toInt.toNat = 5 * w57_109_32.toInt.toNat + y57_3.toInt.toNat; have a0 := oa12 ro_109_22 ro_109_9 ((inv_F hIc57 0 500 rfl v57_109_32)) i66 ((inv_F hIc57 0 1000 rfl v57_109_27)) i59 j57_3 j57_2 j57_1 i161 ((in_c 1 rfl)) i57; have a12 := t_add e180 j57_3 (in_c 1 rfl) rfl; have a13 := oa4 i85 i94 i70a i179; have a17 := t_add e157 i155 j57_3 rfl; have a18 := in_u i155; have a19 := (t_mulc 5 (Or.inl e155) (inv_F hIc57 0 500 rfl v57_109_32) rfl).1; have oc := oc_304_109; omega); have ey3 : y57_3.toNatClampNeg = y57_3.toInt.toNat := rfl; have hcm : (sc57.2.2.1 109 32).toNatClampNeg = (s.2.2.1 109 32).toNatClampNeg := (by rw [g57_4.2.2.2.2]); exact ⟨(sI_p rfl).trans ((hF70.1 110 rfl).trans g57_4.1), (sI_p rfl).trans ((hF70.1 112 rfl).trans g57_4.2.1), (sI_p rfl).trans ((hF70.1 127 rfl).trans g57_4.2.2.1), fun j hj => by rw [sI_q, ug_ne (by rw [hix, hcm]; omega), hF70.1 128 rfl]; exact g57_4.2.2.2.1 j hj, (hF70.2.2.1 109 32 rfl).trans g57_4.2.2.2.2⟩
                        have n57l : HQ5 s (sI s70 128 z157.toNatClampNeg z170) ((y57_2).toInt - 97) (z180) ((Int32.ofInt 1)) (z70a).toInt.toNat := by (try clear hp76); obtain ⟨k, v, ht, hn⟩ := p70; rw [show sc57.1 125 = s.1 125 from hFc57.1 125 rfl, show sc57.2.2.1 109 22 = s.2.2.1 109 22 from hFc57.2.2.1 109 22 rfl, ← v57_109_27] at ht; have hv := (ntk_f hn (by rw [← v57_109_23]; exact c66)).2 (by rw [← e82]; exact c85); have htk := ntv_t hv (tkn_e ht).2.2.2.2.1 (tkn_e ht).2.2.2.2.2; rw [← e70a] at htk; have hkz : k = z76.toInt := htk.symm.trans c94; have hcm_ : w57_109_32.toNatClampNeg = (sc57.2.2.1 109 32).toNatClampNeg := (by rw [v57_109_32]); have r152 := inv_F hIc57 0 500 rfl v57_109_32; unfold In at r152; have r3 := j57_3; unfold In at r3; have e5 : z155.toInt = 5 * w57_109_32.toInt := (by have a0 := oa12 ro_109_22 ro_109_9 ((inv_F hIc57 0 500 rfl v57_109_32)) i66 ((inv_F hIc57 0 1000 rfl v57_109_27)) i59 j57_3 j57_2 j57_1 i161 ((in_c 1 rfl)) i57; have a12 := t_add e180 j57_3 (in_c 1 rfl) rfl; have a13 := oa4 i85 i94 i70a i179; have a17 := t_add e157 i155 j57_3 rfl; have a18 := in_u i155; have a19 := (t_mulc 5 (Or.inl e155) (inv_F hIc57 0 500 rfl v57_109_32) rfl).1; have oc := oc_304_109; omega); have hix : z157.toNatClampNeg = 5 * (sc57.2.2.1 109 32).toNatClampNeg + y57_3.toNatClampNeg := (by rw [← hcm_]; show z157.toInt.toNat = 5 * w57_109_32.toInt.toNat + y57_3.toInt.toNat; have a0 := oa12 ro_109_22 ro_109_9 ((inv_F hIc57 0 500 rfl v57_109_32)) i66 ((inv_F hIc57 0 1000 rfl v57_109_27)) i59 j57_3 j57_2 j57_1 i161 ((in_c 1 rfl)) i57; have a12 := t_add e180 j57_3 (in_c 1 rfl) rfl; have a13 := oa4 i85 i94 i70a i179; have a17 := t_add e157 i155 j57_3 rfl; have a18 := in_u i155; have a19 := (t_mulc 5 (Or.inl e155) (inv_F hIc57 0 500 rfl v57_109_32) rfl).1; have oc := oc_304_109; omega); have ey3 : y57_3.toNatClampNeg = y57_3.toInt.toNat := rfl; rw [(show z70a = (sI s70 128 z157.toNatClampNeg z170).2.2.1 109 27 from sI_F (e70))]; exact hq5_s (by rw [← v57_109_23]; exact c66) c59 g57_5 g57_3.1 g57_4.2.2.2.2 ht p76a hkz (in_ne3 i161 rfl) j57_3.1 (by have a0 := oa12 ro_109_22 ro_109_9 ((inv_F hIc57 0 500 rfl v57_109_32)) i66 ((inv_F hIc57 0 1000 rfl v57_109_27)) i59 j57_3 j57_2 j57_1 i161 ((in_c 1 rfl)) i57; have a12 := t_add e180 j57_3 (in_c 1 rfl) rfl; have a13 := oa4 i85 i94 i70a i179; have a17 := t_add e157 i155 j57_3 rfl; have a18 := in_u i155; have a19 := (t_mulc 5 (Or.inl e155) (inv_F hIc57 0 500 rfl v57_109_32) rfl).1; have oc := oc_304_109; omega) hix (sg_v e170 (by have q9 := (hv.2.1 (hkz.trans (in_at i161))).2; rw [← e70b] at q9; exact q9) (tkn_l1 ht (hkz.trans (in_at i161)))) (hF70.1 128 rfl)
                        have n57m : HQ6 s (sI s70 128 z157.toNatClampNeg z170) ((y57_2).toInt - 97) ((Int32.ofInt 1)) (z70a).toInt.toNat := by intro _ h; exact absurd h (by decide)
                        have n57n : HQ7 s (sI s70 128 z157.toNatClampNeg z170) ((y57_2).toInt - 97) := by intro hf; exfalso; exact hf (by show (s70.2.2.1 109 23).toInt = 0; rw [← e82]; exact c85)
                        have m57 : 100 - 10 * (z180).toInt + 5 * ((Int32.ofInt 1)).toInt + 9 - (z82).toInt < ((k57 : Nat) : Int) := by have a0 := oa12 ro_109_22 ro_109_9 ((inv_F hIc57 0 500 rfl v57_109_32)) i66 ((inv_F hIc57 0 1000 rfl v57_109_27)) i59 j57_3 j57_2 j57_1 i161 ((in_c 1 rfl)) i57; have a12 := t_add e180 j57_3 (in_c 1 rfl) rfl; have a13 := oa4 i85 i94 i70a i179; have a17 := t_add e157 i155 j57_3 rfl; have a18 := in_u i155; have a19 := (t_mulc 5 (Or.inl e155) (inv_F hIc57 0 500 rfl v57_109_32) rfl).1; have oc := oc_304_109; omega
                        exact gg_w (by first | exact Nat.le_add_right _ _ | exact gw2 | exact gw3 | exact gwe rfl | exact gwf rfl | exact gwg rfl | exact gwh rfl | omega) (gg_f (gf_cons rfl (gf_cons rfl (gf_cons rfl (gf_cons rfl (gf_cons rfl gf_nil))))) (ih57  (sI s70 128 z157.toNatClampNeg z170) y57_1 y57_2 z180 (Int32.ofInt 1) z70a z82 w57_109_32 hI179 (fr_sI rfl (fr_tr rfl hFc57 hF70)) (in_w 0 1000 j57_1 rfl) (in_w 97 119 j57_2 rfl) i57 (in_w 0 1 (in_c 1 rfl) rfl) v57 v57a v57b n57 n57a n57b n57c n57d n57e n57f n57g n57h n57i n57j n57k n57l n57m n57n m57))
              · skip
                have i100 := r_eq1 3 3 c100 i76 (in_c 3 rfl) rfl
                refine g_aload_n 104 (gd rfl) rfl rfl ?_
                refine g_getI 107 (gd rfl) rfl rfl rfl (fun z104 e104 => ?_)
                have q104 : z70c = z104 := (e70b).trans e104.symm
                subst q104
                refine g_bipush 59 109 (gd rfl) rfl rfl ?_
                refine g_cmp_eq 112 121 (gd rfl) rfl rfl (fun c109 => ?_) (fun c109 => ?_)
                · skip
                  have i109 := r_eq1 59 59 c109 (i_rng z70c) (in_c 59 rfl) rfl
                  refine g_iload 123 (gd rfl) rfl rfl ?_
                  refine g_iconst 3 124 (gd rfl) rfl rfl ?_
                  refine g_cmp_eq 127 131 (gd rfl) rfl rfl (fun c124 => ?_) (fun c124 => ?_)
                  · skip
                    refine g_iconst 0 132 (gd rfl) rfl rfl ?_
                    refine g_istore 134 (gd rfl) rfl (Nat.le_of_ble_eq_true rfl) ?_
                    refine g_aload_n 135 (gd rfl) rfl rfl ?_
                    refine g_getI 138 (gd rfl) rfl rfl rfl (fun z135 e135 => ?_)
                    have q135 : z82 = z135 := (e82).trans e135.symm
                    subst q135
                    refine g_if_ne 141 183 (gd rfl) rfl rfl (fun c138 => ?_) (fun c138 => ?_)
                    · skip
                      exact zn_ne c138 i85 rfl
                    · skip
                      refine g_iload 143 (gd rfl) rfl rfl ?_
                      refine g_if_eq 146 183 (gd rfl) rfl rfl (fun c143 => ?_) (fun c143 => ?_)
                      · skip
                        refine g_goto 57 (gd rfl) rfl ?_
                        have v57 : w57_109_32 = s70.2.2.1 109 32 := fr_F (v57_109_32) hF70 rfl
                        have n57 : (z70a).toInt ≤ (u_109_22).toInt := by have a0 := oa15 ro_109_22 ro_109_9 ((inv_F hIc57 0 500 rfl v57_109_32)) i66 ((inv_F hIc57 0 1000 rfl v57_109_27)) i59 j57_3 j57_2 j57_1 i100 ((in_c 0 rfl)) i85 i109 i94 i70a; have oc := oc_304_109; omega
                        have n57a : (u_109_27).toInt ≤ (z70a).toInt := by have a0 := oa15 ro_109_22 ro_109_9 ((inv_F hIc57 0 500 rfl v57_109_32)) i66 ((inv_F hIc57 0 1000 rfl v57_109_27)) i59 j57_3 j57_2 j57_1 i100 ((in_c 0 rfl)) i85 i109 i94 i70a; have oc := oc_304_109; omega
                        have n57b : 3 * (w57_109_32).toInt + 1 + (y57_3).toInt ≤ (z70a).toInt := by have a0 := oa15 ro_109_22 ro_109_9 ((inv_F hIc57 0 500 rfl v57_109_32)) i66 ((inv_F hIc57 0 1000 rfl v57_109_27)) i59 j57_3 j57_2 j57_1 i100 ((in_c 0 rfl)) i85 i109 i94 i70a; have oc := oc_304_109; omega
                        have n57c : ((Int32.ofInt 0)).toInt = 0 → (z82).toInt = 0 → 3 * (w57_109_32).toInt + 3 ≤ (z70a).toInt := by first | exact fun _ h => absurd h (Int.ne_of_gt (in_u i85).1) | (have a0 := oa15 ro_109_22 ro_109_9 ((inv_F hIc57 0 500 rfl v57_109_32)) i66 ((inv_F hIc57 0 1000 rfl v57_109_27)) i59 j57_3 j57_2 j57_1 i100 ((in_c 0 rfl)) i85 i109 i94 i70a; have oc := oc_304_109; omega)
                        have n57d : ((Int32.ofInt 0)).toInt ≠ 0 → 0 ≤ (y57_3).toInt := by exact fun h => absurd rfl h
                        have n57e : (u_109_27).toInt + (y57_3).toInt ≤ (z70a).toInt := by have a0 := oa15 ro_109_22 ro_109_9 ((inv_F hIc57 0 500 rfl v57_109_32)) i66 ((inv_F hIc57 0 1000 rfl v57_109_27)) i59 j57_3 j57_2 j57_1 i100 ((in_c 0 rfl)) i85 i109 i94 i70a; have oc := oc_304_109; omega
                        have n57f : ((Int32.ofInt 0)).toInt = 0 → (z82).toInt = 0 → (u_109_27).toInt + 1 ≤ (z70a).toInt := by first | exact fun _ h => absurd h (Int.ne_of_gt (in_u i85).1) | (have a0 := oa15 ro_109_22 ro_109_9 ((inv_F hIc57 0 500 rfl v57_109_32)) i66 ((inv_F hIc57 0 1000 rfl v57_109_27)) i59 j57_3 j57_2 j57_1 i100 ((in_c 0 rfl)) i85 i109 i94 i70a; have oc := oc_304_109; omega)
                        have n57g : (s70.2.2.1 109 23).toInt = 0 → LDQ s70 (s70.2.2.1 109 32).toNatClampNeg := by (intro _; rw [show (s70).2.2.1 109 32 = sc57.2.2.1 109 32 from hF70.2.2.1 109 32 rfl]; exact ldq_cg (g57_0 (by rw [← v57_109_23]; exact c66)) (hF70.1 110 rfl) (hF70.1 112 rfl) (fun j _ => by rw [hF70.1 127 rfl]) (fun j _ => by rw [hF70.1 128 rfl]))
                        have n57h : (s70.2.2.1 109 23).toInt = 0 → ((y57_2).toInt = 110 → 1 ≤ (y57_3).toInt → nq (s70.1 128 (5 * (s70.2.2.1 109 32).toNatClampNeg)) 0 25) ∧ ((y57_2).toInt = 97 → 5 ≤ (y57_3).toInt → nq (s70.1 128 (5 * (s70.2.2.1 109 32).toNatClampNeg + 4)) 0 25) := by (intro _; have hl := g57_1 (by rw [← v57_109_23]; exact c66); rw [show (s70).2.2.1 109 32 = sc57.2.2.1 109 32 from hF70.2.2.1 109 32 rfl, hF70.1 128 rfl]; exact hl)
                        have n57i : ((Int32.ofInt 0)).toInt = 0 → (s70.2.2.1 109 23).toInt = 0 → ((y57_2).toInt = 110 → 1 ≤ (y57_3).toInt) ∧ ((y57_2).toInt = 97 → 5 ≤ (y57_3).toInt) := by first | (exact fun hm => absurd hm (by decide)) | (intro hm _; have hp := p76; unfold SHP at hp; have h3 := c124; have h13 : (Int32.ofInt 3).toInt = 3 := rfl; have h11 : (Int32.ofInt 1).toInt = 1 := rfl; have r3 := j57_3; unfold In at r3; exact ⟨fun a1 => (by have q := hp.1 a1; omega), fun a1 => (by have q := hp.2.1 a1; omega)⟩)
                        have n57j : C4 (y57_2).toInt ∧ (y57_2) = s.2.2.1 109 30 ∧ (s.2.2.1 109 28).toInt = 1 ∧ (y57_1) = s.2.2.1 109 29 := by exact g57_3
                        have n57k : s70.1 110 = s.1 110 ∧ s70.1 112 = s.1 112 ∧ s70.1 127 = s.1 127 ∧ (∀ j, j < 5 * (s.2.2.1 109 32).toNatClampNeg → s70.1 128 j = s.1 128 j) ∧ s70.2.2.1 109 32 = s.2.2.1 109 32 := by exact ⟨(hF70.1 110 rfl).trans g57_4.1, (hF70.1 112 rfl).trans g57_4.2.1, (hF70.1 127 rfl).trans g57_4.2.2.1, fun j hj => by rw [hF70.1 128 rfl]; exact g57_4.2.2.2.1 j hj, (hF70.2.2.1 109 32 rfl).trans g57_4.2.2.2.2⟩
                        have n57l : HQ5 s s70 ((y57_2).toInt - 97) (y57_3) ((Int32.ofInt 0)) (z70a).toInt.toNat := by first | (intro _ h; exact absurd rfl h) | (intro hf; exfalso; rw [← e82] at hf; exact c85 hf)
                        have n57m : HQ6 s s70 ((y57_2).toInt - 97) ((Int32.ofInt 0)) (z70a).toInt.toNat := by first | (intro _ h; exact absurd h (by decide)) | (intro hf; exfalso; rw [← e82] at hf; exact c85 hf) | ((try clear hp76); obtain ⟨k, v, ht, hn⟩ := p70; rw [show sc57.1 125 = s.1 125 from hFc57.1 125 rfl, show sc57.2.2.1 109 22 = s.2.2.1 109 22 from hFc57.2.2.1 109 22 rfl, ← v57_109_27] at ht; have hv := (ntk_f hn (by rw [← v57_109_23]; exact c66)).2 (by rw [← e82]; exact c85); have htk := ntv_t hv (tkn_e ht).2.2.2.2.1 (tkn_e ht).2.2.2.2.2; rw [← e70a] at htk; have hkz : k = z76.toInt := htk.symm.trans c94; rw [(show z70a = s70.2.2.1 109 27 from e70)]; exact hq6_e (by rw [← v57_109_23]; exact c66) c59 g57_5 g57_3.1 ht p76a hkz (in_at i100) j57_3.1 (hF70.1 128 rfl))
                        have n57n : HQ7 s s70 ((y57_2).toInt - 97) := by first | ((try clear hp76); obtain ⟨k, v, ht, hn⟩ := p70; rw [show sc57.1 125 = s.1 125 from hFc57.1 125 rfl, show sc57.2.2.1 109 22 = s.2.2.1 109 22 from hFc57.2.2.1 109 22 rfl, ← v57_109_27] at ht; exact hq7_t hI70 (by rw [← v57_109_23]; exact c66) c59 g57_5 g57_3.1 j57_3.1 ht hn) | (intro hf; exfalso; exact hf (by rw [← e82]; exact c85))
                        have m57 : 100 - 10 * (y57_3).toInt + 5 * ((Int32.ofInt 0)).toInt + 9 - (z82).toInt < ((k57 : Nat) : Int) := by have a0 := oa15 ro_109_22 ro_109_9 ((inv_F hIc57 0 500 rfl v57_109_32)) i66 ((inv_F hIc57 0 1000 rfl v57_109_27)) i59 j57_3 j57_2 j57_1 i100 ((in_c 0 rfl)) i85 i109 i94 i70a; have oc := oc_304_109; omega
                        exact gg_w (by first | exact Nat.le_add_right _ _ | exact gw2 | exact gw3 | exact gwe rfl | exact gwf rfl | exact gwg rfl | exact gwh rfl | omega) (gg_f (gf_cons rfl (gf_cons rfl (gf_cons rfl (gf_cons rfl (gf_cons rfl gf_nil))))) (ih57  s70 y57_1 y57_2 y57_3 (Int32.ofInt 0) z70a z82 w57_109_32 hI70 (fr_tr rfl hFc57 hF70) (in_w 0 1000 j57_1 rfl) (in_w 97 119 j57_2 rfl) (in_w 0 5 j57_3 rfl) (in_w 0 1 (in_c 0 rfl) rfl) e70 e82 v57 n57 n57a n57b n57c n57d n57e n57f n57g n57h n57i n57j n57k n57l n57m n57n m57))
                      · skip
                        exact zn_ne c143 (in_c 0 rfl) rfl
                  · skip
                    exact n_ne c124 i100 (in_c 3 rfl) rfl
                · skip
                  refine g_aload_n 113 (gd rfl) rfl rfl ?_
                  refine g_iconst 2 114 (gd rfl) rfl rfl ?_
                  refine g_aload_n 115 (gd rfl) rfl rfl ?_
                  refine g_getI 118 (gd rfl) rfl rfl rfl (fun z115 e115 => ?_)
                  have i115 := inv_F hI70 0 1000 rfl e115
                  refine g_callv (X := _) (As := [.int (Int32.ofInt 2), .int z115]) (r := []) (b := A 109) (q := 109) 121 (gd rfl) rfl rfl rfl rfl rfl (ww_o rfl) (Nat.le_of_ble_eq_true rfl) (Nat.zero_le _) (Nat.zero_le _) (f_298 (by first | exact dq1 hd rfl | exact dq0 hd rfl | exact dq2 hd rfl | exact dq3 hd rfl | omega) hI70 (in_w 1 5 (in_c 2 rfl) rfl) e82) (fun e u h => h) (fun v u h => ?_)
                  obtain ⟨s118, hI118, hF118, n118, rfl, rfl, p118⟩ := h
                  obtain ⟨z118a, e118⟩ : ∃ w, w = s118.2.2.1 109 23 := ⟨_, rfl⟩
                  have i118a := inv_F hI118 0 9 rfl e118
                  rw [← (show z118a = s118.2.2.1 109 23 from e118)] at n118
                  show GG _ _ _ _ _ _ _ _ [] _ _ _
                  refine g_iload 123 (gd rfl) rfl rfl ?_
                  refine g_iconst 3 124 (gd rfl) rfl rfl ?_
                  refine g_cmp_eq 127 131 (gd rfl) rfl rfl (fun c124 => ?_) (fun c124 => ?_)
                  · skip
                    refine g_iconst 0 132 (gd rfl) rfl rfl ?_
                    refine g_istore 134 (gd rfl) rfl (Nat.le_of_ble_eq_true rfl) ?_
                    refine g_aload_n 135 (gd rfl) rfl rfl ?_
                    refine g_getI 138 (gd rfl) rfl rfl rfl (fun z135 e135 => ?_)
                    have q135 : z118a = z135 := (e118).trans e135.symm
                    subst q135
                    refine g_if_ne 141 183 (gd rfl) rfl rfl (fun c138 => ?_) (fun c138 => ?_)
                    · skip
                      have i138 := z_ne 1 9 c138 i118a rfl
                      refine g_goto 57 (gd rfl) rfl ?_
                      have v57 : z70a = s118.2.2.1 109 27 := fr_F (e70) hF118 rfl
                      have v57a : w57_109_32 = s118.2.2.1 109 32 := fr_F (fr_F (v57_109_32) hF70 rfl) hF118 rfl
                      have n57 : (z70a).toInt ≤ (u_109_22).toInt := by have a0 := oa15 ro_109_22 ro_109_9 ((inv_F hIc57 0 500 rfl v57_109_32)) i66 ((inv_F hIc57 0 1000 rfl v57_109_27)) i59 j57_3 j57_2 j57_1 i100 ((in_c 0 rfl)) i138 i115 i94 i70a; have oc := oc_304_109; omega
                      have n57a : (u_109_27).toInt ≤ (z70a).toInt := by have a0 := oa15 ro_109_22 ro_109_9 ((inv_F hIc57 0 500 rfl v57_109_32)) i66 ((inv_F hIc57 0 1000 rfl v57_109_27)) i59 j57_3 j57_2 j57_1 i100 ((in_c 0 rfl)) i138 i115 i94 i70a; have oc := oc_304_109; omega
                      have n57b : 3 * (w57_109_32).toInt + 1 + (y57_3).toInt ≤ (z70a).toInt := by have a0 := oa15 ro_109_22 ro_109_9 ((inv_F hIc57 0 500 rfl v57_109_32)) i66 ((inv_F hIc57 0 1000 rfl v57_109_27)) i59 j57_3 j57_2 j57_1 i100 ((in_c 0 rfl)) i138 i115 i94 i70a; have oc := oc_304_109; omega
                      have n57c : ((Int32.ofInt 0)).toInt = 0 → (z118a).toInt = 0 → 3 * (w57_109_32).toInt + 3 ≤ (z70a).toInt := by first | exact fun _ h => absurd h (Int.ne_of_gt n118) | (have a0 := oa15 ro_109_22 ro_109_9 ((inv_F hIc57 0 500 rfl v57_109_32)) i66 ((inv_F hIc57 0 1000 rfl v57_109_27)) i59 j57_3 j57_2 j57_1 i100 ((in_c 0 rfl)) i138 i115 i94 i70a; have oc := oc_304_109; omega)
                      have n57d : ((Int32.ofInt 0)).toInt ≠ 0 → 0 ≤ (y57_3).toInt := by exact fun h => absurd rfl h
                      have n57e : (u_109_27).toInt + (y57_3).toInt ≤ (z70a).toInt := by have a0 := oa15 ro_109_22 ro_109_9 ((inv_F hIc57 0 500 rfl v57_109_32)) i66 ((inv_F hIc57 0 1000 rfl v57_109_27)) i59 j57_3 j57_2 j57_1 i100 ((in_c 0 rfl)) i138 i115 i94 i70a; have oc := oc_304_109; omega
                      have n57f : ((Int32.ofInt 0)).toInt = 0 → (z118a).toInt = 0 → (u_109_27).toInt + 1 ≤ (z70a).toInt := by first | exact fun _ h => absurd h (Int.ne_of_gt n118) | (have a0 := oa15 ro_109_22 ro_109_9 ((inv_F hIc57 0 500 rfl v57_109_32)) i66 ((inv_F hIc57 0 1000 rfl v57_109_27)) i59 j57_3 j57_2 j57_1 i100 ((in_c 0 rfl)) i138 i115 i94 i70a; have oc := oc_304_109; omega)
                      have n57g : (s118.2.2.1 109 23).toInt = 0 → LDQ s118 (s118.2.2.1 109 32).toNatClampNeg := by (intro hf; exfalso; have hg : (s118.2.2.1 109 23).toInt = 0 := hf; rw [← e118] at hg; have hn := n118; omega)
                      have n57h : (s118.2.2.1 109 23).toInt = 0 → ((y57_2).toInt = 110 → 1 ≤ (y57_3).toInt → nq (s118.1 128 (5 * (s118.2.2.1 109 32).toNatClampNeg)) 0 25) ∧ ((y57_2).toInt = 97 → 5 ≤ (y57_3).toInt → nq (s118.1 128 (5 * (s118.2.2.1 109 32).toNatClampNeg + 4)) 0 25) := by (intro hf; exfalso; have hg : (s118.2.2.1 109 23).toInt = 0 := hf; rw [← e118] at hg; have hn := n118; omega)
                      have n57i : ((Int32.ofInt 0)).toInt = 0 → (s118.2.2.1 109 23).toInt = 0 → ((y57_2).toInt = 110 → 1 ≤ (y57_3).toInt) ∧ ((y57_2).toInt = 97 → 5 ≤ (y57_3).toInt) := by (intro _ hf; exfalso; have hg : (s118.2.2.1 109 23).toInt = 0 := hf; rw [← e118] at hg; have hn := n118; omega)
                      have n57j : C4 (y57_2).toInt ∧ (y57_2) = s.2.2.1 109 30 ∧ (s.2.2.1 109 28).toInt = 1 ∧ (y57_1) = s.2.2.1 109 29 := by exact g57_3
                      have n57k : s118.1 110 = s.1 110 ∧ s118.1 112 = s.1 112 ∧ s118.1 127 = s.1 127 ∧ (∀ j, j < 5 * (s.2.2.1 109 32).toNatClampNeg → s118.1 128 j = s.1 128 j) ∧ s118.2.2.1 109 32 = s.2.2.1 109 32 := by have h9 := (show _ from ⟨(hF70.1 110 rfl).trans g57_4.1, (hF70.1 112 rfl).trans g57_4.2.1, (hF70.1 127 rfl).trans g57_4.2.2.1, fun j hj => by rw [hF70.1 128 rfl]; exact g57_4.2.2.2.1 j hj, (hF70.2.2.1 109 32 rfl).trans g57_4.2.2.2.2⟩ : s70.1 110 = s.1 110 ∧ s70.1 112 = s.1 112 ∧ s70.1 127 = s.1 127 ∧ (∀ j, j < 5 * (s.2.2.1 109 32).toNatClampNeg → s70.1 128 j = s.1 128 j) ∧ s70.2.2.1 109 32 = s.2.2.1 109 32); exact ⟨(hF118.1 110 rfl).trans h9.1, (hF118.1 112 rfl).trans h9.2.1, (hF118.1 127 rfl).trans h9.2.2.1, fun j hj => by rw [hF118.1 128 rfl]; exact h9.2.2.2.1 j hj, (hF118.2.2.1 109 32 rfl).trans h9.2.2.2.2⟩
                      have n57l : HQ5 s s118 ((y57_2).toInt - 97) (y57_3) ((Int32.ofInt 0)) (z70a).toInt.toNat := by intro hf; exfalso; rw [← e118] at hf; have hn := n118; omega
                      have n57m : HQ6 s s118 ((y57_2).toInt - 97) ((Int32.ofInt 0)) (z70a).toInt.toNat := by intro hf; exfalso; rw [← e118] at hf; have hn := n118; omega
                      have n57n : HQ7 s s118 ((y57_2).toInt - 97) := by intro _; (try clear hp76); obtain ⟨k, v, ht, hn⟩ := p70; rw [show sc57.1 125 = s.1 125 from hFc57.1 125 rfl, show sc57.2.2.1 109 22 = s.2.2.1 109 22 from hFc57.2.2.1 109 22 rfl, ← v57_109_27] at ht; have hf := ntk_f hn (by rw [← v57_109_23]; exact c66); have hk0 := (tkn_e ht).2.2.2.2.1; have hk5 := (tkn_e ht).2.2.2.2.2; have hc9 : cmI (y57_2.toInt - 97) := c4_i g57_3.1; have h5 := g57_5 (by rw [← v57_109_23]; exact c66) c59; have hw := p76a hc9 h5.1; have hv := hf.2 (by rw [← e82]; exact c85); clear hf; have htk := ntv_t hv hk0 hk5; rw [← e70a] at htk; have hb := p118.1 (by rw [← e82]; exact c85); refine ⟨by rw [hb.2]; have a0 := oa15 ro_109_22 ro_109_9 ((inv_F hIc57 0 500 rfl v57_109_32)) i66 ((inv_F hIc57 0 1000 rfl v57_109_27)) i59 j57_3 j57_2 j57_1 i100 ((in_c 0 rfl)) i138 i115 i94 i70a; have oc := oc_304_109; omega, fun a ha => ?_⟩; rw [hb.1, hb.2]; have hk2 : cmF k = 2 := (by unfold cmF; rw [if_neg hv.2.2.2.2.1, if_neg hv.2.2.2.2.2]); rw [show (Int32.ofInt 2).toInt = cmF k from (by rw [hk2]; rfl), e115]; refine cs_bad hc9 ha (by have h7 := h5.1; omega) (h5.2 a ha) ht ?_; rw [← hw, ← htk]; first | (exact c94) | (intro _; have q9 := (hv.2.2.2.1 ((htk.symm.trans c94).trans (in_at i100))).2; rw [← e70b] at q9; exact absurd q9 c109)
                      have m57 : 100 - 10 * (y57_3).toInt + 5 * ((Int32.ofInt 0)).toInt + 9 - (z118a).toInt < ((k57 : Nat) : Int) := by have a0 := oa15 ro_109_22 ro_109_9 ((inv_F hIc57 0 500 rfl v57_109_32)) i66 ((inv_F hIc57 0 1000 rfl v57_109_27)) i59 j57_3 j57_2 j57_1 i100 ((in_c 0 rfl)) i138 i115 i94 i70a; have oc := oc_304_109; omega
                      exact gg_w (by first | exact Nat.le_add_right _ _ | exact gw2 | exact gw3 | exact gwe rfl | exact gwf rfl | exact gwg rfl | exact gwh rfl | omega) (gg_f (gf_cons rfl (gf_cons rfl (gf_cons rfl (gf_cons rfl (gf_cons rfl gf_nil))))) (ih57  s118 y57_1 y57_2 y57_3 (Int32.ofInt 0) z70a z118a w57_109_32 hI118 (fr_tr rfl (fr_tr rfl hFc57 hF70) hF118) (in_w 0 1000 j57_1 rfl) (in_w 97 119 j57_2 rfl) (in_w 0 5 j57_3 rfl) (in_w 0 1 (in_c 0 rfl) rfl) v57 e118 v57a n57 n57a n57b n57c n57d n57e n57f n57g n57h n57i n57j n57k n57l n57m n57n m57))
                    · skip
                      have i138 := z_eq 0 0 c138 i118a rfl
                      refine g_iload 143 (gd rfl) rfl rfl ?_
                      refine g_if_eq 146 183 (gd rfl) rfl rfl (fun c143 => ?_) (fun c143 => ?_)
                      · skip
                        refine g_goto 57 (gd rfl) rfl ?_
                        have v57 : z70a = s118.2.2.1 109 27 := fr_F (e70) hF118 rfl
                        have v57a : w57_109_32 = s118.2.2.1 109 32 := fr_F (fr_F (v57_109_32) hF70 rfl) hF118 rfl
                        have n57 : (z70a).toInt ≤ (u_109_22).toInt := by have a0 := oa15 ro_109_22 ro_109_9 ((inv_F hIc57 0 500 rfl v57_109_32)) i66 ((inv_F hIc57 0 1000 rfl v57_109_27)) i59 j57_3 j57_2 j57_1 i100 ((in_c 0 rfl)) i138 i115 i94 i70a; have oc := oc_304_109; omega
                        have n57a : (u_109_27).toInt ≤ (z70a).toInt := by have a0 := oa15 ro_109_22 ro_109_9 ((inv_F hIc57 0 500 rfl v57_109_32)) i66 ((inv_F hIc57 0 1000 rfl v57_109_27)) i59 j57_3 j57_2 j57_1 i100 ((in_c 0 rfl)) i138 i115 i94 i70a; have oc := oc_304_109; omega
                        have n57b : 3 * (w57_109_32).toInt + 1 + (y57_3).toInt ≤ (z70a).toInt := by have a0 := oa15 ro_109_22 ro_109_9 ((inv_F hIc57 0 500 rfl v57_109_32)) i66 ((inv_F hIc57 0 1000 rfl v57_109_27)) i59 j57_3 j57_2 j57_1 i100 ((in_c 0 rfl)) i138 i115 i94 i70a; have oc := oc_304_109; omega
                        have n57c : ((Int32.ofInt 0)).toInt = 0 → (z118a).toInt = 0 → 3 * (w57_109_32).toInt + 3 ≤ (z70a).toInt := by first | exact fun _ h => absurd h (Int.ne_of_gt n118) | (have a0 := oa15 ro_109_22 ro_109_9 ((inv_F hIc57 0 500 rfl v57_109_32)) i66 ((inv_F hIc57 0 1000 rfl v57_109_27)) i59 j57_3 j57_2 j57_1 i100 ((in_c 0 rfl)) i138 i115 i94 i70a; have oc := oc_304_109; omega)
                        have n57d : ((Int32.ofInt 0)).toInt ≠ 0 → 0 ≤ (y57_3).toInt := by exact fun h => absurd rfl h
                        have n57e : (u_109_27).toInt + (y57_3).toInt ≤ (z70a).toInt := by have a0 := oa15 ro_109_22 ro_109_9 ((inv_F hIc57 0 500 rfl v57_109_32)) i66 ((inv_F hIc57 0 1000 rfl v57_109_27)) i59 j57_3 j57_2 j57_1 i100 ((in_c 0 rfl)) i138 i115 i94 i70a; have oc := oc_304_109; omega
                        have n57f : ((Int32.ofInt 0)).toInt = 0 → (z118a).toInt = 0 → (u_109_27).toInt + 1 ≤ (z70a).toInt := by first | exact fun _ h => absurd h (Int.ne_of_gt n118) | (have a0 := oa15 ro_109_22 ro_109_9 ((inv_F hIc57 0 500 rfl v57_109_32)) i66 ((inv_F hIc57 0 1000 rfl v57_109_27)) i59 j57_3 j57_2 j57_1 i100 ((in_c 0 rfl)) i138 i115 i94 i70a; have oc := oc_304_109; omega)
                        have n57g : (s118.2.2.1 109 23).toInt = 0 → LDQ s118 (s118.2.2.1 109 32).toNatClampNeg := by (intro hf; exfalso; have hg : (s118.2.2.1 109 23).toInt = 0 := hf; rw [← e118] at hg; have hn := n118; omega)
                        have n57h : (s118.2.2.1 109 23).toInt = 0 → ((y57_2).toInt = 110 → 1 ≤ (y57_3).toInt → nq (s118.1 128 (5 * (s118.2.2.1 109 32).toNatClampNeg)) 0 25) ∧ ((y57_2).toInt = 97 → 5 ≤ (y57_3).toInt → nq (s118.1 128 (5 * (s118.2.2.1 109 32).toNatClampNeg + 4)) 0 25) := by (intro hf; exfalso; have hg : (s118.2.2.1 109 23).toInt = 0 := hf; rw [← e118] at hg; have hn := n118; omega)
                        have n57i : ((Int32.ofInt 0)).toInt = 0 → (s118.2.2.1 109 23).toInt = 0 → ((y57_2).toInt = 110 → 1 ≤ (y57_3).toInt) ∧ ((y57_2).toInt = 97 → 5 ≤ (y57_3).toInt) := by (intro _ hf; exfalso; have hg : (s118.2.2.1 109 23).toInt = 0 := hf; rw [← e118] at hg; have hn := n118; omega)
                        have n57j : C4 (y57_2).toInt ∧ (y57_2) = s.2.2.1 109 30 ∧ (s.2.2.1 109 28).toInt = 1 ∧ (y57_1) = s.2.2.1 109 29 := by exact g57_3
                        have n57k : s118.1 110 = s.1 110 ∧ s118.1 112 = s.1 112 ∧ s118.1 127 = s.1 127 ∧ (∀ j, j < 5 * (s.2.2.1 109 32).toNatClampNeg → s118.1 128 j = s.1 128 j) ∧ s118.2.2.1 109 32 = s.2.2.1 109 32 := by have h9 := (show _ from ⟨(hF70.1 110 rfl).trans g57_4.1, (hF70.1 112 rfl).trans g57_4.2.1, (hF70.1 127 rfl).trans g57_4.2.2.1, fun j hj => by rw [hF70.1 128 rfl]; exact g57_4.2.2.2.1 j hj, (hF70.2.2.1 109 32 rfl).trans g57_4.2.2.2.2⟩ : s70.1 110 = s.1 110 ∧ s70.1 112 = s.1 112 ∧ s70.1 127 = s.1 127 ∧ (∀ j, j < 5 * (s.2.2.1 109 32).toNatClampNeg → s70.1 128 j = s.1 128 j) ∧ s70.2.2.1 109 32 = s.2.2.1 109 32); exact ⟨(hF118.1 110 rfl).trans h9.1, (hF118.1 112 rfl).trans h9.2.1, (hF118.1 127 rfl).trans h9.2.2.1, fun j hj => by rw [hF118.1 128 rfl]; exact h9.2.2.2.1 j hj, (hF118.2.2.1 109 32 rfl).trans h9.2.2.2.2⟩
                        have n57l : HQ5 s s118 ((y57_2).toInt - 97) (y57_3) ((Int32.ofInt 0)) (z70a).toInt.toNat := by intro hf; exfalso; rw [← e118] at hf; have hn := n118; omega
                        have n57m : HQ6 s s118 ((y57_2).toInt - 97) ((Int32.ofInt 0)) (z70a).toInt.toNat := by intro hf; exfalso; rw [← e118] at hf; have hn := n118; omega
                        have n57n : HQ7 s s118 ((y57_2).toInt - 97) := by intro _; (try clear hp76); obtain ⟨k, v, ht, hn⟩ := p70; rw [show sc57.1 125 = s.1 125 from hFc57.1 125 rfl, show sc57.2.2.1 109 22 = s.2.2.1 109 22 from hFc57.2.2.1 109 22 rfl, ← v57_109_27] at ht; have hf := ntk_f hn (by rw [← v57_109_23]; exact c66); have hk0 := (tkn_e ht).2.2.2.2.1; have hk5 := (tkn_e ht).2.2.2.2.2; have hc9 : cmI (y57_2.toInt - 97) := c4_i g57_3.1; have h5 := g57_5 (by rw [← v57_109_23]; exact c66) c59; have hw := p76a hc9 h5.1; have hv := hf.2 (by rw [← e82]; exact c85); clear hf; have htk := ntv_t hv hk0 hk5; rw [← e70a] at htk; have hb := p118.1 (by rw [← e82]; exact c85); refine ⟨by rw [hb.2]; have a0 := oa15 ro_109_22 ro_109_9 ((inv_F hIc57 0 500 rfl v57_109_32)) i66 ((inv_F hIc57 0 1000 rfl v57_109_27)) i59 j57_3 j57_2 j57_1 i100 ((in_c 0 rfl)) i138 i115 i94 i70a; have oc := oc_304_109; omega, fun a ha => ?_⟩; rw [hb.1, hb.2]; have hk2 : cmF k = 2 := (by unfold cmF; rw [if_neg hv.2.2.2.2.1, if_neg hv.2.2.2.2.2]); rw [show (Int32.ofInt 2).toInt = cmF k from (by rw [hk2]; rfl), e115]; refine cs_bad hc9 ha (by have h7 := h5.1; omega) (h5.2 a ha) ht ?_; rw [← hw, ← htk]; first | (exact c94) | (intro _; have q9 := (hv.2.2.2.1 ((htk.symm.trans c94).trans (in_at i100))).2; rw [← e70b] at q9; exact absurd q9 c109)
                        have m57 : 100 - 10 * (y57_3).toInt + 5 * ((Int32.ofInt 0)).toInt + 9 - (z118a).toInt < ((k57 : Nat) : Int) := by have a0 := oa15 ro_109_22 ro_109_9 ((inv_F hIc57 0 500 rfl v57_109_32)) i66 ((inv_F hIc57 0 1000 rfl v57_109_27)) i59 j57_3 j57_2 j57_1 i100 ((in_c 0 rfl)) i138 i115 i94 i70a; have oc := oc_304_109; omega
                        exact gg_w (by first | exact Nat.le_add_right _ _ | exact gw2 | exact gw3 | exact gwe rfl | exact gwf rfl | exact gwg rfl | exact gwh rfl | omega) (gg_f (gf_cons rfl (gf_cons rfl (gf_cons rfl (gf_cons rfl (gf_cons rfl gf_nil))))) (ih57  s118 y57_1 y57_2 y57_3 (Int32.ofInt 0) z70a z118a w57_109_32 hI118 (fr_tr rfl (fr_tr rfl hFc57 hF70) hF118) (in_w 0 1000 j57_1 rfl) (in_w 97 119 j57_2 rfl) (in_w 0 5 j57_3 rfl) (in_w 0 1 (in_c 0 rfl) rfl) v57 e118 v57a n57 n57a n57b n57c n57d n57e n57f n57g n57h n57i n57j n57k n57l n57m n57n m57))
                      · skip
                        exact zn_ne c143 (in_c 0 rfl) rfl
                  · skip
                    exact n_ne c124 i100 (in_c 3 rfl) rfl
  refine g_enter2 (k := 304) (N := 117901) (by first | exact dq1 hd rfl | exact dq0 hd rfl | exact dq2 hd rfl | exact dq3 hd rfl | omega) rfl (Nat.le_of_ble_eq_true rfl) ?_
  refine g_aload_n 1 (gd rfl) rfl rfl ?_
  refine g_getI 4 (gd rfl) rfl rfl rfl (fun z1 e1 => ?_)
  have q1 : u_109_29 = z1 := (e_109_29).trans e1.symm
  subst q1
  refine g_istore_n 5 (gd rfl) rfl (Nat.le_of_ble_eq_true rfl) ?_
  refine g_aload_n 6 (gd rfl) rfl rfl ?_
  refine g_getI 9 (gd rfl) rfl rfl rfl (fun z6 e6 => ?_)
  have q6 : u_109_30 = z6 := (e_109_30).trans e6.symm
  subst q6
  refine g_istore_n 10 (gd rfl) rfl (Nat.le_of_ble_eq_true rfl) ?_
  refine g_aload_n 11 (gd rfl) rfl rfl ?_
  refine g_getI 14 (gd rfl) rfl rfl rfl (fun z11 e11 => ?_)
  have q11 : u_109_28 = z11 := (e_109_28).trans e11.symm
  subst q11
  refine g_iconst 1 15 (gd rfl) rfl rfl ?_
  refine g_cmp_ne 18 42 (gd rfl) rfl rfl (fun c15 => ?_) (fun c15 => ?_)
  · skip
    refine g_aload_n 43 (gd rfl) rfl rfl ?_
    refine g_iconst 2 44 (gd rfl) rfl rfl ?_
    refine g_aload_n 45 (gd rfl) rfl rfl ?_
    refine g_getI 48 (gd rfl) rfl rfl rfl (fun z45 e45 => ?_)
    have q45 : u_109_29 = z45 := (e_109_29).trans e45.symm
    subst q45
    refine g_callv (X := _) (As := [.int (Int32.ofInt 2), .int u_109_29]) (r := []) (b := A 109) (q := 109) 51 (gd rfl) rfl rfl rfl rfl rfl (ww_o rfl) (Nat.le_of_ble_eq_true rfl) (Nat.zero_le _) (Nat.zero_le _) (f_298 (by first | exact dq1 hd rfl | exact dq0 hd rfl | exact dq2 hd rfl | exact dq3 hd rfl | omega) hI (in_w 1 5 (in_c 2 rfl) rfl) e_109_23) (fun e u h => h) (fun v u h => ?_)
    obtain ⟨s48, hI48, hF48, n48, rfl, rfl, p48⟩ := h
    obtain ⟨z48a, e48⟩ : ∃ w, w = s48.2.2.1 109 23 := ⟨_, rfl⟩
    have i48a := inv_F hI48 0 9 rfl e48
    rw [← (show z48a = s48.2.2.1 109 23 from e48)] at n48
    show GG _ _ _ _ _ _ _ _ [] _ _ _
    have n51 : (s48.2.2.1 109 23).toInt = 0 → LDQ s48 (s48.2.2.1 109 32).toNatClampNeg := by (intro hf; exfalso; have hg : (s48.2.2.1 109 23).toInt = 0 := hf; rw [← e48] at hg; have hn := n48; omega)
    have n51a : RCM s s48 := by exact rcm_48 (by first | exact p48 | (rw [← e_109_29]; exact p48)) q_1 (by rw [← e_109_29]; have a0 := oa7 ro_109_9 ((inv_F hI 0 9 rfl e_109_23)) ((inv_F hI 0 1000 rfl e_109_29)) ((inv_F hI 0 500 rfl e_109_32)) ((inv_F hI 0 1000 rfl e_109_22)) ((inv_F hI 0 1000 rfl e_109_27)) i48a; have oc := oc_304_109; omega) (by rw [← e_109_28, ← e_109_30]; unfold C4; have a0 := oa7 ro_109_9 ((inv_F hI 0 9 rfl e_109_23)) ((inv_F hI 0 1000 rfl e_109_29)) ((inv_F hI 0 500 rfl e_109_32)) ((inv_F hI 0 1000 rfl e_109_22)) ((inv_F hI 0 1000 rfl e_109_27)) i48a; have oc := oc_304_109; omega)
    have n51b : G0S s s48 := by exact g0_cg (hF48.1 110 rfl) (hF48.1 112 rfl)
    have n51c : (u_109_27).toInt ≤ (u_109_22).toInt := by have a0 := oa7 ro_109_9 ((inv_F hI 0 9 rfl e_109_23)) ((inv_F hI 0 1000 rfl e_109_29)) ((inv_F hI 0 500 rfl e_109_32)) ((inv_F hI 0 1000 rfl e_109_22)) ((inv_F hI 0 1000 rfl e_109_27)) i48a; have oc := oc_304_109; omega
    have n51d : (s48.2.2.1 109 27).toInt ≤ (s48.2.2.1 109 22).toInt := by have b0 : u_109_27 = s48.2.2.1 109 27 := fr_F (e_109_27) hF48 rfl; have b1 : u_109_22 = s48.2.2.1 109 22 := fr_F (e_109_22) hF48 rfl; rw [← b0, ← b1]; exact n51c
    have n51e : (u_109_27).toInt ≤ (u_109_27).toInt := by exact Int.le_refl _
    have n51f : (s.2.2.1 109 27).toInt ≤ (s48.2.2.1 109 27).toInt := by have b0 : u_109_27 = s48.2.2.1 109 27 := fr_F (e_109_27) hF48 rfl; first | (rw [← b0, ← e_109_27]; exact n51e) | (rw [← b0]; exact n51e)
    have n51g : (z48a).toInt = 0 → 3 * (u_109_32).toInt ≤ (u_109_27).toInt := by have a0 := oa7 ro_109_9 ((inv_F hI 0 9 rfl e_109_23)) ((inv_F hI 0 1000 rfl e_109_29)) ((inv_F hI 0 500 rfl e_109_32)) ((inv_F hI 0 1000 rfl e_109_22)) ((inv_F hI 0 1000 rfl e_109_27)) i48a; have oc := oc_304_109; omega
    have n51h : (s48.2.2.1 109 23).toInt = 0 → 3 * (s48.2.2.1 109 32).toInt ≤ (s48.2.2.1 109 27).toInt := by have b0 : z48a = s48.2.2.1 109 23 := e48; have b1 : u_109_32 = s48.2.2.1 109 32 := fr_F (e_109_32) hF48 rfl; have b2 : u_109_27 = s48.2.2.1 109 27 := fr_F (e_109_27) hF48 rfl; rw [← b0, ← b1, ← b2]; exact n51g
    have n51i : (z48a).toInt = 0 → (u_109_27).toInt + 1 ≤ (u_109_27).toInt := by have a0 := oa7 ro_109_9 ((inv_F hI 0 9 rfl e_109_23)) ((inv_F hI 0 1000 rfl e_109_29)) ((inv_F hI 0 500 rfl e_109_32)) ((inv_F hI 0 1000 rfl e_109_22)) ((inv_F hI 0 1000 rfl e_109_27)) i48a; have oc := oc_304_109; omega
    have n51j : (s48.2.2.1 109 23).toInt = 0 → (s.2.2.1 109 27).toInt + 1 ≤ (s48.2.2.1 109 27).toInt := by have b0 : z48a = s48.2.2.1 109 23 := e48; have b1 : u_109_27 = s48.2.2.1 109 27 := fr_F (e_109_27) hF48 rfl; first | (rw [← b0, ← b1, ← e_109_27]; exact n51i) | (rw [← b0, ← b1]; exact n51i)
    have n51k : (z48a).toInt = 0 → (u_109_9).toInt + (u_109_32).toInt ≤ 4000 := by have a0 := oa7 ro_109_9 ((inv_F hI 0 9 rfl e_109_23)) ((inv_F hI 0 1000 rfl e_109_29)) ((inv_F hI 0 500 rfl e_109_32)) ((inv_F hI 0 1000 rfl e_109_22)) ((inv_F hI 0 1000 rfl e_109_27)) i48a; have oc := oc_304_109; omega
    have n51l : (s48.2.2.1 109 23).toInt = 0 → (s48.2.2.1 109 9).toInt + (s48.2.2.1 109 32).toInt ≤ 4000 := by have b0 : z48a = s48.2.2.1 109 23 := e48; have b1 : u_109_9 = s48.2.2.1 109 9 := fr_F (e_109_9) hF48 rfl; have b2 : u_109_32 = s48.2.2.1 109 32 := fr_F (e_109_32) hF48 rfl; rw [← b0, ← b1, ← b2]; exact n51k
    exact g_return (gd rfl) rfl (hP _ _ ⟨s48, hI48, (fr_tr rfl fr_rf hF48), n51d, n51f, n51h, n51j, n51l, rfl, rfl, n51, n51a, n51b⟩)
  · skip
    have i15 := r_eq1 1 1 c15 (inv_F hI (-2147483648) 2147483647 rfl e_109_28) (in_c 1 rfl) rfl
    refine g_iload_n 19 (gd rfl) rfl rfl ?_
    refine g_bipush 110 21 (gd rfl) rfl rfl ?_
    refine g_cmp_eq 24 52 (gd rfl) rfl rfl (fun c21 => ?_) (fun c21 => ?_)
    · skip
      have i21 := r_eq1 110 110 c21 (inv_F hI (-2147483648) 2147483647 rfl e_109_30) (in_c 110 rfl) rfl
      refine g_iconst 0 53 (gd rfl) rfl rfl ?_
      refine g_istore_n 54 (gd rfl) rfl (Nat.le_of_ble_eq_true rfl) ?_
      refine g_iconst 1 55 (gd rfl) rfl rfl ?_
      refine g_istore 57 (gd rfl) rfl (Nat.le_of_ble_eq_true rfl) ?_
      have n57 : (u_109_27).toInt ≤ (u_109_22).toInt := by have a0 := oa10 ro_109_9 ((inv_F hI 0 9 rfl e_109_23)) ((inv_F hI 0 1000 rfl e_109_29)) i21 i15 ((inv_F hI 0 500 rfl e_109_32)) ((inv_F hI 0 1000 rfl e_109_22)) ((inv_F hI 0 1000 rfl e_109_27)) ((in_c 1 rfl)) ((in_c 0 rfl)); have oc := oc_304_109; omega
      have n57a : (u_109_27).toInt ≤ (u_109_27).toInt := by exact Int.le_refl _
      have n57b : 3 * (u_109_32).toInt + 1 + ((Int32.ofInt 0)).toInt ≤ (u_109_27).toInt := by have a0 := oa10 ro_109_9 ((inv_F hI 0 9 rfl e_109_23)) ((inv_F hI 0 1000 rfl e_109_29)) i21 i15 ((inv_F hI 0 500 rfl e_109_32)) ((inv_F hI 0 1000 rfl e_109_22)) ((inv_F hI 0 1000 rfl e_109_27)) ((in_c 1 rfl)) ((in_c 0 rfl)); have oc := oc_304_109; omega
      have n57c : ((Int32.ofInt 1)).toInt = 0 → (u_109_23).toInt = 0 → 3 * (u_109_32).toInt + 3 ≤ (u_109_27).toInt := by exact fun h => absurd h (by decide)
      have n57d : ((Int32.ofInt 1)).toInt ≠ 0 → 0 ≤ ((Int32.ofInt 0)).toInt := by have a0 := oa10 ro_109_9 ((inv_F hI 0 9 rfl e_109_23)) ((inv_F hI 0 1000 rfl e_109_29)) i21 i15 ((inv_F hI 0 500 rfl e_109_32)) ((inv_F hI 0 1000 rfl e_109_22)) ((inv_F hI 0 1000 rfl e_109_27)) ((in_c 1 rfl)) ((in_c 0 rfl)); have oc := oc_304_109; omega
      have n57e : (u_109_27).toInt + ((Int32.ofInt 0)).toInt ≤ (u_109_27).toInt := by have a0 := oa10 ro_109_9 ((inv_F hI 0 9 rfl e_109_23)) ((inv_F hI 0 1000 rfl e_109_29)) i21 i15 ((inv_F hI 0 500 rfl e_109_32)) ((inv_F hI 0 1000 rfl e_109_22)) ((inv_F hI 0 1000 rfl e_109_27)) ((in_c 1 rfl)) ((in_c 0 rfl)); have oc := oc_304_109; omega
      have n57f : ((Int32.ofInt 1)).toInt = 0 → (u_109_23).toInt = 0 → (u_109_27).toInt + 1 ≤ (u_109_27).toInt := by exact fun h => absurd h (by decide)
      have n57g : (s.2.2.1 109 23).toInt = 0 → LDQ s (s.2.2.1 109 32).toNatClampNeg := by exact fun _ => q_0
      have n57h : (s.2.2.1 109 23).toInt = 0 → ((u_109_30).toInt = 110 → 1 ≤ ((Int32.ofInt 0)).toInt → nq (s.1 128 (5 * (s.2.2.1 109 32).toNatClampNeg)) 0 25) ∧ ((u_109_30).toInt = 97 → 5 ≤ ((Int32.ofInt 0)).toInt → nq (s.1 128 (5 * (s.2.2.1 109 32).toNatClampNeg + 4)) 0 25) := by exact fun _ => ⟨fun _ b1 => (by exfalso; have h0 : (Int32.ofInt 0).toInt = 0 := rfl; omega), fun _ b1 => (by exfalso; have h0 : (Int32.ofInt 0).toInt = 0 := rfl; omega)⟩
      have n57i : ((Int32.ofInt 1)).toInt = 0 → (s.2.2.1 109 23).toInt = 0 → ((u_109_30).toInt = 110 → 1 ≤ ((Int32.ofInt 0)).toInt) ∧ ((u_109_30).toInt = 97 → 5 ≤ ((Int32.ofInt 0)).toInt) := by exact fun h => absurd h (by decide)
      have n57j : C4 (u_109_30).toInt ∧ (u_109_30) = s.2.2.1 109 30 ∧ (s.2.2.1 109 28).toInt = 1 ∧ (u_109_29) = s.2.2.1 109 29 := by exact ⟨(by unfold C4; have a0 := oa10 ro_109_9 ((inv_F hI 0 9 rfl e_109_23)) ((inv_F hI 0 1000 rfl e_109_29)) i21 i15 ((inv_F hI 0 500 rfl e_109_32)) ((inv_F hI 0 1000 rfl e_109_22)) ((inv_F hI 0 1000 rfl e_109_27)) ((in_c 1 rfl)) ((in_c 0 rfl)); have oc := oc_304_109; omega), e_109_30, by rw [← e_109_28]; have a0 := oa10 ro_109_9 ((inv_F hI 0 9 rfl e_109_23)) ((inv_F hI 0 1000 rfl e_109_29)) i21 i15 ((inv_F hI 0 500 rfl e_109_32)) ((inv_F hI 0 1000 rfl e_109_22)) ((inv_F hI 0 1000 rfl e_109_27)) ((in_c 1 rfl)) ((in_c 0 rfl)); have oc := oc_304_109; omega, e_109_29⟩
      have n57k : s.1 110 = s.1 110 ∧ s.1 112 = s.1 112 ∧ s.1 127 = s.1 127 ∧ (∀ j, j < 5 * (s.2.2.1 109 32).toNatClampNeg → s.1 128 j = s.1 128 j) ∧ s.2.2.1 109 32 = s.2.2.1 109 32 := by exact ⟨rfl, rfl, rfl, fun _ _ => rfl, rfl⟩
      have n57l : HQ5 s s ((u_109_30).toInt - 97) ((Int32.ofInt 0)) ((Int32.ofInt 1)) (u_109_27).toInt.toNat := by intro _ _; exact ⟨Int.natCast_nonneg _, fun a ha => by rw [e_109_27]; exact cst_0 ha⟩
      have n57m : HQ6 s s ((u_109_30).toInt - 97) ((Int32.ofInt 1)) (u_109_27).toInt.toNat := by intro _ h; exact absurd h (by decide)
      have n57n : HQ7 s s ((u_109_30).toInt - 97) := by intro h; exact absurd q_1 h
      have m57 : 100 - 10 * ((Int32.ofInt 0)).toInt + 5 * ((Int32.ofInt 1)).toInt + 9 - (u_109_23).toInt < ((130 : Nat) : Int) := by have a0 := oa10 ro_109_9 ((inv_F hI 0 9 rfl e_109_23)) ((inv_F hI 0 1000 rfl e_109_29)) i21 i15 ((inv_F hI 0 500 rfl e_109_32)) ((inv_F hI 0 1000 rfl e_109_22)) ((inv_F hI 0 1000 rfl e_109_27)) ((in_c 1 rfl)) ((in_c 0 rfl)); have oc := oc_304_109; omega
      exact gg_w (by first | exact Nat.le_of_ble_eq_true rfl | omega) (gg_f (gf_cons rfl (gf_cons rfl (gf_cons rfl (gf_cons rfl (gf_cons rfl gf_nil))))) (ct57 130 s u_109_29 u_109_30 (Int32.ofInt 0) (Int32.ofInt 1) u_109_27 u_109_23 u_109_32 hI fr_rf (in_w 0 1000 (inv_F hI 0 1000 rfl e_109_29) rfl) (in_w 97 119 i21 rfl) (in_w 0 5 (in_c 0 rfl) rfl) (in_w 0 1 (in_c 1 rfl) rfl) e_109_27 e_109_23 e_109_32 n57 n57a n57b n57c n57d n57e n57f n57g n57h n57i n57j n57k n57l n57m n57n m57))
    · skip
      refine g_iload_n 25 (gd rfl) rfl rfl ?_
      refine g_bipush 97 27 (gd rfl) rfl rfl ?_
      refine g_cmp_eq 30 52 (gd rfl) rfl rfl (fun c27 => ?_) (fun c27 => ?_)
      · skip
        have i27 := r_eq1 97 97 c27 (inv_F hI (-2147483648) 2147483647 rfl e_109_30) (in_c 97 rfl) rfl
        refine g_iconst 0 53 (gd rfl) rfl rfl ?_
        refine g_istore_n 54 (gd rfl) rfl (Nat.le_of_ble_eq_true rfl) ?_
        refine g_iconst 1 55 (gd rfl) rfl rfl ?_
        refine g_istore 57 (gd rfl) rfl (Nat.le_of_ble_eq_true rfl) ?_
        have n57 : (u_109_27).toInt ≤ (u_109_22).toInt := by have a0 := oa10 ro_109_9 ((inv_F hI 0 9 rfl e_109_23)) ((inv_F hI 0 1000 rfl e_109_29)) i27 i15 ((inv_F hI 0 500 rfl e_109_32)) ((inv_F hI 0 1000 rfl e_109_22)) ((inv_F hI 0 1000 rfl e_109_27)) ((in_c 1 rfl)) ((in_c 0 rfl)); have oc := oc_304_109; omega
        have n57a : (u_109_27).toInt ≤ (u_109_27).toInt := by exact Int.le_refl _
        have n57b : 3 * (u_109_32).toInt + 1 + ((Int32.ofInt 0)).toInt ≤ (u_109_27).toInt := by have a0 := oa10 ro_109_9 ((inv_F hI 0 9 rfl e_109_23)) ((inv_F hI 0 1000 rfl e_109_29)) i27 i15 ((inv_F hI 0 500 rfl e_109_32)) ((inv_F hI 0 1000 rfl e_109_22)) ((inv_F hI 0 1000 rfl e_109_27)) ((in_c 1 rfl)) ((in_c 0 rfl)); have oc := oc_304_109; omega
        have n57c : ((Int32.ofInt 1)).toInt = 0 → (u_109_23).toInt = 0 → 3 * (u_109_32).toInt + 3 ≤ (u_109_27).toInt := by exact fun h => absurd h (by decide)
        have n57d : ((Int32.ofInt 1)).toInt ≠ 0 → 0 ≤ ((Int32.ofInt 0)).toInt := by have a0 := oa10 ro_109_9 ((inv_F hI 0 9 rfl e_109_23)) ((inv_F hI 0 1000 rfl e_109_29)) i27 i15 ((inv_F hI 0 500 rfl e_109_32)) ((inv_F hI 0 1000 rfl e_109_22)) ((inv_F hI 0 1000 rfl e_109_27)) ((in_c 1 rfl)) ((in_c 0 rfl)); have oc := oc_304_109; omega
        have n57e : (u_109_27).toInt + ((Int32.ofInt 0)).toInt ≤ (u_109_27).toInt := by have a0 := oa10 ro_109_9 ((inv_F hI 0 9 rfl e_109_23)) ((inv_F hI 0 1000 rfl e_109_29)) i27 i15 ((inv_F hI 0 500 rfl e_109_32)) ((inv_F hI 0 1000 rfl e_109_22)) ((inv_F hI 0 1000 rfl e_109_27)) ((in_c 1 rfl)) ((in_c 0 rfl)); have oc := oc_304_109; omega
        have n57f : ((Int32.ofInt 1)).toInt = 0 → (u_109_23).toInt = 0 → (u_109_27).toInt + 1 ≤ (u_109_27).toInt := by exact fun h => absurd h (by decide)
        have n57g : (s.2.2.1 109 23).toInt = 0 → LDQ s (s.2.2.1 109 32).toNatClampNeg := by exact fun _ => q_0
        have n57h : (s.2.2.1 109 23).toInt = 0 → ((u_109_30).toInt = 110 → 1 ≤ ((Int32.ofInt 0)).toInt → nq (s.1 128 (5 * (s.2.2.1 109 32).toNatClampNeg)) 0 25) ∧ ((u_109_30).toInt = 97 → 5 ≤ ((Int32.ofInt 0)).toInt → nq (s.1 128 (5 * (s.2.2.1 109 32).toNatClampNeg + 4)) 0 25) := by exact fun _ => ⟨fun _ b1 => (by exfalso; have h0 : (Int32.ofInt 0).toInt = 0 := rfl; omega), fun _ b1 => (by exfalso; have h0 : (Int32.ofInt 0).toInt = 0 := rfl; omega)⟩
        have n57i : ((Int32.ofInt 1)).toInt = 0 → (s.2.2.1 109 23).toInt = 0 → ((u_109_30).toInt = 110 → 1 ≤ ((Int32.ofInt 0)).toInt) ∧ ((u_109_30).toInt = 97 → 5 ≤ ((Int32.ofInt 0)).toInt) := by exact fun h => absurd h (by decide)
        have n57j : C4 (u_109_30).toInt ∧ (u_109_30) = s.2.2.1 109 30 ∧ (s.2.2.1 109 28).toInt = 1 ∧ (u_109_29) = s.2.2.1 109 29 := by exact ⟨(by unfold C4; have a0 := oa10 ro_109_9 ((inv_F hI 0 9 rfl e_109_23)) ((inv_F hI 0 1000 rfl e_109_29)) i27 i15 ((inv_F hI 0 500 rfl e_109_32)) ((inv_F hI 0 1000 rfl e_109_22)) ((inv_F hI 0 1000 rfl e_109_27)) ((in_c 1 rfl)) ((in_c 0 rfl)); have oc := oc_304_109; omega), e_109_30, by rw [← e_109_28]; have a0 := oa10 ro_109_9 ((inv_F hI 0 9 rfl e_109_23)) ((inv_F hI 0 1000 rfl e_109_29)) i27 i15 ((inv_F hI 0 500 rfl e_109_32)) ((inv_F hI 0 1000 rfl e_109_22)) ((inv_F hI 0 1000 rfl e_109_27)) ((in_c 1 rfl)) ((in_c 0 rfl)); have oc := oc_304_109; omega, e_109_29⟩
        have n57k : s.1 110 = s.1 110 ∧ s.1 112 = s.1 112 ∧ s.1 127 = s.1 127 ∧ (∀ j, j < 5 * (s.2.2.1 109 32).toNatClampNeg → s.1 128 j = s.1 128 j) ∧ s.2.2.1 109 32 = s.2.2.1 109 32 := by exact ⟨rfl, rfl, rfl, fun _ _ => rfl, rfl⟩
        have n57l : HQ5 s s ((u_109_30).toInt - 97) ((Int32.ofInt 0)) ((Int32.ofInt 1)) (u_109_27).toInt.toNat := by intro _ _; exact ⟨Int.natCast_nonneg _, fun a ha => by rw [e_109_27]; exact cst_0 ha⟩
        have n57m : HQ6 s s ((u_109_30).toInt - 97) ((Int32.ofInt 1)) (u_109_27).toInt.toNat := by intro _ h; exact absurd h (by decide)
        have n57n : HQ7 s s ((u_109_30).toInt - 97) := by intro h; exact absurd q_1 h
        have m57 : 100 - 10 * ((Int32.ofInt 0)).toInt + 5 * ((Int32.ofInt 1)).toInt + 9 - (u_109_23).toInt < ((130 : Nat) : Int) := by have a0 := oa10 ro_109_9 ((inv_F hI 0 9 rfl e_109_23)) ((inv_F hI 0 1000 rfl e_109_29)) i27 i15 ((inv_F hI 0 500 rfl e_109_32)) ((inv_F hI 0 1000 rfl e_109_22)) ((inv_F hI 0 1000 rfl e_109_27)) ((in_c 1 rfl)) ((in_c 0 rfl)); have oc := oc_304_109; omega
        exact gg_w (by first | exact Nat.le_of_ble_eq_true rfl | omega) (gg_f (gf_cons rfl (gf_cons rfl (gf_cons rfl (gf_cons rfl (gf_cons rfl gf_nil))))) (ct57 130 s u_109_29 u_109_30 (Int32.ofInt 0) (Int32.ofInt 1) u_109_27 u_109_23 u_109_32 hI fr_rf (in_w 0 1000 (inv_F hI 0 1000 rfl e_109_29) rfl) (in_w 97 119 i27 rfl) (in_w 0 5 (in_c 0 rfl) rfl) (in_w 0 1 (in_c 1 rfl) rfl) e_109_27 e_109_23 e_109_32 n57 n57a n57b n57c n57d n57e n57f n57g n57h n57i n57j n57k n57l n57m n57n m57))
      · skip
        refine g_iload_n 31 (gd rfl) rfl rfl ?_
        refine g_bipush 116 33 (gd rfl) rfl rfl ?_
        refine g_cmp_eq 36 52 (gd rfl) rfl rfl (fun c33 => ?_) (fun c33 => ?_)
        · skip
          have i33 := r_eq1 116 116 c33 (inv_F hI (-2147483648) 2147483647 rfl e_109_30) (in_c 116 rfl) rfl
          refine g_iconst 0 53 (gd rfl) rfl rfl ?_
          refine g_istore_n 54 (gd rfl) rfl (Nat.le_of_ble_eq_true rfl) ?_
          refine g_iconst 1 55 (gd rfl) rfl rfl ?_
          refine g_istore 57 (gd rfl) rfl (Nat.le_of_ble_eq_true rfl) ?_
          have n57 : (u_109_27).toInt ≤ (u_109_22).toInt := by have a0 := oa10 ro_109_9 ((inv_F hI 0 9 rfl e_109_23)) ((inv_F hI 0 1000 rfl e_109_29)) i33 i15 ((inv_F hI 0 500 rfl e_109_32)) ((inv_F hI 0 1000 rfl e_109_22)) ((inv_F hI 0 1000 rfl e_109_27)) ((in_c 1 rfl)) ((in_c 0 rfl)); have oc := oc_304_109; omega
          have n57a : (u_109_27).toInt ≤ (u_109_27).toInt := by exact Int.le_refl _
          have n57b : 3 * (u_109_32).toInt + 1 + ((Int32.ofInt 0)).toInt ≤ (u_109_27).toInt := by have a0 := oa10 ro_109_9 ((inv_F hI 0 9 rfl e_109_23)) ((inv_F hI 0 1000 rfl e_109_29)) i33 i15 ((inv_F hI 0 500 rfl e_109_32)) ((inv_F hI 0 1000 rfl e_109_22)) ((inv_F hI 0 1000 rfl e_109_27)) ((in_c 1 rfl)) ((in_c 0 rfl)); have oc := oc_304_109; omega
          have n57c : ((Int32.ofInt 1)).toInt = 0 → (u_109_23).toInt = 0 → 3 * (u_109_32).toInt + 3 ≤ (u_109_27).toInt := by exact fun h => absurd h (by decide)
          have n57d : ((Int32.ofInt 1)).toInt ≠ 0 → 0 ≤ ((Int32.ofInt 0)).toInt := by have a0 := oa10 ro_109_9 ((inv_F hI 0 9 rfl e_109_23)) ((inv_F hI 0 1000 rfl e_109_29)) i33 i15 ((inv_F hI 0 500 rfl e_109_32)) ((inv_F hI 0 1000 rfl e_109_22)) ((inv_F hI 0 1000 rfl e_109_27)) ((in_c 1 rfl)) ((in_c 0 rfl)); have oc := oc_304_109; omega
          have n57e : (u_109_27).toInt + ((Int32.ofInt 0)).toInt ≤ (u_109_27).toInt := by have a0 := oa10 ro_109_9 ((inv_F hI 0 9 rfl e_109_23)) ((inv_F hI 0 1000 rfl e_109_29)) i33 i15 ((inv_F hI 0 500 rfl e_109_32)) ((inv_F hI 0 1000 rfl e_109_22)) ((inv_F hI 0 1000 rfl e_109_27)) ((in_c 1 rfl)) ((in_c 0 rfl)); have oc := oc_304_109; omega
          have n57f : ((Int32.ofInt 1)).toInt = 0 → (u_109_23).toInt = 0 → (u_109_27).toInt + 1 ≤ (u_109_27).toInt := by exact fun h => absurd h (by decide)
          have n57g : (s.2.2.1 109 23).toInt = 0 → LDQ s (s.2.2.1 109 32).toNatClampNeg := by exact fun _ => q_0
          have n57h : (s.2.2.1 109 23).toInt = 0 → ((u_109_30).toInt = 110 → 1 ≤ ((Int32.ofInt 0)).toInt → nq (s.1 128 (5 * (s.2.2.1 109 32).toNatClampNeg)) 0 25) ∧ ((u_109_30).toInt = 97 → 5 ≤ ((Int32.ofInt 0)).toInt → nq (s.1 128 (5 * (s.2.2.1 109 32).toNatClampNeg + 4)) 0 25) := by exact fun _ => ⟨fun _ b1 => (by exfalso; have h0 : (Int32.ofInt 0).toInt = 0 := rfl; omega), fun _ b1 => (by exfalso; have h0 : (Int32.ofInt 0).toInt = 0 := rfl; omega)⟩
          have n57i : ((Int32.ofInt 1)).toInt = 0 → (s.2.2.1 109 23).toInt = 0 → ((u_109_30).toInt = 110 → 1 ≤ ((Int32.ofInt 0)).toInt) ∧ ((u_109_30).toInt = 97 → 5 ≤ ((Int32.ofInt 0)).toInt) := by exact fun h => absurd h (by decide)
          have n57j : C4 (u_109_30).toInt ∧ (u_109_30) = s.2.2.1 109 30 ∧ (s.2.2.1 109 28).toInt = 1 ∧ (u_109_29) = s.2.2.1 109 29 := by exact ⟨(by unfold C4; have a0 := oa10 ro_109_9 ((inv_F hI 0 9 rfl e_109_23)) ((inv_F hI 0 1000 rfl e_109_29)) i33 i15 ((inv_F hI 0 500 rfl e_109_32)) ((inv_F hI 0 1000 rfl e_109_22)) ((inv_F hI 0 1000 rfl e_109_27)) ((in_c 1 rfl)) ((in_c 0 rfl)); have oc := oc_304_109; omega), e_109_30, by rw [← e_109_28]; have a0 := oa10 ro_109_9 ((inv_F hI 0 9 rfl e_109_23)) ((inv_F hI 0 1000 rfl e_109_29)) i33 i15 ((inv_F hI 0 500 rfl e_109_32)) ((inv_F hI 0 1000 rfl e_109_22)) ((inv_F hI 0 1000 rfl e_109_27)) ((in_c 1 rfl)) ((in_c 0 rfl)); have oc := oc_304_109; omega, e_109_29⟩
          have n57k : s.1 110 = s.1 110 ∧ s.1 112 = s.1 112 ∧ s.1 127 = s.1 127 ∧ (∀ j, j < 5 * (s.2.2.1 109 32).toNatClampNeg → s.1 128 j = s.1 128 j) ∧ s.2.2.1 109 32 = s.2.2.1 109 32 := by exact ⟨rfl, rfl, rfl, fun _ _ => rfl, rfl⟩
          have n57l : HQ5 s s ((u_109_30).toInt - 97) ((Int32.ofInt 0)) ((Int32.ofInt 1)) (u_109_27).toInt.toNat := by intro _ _; exact ⟨Int.natCast_nonneg _, fun a ha => by rw [e_109_27]; exact cst_0 ha⟩
          have n57m : HQ6 s s ((u_109_30).toInt - 97) ((Int32.ofInt 1)) (u_109_27).toInt.toNat := by intro _ h; exact absurd h (by decide)
          have n57n : HQ7 s s ((u_109_30).toInt - 97) := by intro h; exact absurd q_1 h
          have m57 : 100 - 10 * ((Int32.ofInt 0)).toInt + 5 * ((Int32.ofInt 1)).toInt + 9 - (u_109_23).toInt < ((130 : Nat) : Int) := by have a0 := oa10 ro_109_9 ((inv_F hI 0 9 rfl e_109_23)) ((inv_F hI 0 1000 rfl e_109_29)) i33 i15 ((inv_F hI 0 500 rfl e_109_32)) ((inv_F hI 0 1000 rfl e_109_22)) ((inv_F hI 0 1000 rfl e_109_27)) ((in_c 1 rfl)) ((in_c 0 rfl)); have oc := oc_304_109; omega
          exact gg_w (by first | exact Nat.le_of_ble_eq_true rfl | omega) (gg_f (gf_cons rfl (gf_cons rfl (gf_cons rfl (gf_cons rfl (gf_cons rfl gf_nil))))) (ct57 130 s u_109_29 u_109_30 (Int32.ofInt 0) (Int32.ofInt 1) u_109_27 u_109_23 u_109_32 hI fr_rf (in_w 0 1000 (inv_F hI 0 1000 rfl e_109_29) rfl) (in_w 97 119 i33 rfl) (in_w 0 5 (in_c 0 rfl) rfl) (in_w 0 1 (in_c 1 rfl) rfl) e_109_27 e_109_23 e_109_32 n57 n57a n57b n57c n57d n57e n57f n57g n57h n57i n57j n57k n57l n57m n57n m57))
        · skip
          refine g_iload_n 37 (gd rfl) rfl rfl ?_
          refine g_bipush 119 39 (gd rfl) rfl rfl ?_
          refine g_cmp_eq 42 52 (gd rfl) rfl rfl (fun c39 => ?_) (fun c39 => ?_)
          · skip
            have i39 := r_eq1 119 119 c39 (inv_F hI (-2147483648) 2147483647 rfl e_109_30) (in_c 119 rfl) rfl
            refine g_iconst 0 53 (gd rfl) rfl rfl ?_
            refine g_istore_n 54 (gd rfl) rfl (Nat.le_of_ble_eq_true rfl) ?_
            refine g_iconst 1 55 (gd rfl) rfl rfl ?_
            refine g_istore 57 (gd rfl) rfl (Nat.le_of_ble_eq_true rfl) ?_
            have n57 : (u_109_27).toInt ≤ (u_109_22).toInt := by have a0 := oa10 ro_109_9 ((inv_F hI 0 9 rfl e_109_23)) ((inv_F hI 0 1000 rfl e_109_29)) i39 i15 ((inv_F hI 0 500 rfl e_109_32)) ((inv_F hI 0 1000 rfl e_109_22)) ((inv_F hI 0 1000 rfl e_109_27)) ((in_c 1 rfl)) ((in_c 0 rfl)); have oc := oc_304_109; omega
            have n57a : (u_109_27).toInt ≤ (u_109_27).toInt := by exact Int.le_refl _
            have n57b : 3 * (u_109_32).toInt + 1 + ((Int32.ofInt 0)).toInt ≤ (u_109_27).toInt := by have a0 := oa10 ro_109_9 ((inv_F hI 0 9 rfl e_109_23)) ((inv_F hI 0 1000 rfl e_109_29)) i39 i15 ((inv_F hI 0 500 rfl e_109_32)) ((inv_F hI 0 1000 rfl e_109_22)) ((inv_F hI 0 1000 rfl e_109_27)) ((in_c 1 rfl)) ((in_c 0 rfl)); have oc := oc_304_109; omega
            have n57c : ((Int32.ofInt 1)).toInt = 0 → (u_109_23).toInt = 0 → 3 * (u_109_32).toInt + 3 ≤ (u_109_27).toInt := by exact fun h => absurd h (by decide)
            have n57d : ((Int32.ofInt 1)).toInt ≠ 0 → 0 ≤ ((Int32.ofInt 0)).toInt := by have a0 := oa10 ro_109_9 ((inv_F hI 0 9 rfl e_109_23)) ((inv_F hI 0 1000 rfl e_109_29)) i39 i15 ((inv_F hI 0 500 rfl e_109_32)) ((inv_F hI 0 1000 rfl e_109_22)) ((inv_F hI 0 1000 rfl e_109_27)) ((in_c 1 rfl)) ((in_c 0 rfl)); have oc := oc_304_109; omega
            have n57e : (u_109_27).toInt + ((Int32.ofInt 0)).toInt ≤ (u_109_27).toInt := by have a0 := oa10 ro_109_9 ((inv_F hI 0 9 rfl e_109_23)) ((inv_F hI 0 1000 rfl e_109_29)) i39 i15 ((inv_F hI 0 500 rfl e_109_32)) ((inv_F hI 0 1000 rfl e_109_22)) ((inv_F hI 0 1000 rfl e_109_27)) ((in_c 1 rfl)) ((in_c 0 rfl)); have oc := oc_304_109; omega
            have n57f : ((Int32.ofInt 1)).toInt = 0 → (u_109_23).toInt = 0 → (u_109_27).toInt + 1 ≤ (u_109_27).toInt := by exact fun h => absurd h (by decide)
            have n57g : (s.2.2.1 109 23).toInt = 0 → LDQ s (s.2.2.1 109 32).toNatClampNeg := by exact fun _ => q_0
            have n57h : (s.2.2.1 109 23).toInt = 0 → ((u_109_30).toInt = 110 → 1 ≤ ((Int32.ofInt 0)).toInt → nq (s.1 128 (5 * (s.2.2.1 109 32).toNatClampNeg)) 0 25) ∧ ((u_109_30).toInt = 97 → 5 ≤ ((Int32.ofInt 0)).toInt → nq (s.1 128 (5 * (s.2.2.1 109 32).toNatClampNeg + 4)) 0 25) := by exact fun _ => ⟨fun _ b1 => (by exfalso; have h0 : (Int32.ofInt 0).toInt = 0 := rfl; omega), fun _ b1 => (by exfalso; have h0 : (Int32.ofInt 0).toInt = 0 := rfl; omega)⟩
            have n57i : ((Int32.ofInt 1)).toInt = 0 → (s.2.2.1 109 23).toInt = 0 → ((u_109_30).toInt = 110 → 1 ≤ ((Int32.ofInt 0)).toInt) ∧ ((u_109_30).toInt = 97 → 5 ≤ ((Int32.ofInt 0)).toInt) := by exact fun h => absurd h (by decide)
            have n57j : C4 (u_109_30).toInt ∧ (u_109_30) = s.2.2.1 109 30 ∧ (s.2.2.1 109 28).toInt = 1 ∧ (u_109_29) = s.2.2.1 109 29 := by exact ⟨(by unfold C4; have a0 := oa10 ro_109_9 ((inv_F hI 0 9 rfl e_109_23)) ((inv_F hI 0 1000 rfl e_109_29)) i39 i15 ((inv_F hI 0 500 rfl e_109_32)) ((inv_F hI 0 1000 rfl e_109_22)) ((inv_F hI 0 1000 rfl e_109_27)) ((in_c 1 rfl)) ((in_c 0 rfl)); have oc := oc_304_109; omega), e_109_30, by rw [← e_109_28]; have a0 := oa10 ro_109_9 ((inv_F hI 0 9 rfl e_109_23)) ((inv_F hI 0 1000 rfl e_109_29)) i39 i15 ((inv_F hI 0 500 rfl e_109_32)) ((inv_F hI 0 1000 rfl e_109_22)) ((inv_F hI 0 1000 rfl e_109_27)) ((in_c 1 rfl)) ((in_c 0 rfl)); have oc := oc_304_109; omega, e_109_29⟩
            have n57k : s.1 110 = s.1 110 ∧ s.1 112 = s.1 112 ∧ s.1 127 = s.1 127 ∧ (∀ j, j < 5 * (s.2.2.1 109 32).toNatClampNeg → s.1 128 j = s.1 128 j) ∧ s.2.2.1 109 32 = s.2.2.1 109 32 := by exact ⟨rfl, rfl, rfl, fun _ _ => rfl, rfl⟩
            have n57l : HQ5 s s ((u_109_30).toInt - 97) ((Int32.ofInt 0)) ((Int32.ofInt 1)) (u_109_27).toInt.toNat := by intro _ _; exact ⟨Int.natCast_nonneg _, fun a ha => by rw [e_109_27]; exact cst_0 ha⟩
            have n57m : HQ6 s s ((u_109_30).toInt - 97) ((Int32.ofInt 1)) (u_109_27).toInt.toNat := by intro _ h; exact absurd h (by decide)
            have n57n : HQ7 s s ((u_109_30).toInt - 97) := by intro h; exact absurd q_1 h
            have m57 : 100 - 10 * ((Int32.ofInt 0)).toInt + 5 * ((Int32.ofInt 1)).toInt + 9 - (u_109_23).toInt < ((130 : Nat) : Int) := by have a0 := oa10 ro_109_9 ((inv_F hI 0 9 rfl e_109_23)) ((inv_F hI 0 1000 rfl e_109_29)) i39 i15 ((inv_F hI 0 500 rfl e_109_32)) ((inv_F hI 0 1000 rfl e_109_22)) ((inv_F hI 0 1000 rfl e_109_27)) ((in_c 1 rfl)) ((in_c 0 rfl)); have oc := oc_304_109; omega
            exact gg_w (by first | exact Nat.le_of_ble_eq_true rfl | omega) (gg_f (gf_cons rfl (gf_cons rfl (gf_cons rfl (gf_cons rfl (gf_cons rfl gf_nil))))) (ct57 130 s u_109_29 u_109_30 (Int32.ofInt 0) (Int32.ofInt 1) u_109_27 u_109_23 u_109_32 hI fr_rf (in_w 0 1000 (inv_F hI 0 1000 rfl e_109_29) rfl) (in_w 97 119 i39 rfl) (in_w 0 5 (in_c 0 rfl) rfl) (in_w 0 1 (in_c 1 rfl) rfl) e_109_27 e_109_23 e_109_32 n57 n57a n57b n57c n57d n57e n57f n57g n57h n57i n57j n57k n57l n57m n57n m57))
          · skip
            refine g_aload_n 43 (gd rfl) rfl rfl ?_
            refine g_iconst 2 44 (gd rfl) rfl rfl ?_
            refine g_aload_n 45 (gd rfl) rfl rfl ?_
            refine g_getI 48 (gd rfl) rfl rfl rfl (fun z45 e45 => ?_)
            have q45 : u_109_29 = z45 := (e_109_29).trans e45.symm
            subst q45
            refine g_callv (X := _) (As := [.int (Int32.ofInt 2), .int u_109_29]) (r := []) (b := A 109) (q := 109) 51 (gd rfl) rfl rfl rfl rfl rfl (ww_o rfl) (Nat.le_of_ble_eq_true rfl) (Nat.zero_le _) (Nat.zero_le _) (f_298 (by first | exact dq1 hd rfl | exact dq0 hd rfl | exact dq2 hd rfl | exact dq3 hd rfl | omega) hI (in_w 1 5 (in_c 2 rfl) rfl) e_109_23) (fun e u h => h) (fun v u h => ?_)
            obtain ⟨s48, hI48, hF48, n48, rfl, rfl, p48⟩ := h
            obtain ⟨z48a, e48⟩ : ∃ w, w = s48.2.2.1 109 23 := ⟨_, rfl⟩
            have i48a := inv_F hI48 0 9 rfl e48
            rw [← (show z48a = s48.2.2.1 109 23 from e48)] at n48
            show GG _ _ _ _ _ _ _ _ [] _ _ _
            have n51 : (s48.2.2.1 109 23).toInt = 0 → LDQ s48 (s48.2.2.1 109 32).toNatClampNeg := by (intro hf; exfalso; have hg : (s48.2.2.1 109 23).toInt = 0 := hf; rw [← e48] at hg; have hn := n48; omega)
            have n51a : RCM s s48 := by exact rcm_48 (by first | exact p48 | (rw [← e_109_29]; exact p48)) q_1 (by rw [← e_109_29]; have a0 := oa8 ro_109_9 ((inv_F hI 0 9 rfl e_109_23)) ((inv_F hI 0 1000 rfl e_109_29)) i15 ((inv_F hI 0 500 rfl e_109_32)) ((inv_F hI 0 1000 rfl e_109_22)) ((inv_F hI 0 1000 rfl e_109_27)) i48a; have oc := oc_304_109; omega) (by rw [← e_109_28, ← e_109_30]; unfold C4; have a0 := oa8 ro_109_9 ((inv_F hI 0 9 rfl e_109_23)) ((inv_F hI 0 1000 rfl e_109_29)) i15 ((inv_F hI 0 500 rfl e_109_32)) ((inv_F hI 0 1000 rfl e_109_22)) ((inv_F hI 0 1000 rfl e_109_27)) i48a; have oc := oc_304_109; omega)
            have n51b : G0S s s48 := by exact g0_cg (hF48.1 110 rfl) (hF48.1 112 rfl)
            have n51c : (u_109_27).toInt ≤ (u_109_22).toInt := by have a0 := oa8 ro_109_9 ((inv_F hI 0 9 rfl e_109_23)) ((inv_F hI 0 1000 rfl e_109_29)) i15 ((inv_F hI 0 500 rfl e_109_32)) ((inv_F hI 0 1000 rfl e_109_22)) ((inv_F hI 0 1000 rfl e_109_27)) i48a; have oc := oc_304_109; omega
            have n51d : (s48.2.2.1 109 27).toInt ≤ (s48.2.2.1 109 22).toInt := by have b0 : u_109_27 = s48.2.2.1 109 27 := fr_F (e_109_27) hF48 rfl; have b1 : u_109_22 = s48.2.2.1 109 22 := fr_F (e_109_22) hF48 rfl; rw [← b0, ← b1]; exact n51c
            have n51e : (u_109_27).toInt ≤ (u_109_27).toInt := by exact Int.le_refl _
            have n51f : (s.2.2.1 109 27).toInt ≤ (s48.2.2.1 109 27).toInt := by have b0 : u_109_27 = s48.2.2.1 109 27 := fr_F (e_109_27) hF48 rfl; first | (rw [← b0, ← e_109_27]; exact n51e) | (rw [← b0]; exact n51e)
            have n51g : (z48a).toInt = 0 → 3 * (u_109_32).toInt ≤ (u_109_27).toInt := by have a0 := oa8 ro_109_9 ((inv_F hI 0 9 rfl e_109_23)) ((inv_F hI 0 1000 rfl e_109_29)) i15 ((inv_F hI 0 500 rfl e_109_32)) ((inv_F hI 0 1000 rfl e_109_22)) ((inv_F hI 0 1000 rfl e_109_27)) i48a; have oc := oc_304_109; omega
            have n51h : (s48.2.2.1 109 23).toInt = 0 → 3 * (s48.2.2.1 109 32).toInt ≤ (s48.2.2.1 109 27).toInt := by have b0 : z48a = s48.2.2.1 109 23 := e48; have b1 : u_109_32 = s48.2.2.1 109 32 := fr_F (e_109_32) hF48 rfl; have b2 : u_109_27 = s48.2.2.1 109 27 := fr_F (e_109_27) hF48 rfl; rw [← b0, ← b1, ← b2]; exact n51g
            have n51i : (z48a).toInt = 0 → (u_109_27).toInt + 1 ≤ (u_109_27).toInt := by have a0 := oa8 ro_109_9 ((inv_F hI 0 9 rfl e_109_23)) ((inv_F hI 0 1000 rfl e_109_29)) i15 ((inv_F hI 0 500 rfl e_109_32)) ((inv_F hI 0 1000 rfl e_109_22)) ((inv_F hI 0 1000 rfl e_109_27)) i48a; have oc := oc_304_109; omega
            have n51j : (s48.2.2.1 109 23).toInt = 0 → (s.2.2.1 109 27).toInt + 1 ≤ (s48.2.2.1 109 27).toInt := by have b0 : z48a = s48.2.2.1 109 23 := e48; have b1 : u_109_27 = s48.2.2.1 109 27 := fr_F (e_109_27) hF48 rfl; first | (rw [← b0, ← b1, ← e_109_27]; exact n51i) | (rw [← b0, ← b1]; exact n51i)
            have n51k : (z48a).toInt = 0 → (u_109_9).toInt + (u_109_32).toInt ≤ 4000 := by have a0 := oa8 ro_109_9 ((inv_F hI 0 9 rfl e_109_23)) ((inv_F hI 0 1000 rfl e_109_29)) i15 ((inv_F hI 0 500 rfl e_109_32)) ((inv_F hI 0 1000 rfl e_109_22)) ((inv_F hI 0 1000 rfl e_109_27)) i48a; have oc := oc_304_109; omega
            have n51l : (s48.2.2.1 109 23).toInt = 0 → (s48.2.2.1 109 9).toInt + (s48.2.2.1 109 32).toInt ≤ 4000 := by have b0 : z48a = s48.2.2.1 109 23 := e48; have b1 : u_109_9 = s48.2.2.1 109 9 := fr_F (e_109_9) hF48 rfl; have b2 : u_109_32 = s48.2.2.1 109 32 := fr_F (e_109_32) hF48 rfl; rw [← b0, ← b1, ← b2]; exact n51k
            exact g_return (gd rfl) rfl (hP _ _ ⟨s48, hI48, (fr_tr rfl fr_rf hF48), n51d, n51f, n51h, n51j, n51l, rfl, rfl, n51, n51a, n51b⟩)
end
section
/-! FUNCTIONAL CONTRACTS, by fgen.py -/
theorem oc_302_109 : (Int32.ofInt (-4)).toInt = (-4) ∧ (Int32.ofInt (-1)).toInt = (-1) ∧ (Int32.ofInt 0).toInt = 0 ∧ (Int32.ofInt 1).toInt = 1 ∧ (Int32.ofInt 2).toInt = 2 ∧ (Int32.ofInt 3).toInt = 3 ∧ (Int32.ofInt 4).toInt = 4 ∧ (Int32.ofInt 5).toInt = 5 := ⟨rfl, rfl, rfl, rfl, rfl, rfl, rfl, rfl⟩
/-- GraphHouseModel.load -/
theorem f_302 {Z : AmZ} {A : Nat → Nat} {s : GS} {ex : va_W} {d : Nat} {X : AmX} {u_109_22 : Int32} (hd : 6 ≤ d) (hI : Inv s) (e_109_22 : u_109_22 = s.2.2.1 109 22) : GC Z d 302 [.ref (A 109)] (WW Z A s ++ ex) 0 0 (fun v u => ∃ t : GS, Inv t ∧ Fr fm_302 s t ∧ ∃ z : Int32, v = some (.int z) ∧ u = WW Z A t ++ ex ∧ In z (-4) 500 ∧ (LOT (s.1 125) (s.2.2.1 109 22).toInt.toNat (gvR s) (z).toInt (t.2.2.1 109 23).toInt (t.2.2.1 109 24).toInt (gvR t))) X := by
  intro post xp hP hX
  have ro_109_22 := inv_F hI 0 1000 rfl e_109_22
  have ct72 : ∀ (k72 : Nat) (sc72 : GS) (y72_1 : Int32) (w72_109_9 : Int32) (w72_109_32 : Int32), Inv sc72 → Fr fm_302 s sc72 → (In y72_1 0 500) → (w72_109_9 = sc72.2.2.1 109 9) → (w72_109_32 = sc72.2.2.1 109 32) → ((w72_109_9).toInt + (w72_109_32).toInt - (y72_1).toInt ≤ 4000) → (LDK sc72 (sc72.2.2.1 109 32).toNatClampNeg (y72_1).toNatClampNeg) → (LD3 s sc72 (y72_1).toNatClampNeg) → 500 - (y72_1).toInt < (k72 : Int) → GG Z (d - 1) 302 post (gx xp) (1 + k72 * 900) 72 (fun j => xlook j [(0, .ref (A 109)), (1, .int y72_1)]) [] (WW Z A sc72 ++ ex) 0 0 := by
    intro k72
    induction k72 with
    | zero => intro sc72 y72_1 w72_109_9 w72_109_32 hIc72 hFc72 j72_1 v72_109_9 v72_109_32 n72_0 g72_0 g72_1 mm72; exact m_no mm72 j72_1 rfl
    | succ k72 ih72 =>
      intro sc72 y72_1 w72_109_9 w72_109_32 hIc72 hFc72 j72_1 v72_109_9 v72_109_32 n72_0 g72_0 g72_1 mm72
      refine gg_w (M := 1 + k72 * 900 + 900) gws ?_
      refine g_iload_n 73 (gd rfl) rfl rfl ?_
      refine g_aload_n 74 (gd rfl) rfl rfl ?_
      refine g_getI 77 (gd rfl) rfl rfl rfl (fun z74 e74 => ?_)
      have q74 : w72_109_32 = z74 := (v72_109_32).trans e74.symm
      subst q74
      refine g_cmp_ge 80 242 (gd rfl) rfl rfl (fun c77 => ?_) (fun c77 => ?_)
      · skip
        refine g_aload_n 243 (gd rfl) rfl rfl ?_
        refine g_getI 246 (gd rfl) rfl rfl rfl (fun z243 e243 => ?_)
        have q243 : w72_109_32 = z243 := (v72_109_32).trans e243.symm
        subst q243
        have n246 : LOT (s.1 125) (s.2.2.1 109 22).toInt.toNat (gvR s) (w72_109_32).toInt (sc72.2.2.1 109 23).toInt (sc72.2.2.1 109 24).toInt (gvR sc72) := by exact ld3_e g72_1 (by rw [← v72_109_32]; show w72_109_32.toInt.toNat ≤ y72_1.toInt.toNat; have a0 := oa4 ro_109_22 ((inv_F hIc72 0 500 rfl v72_109_32)) ((inv_F hIc72 0 4000 rfl v72_109_9)) j72_1; have oc := oc_302_109; (first | exact zt_v (by omega) | omega)) (by rw [← v72_109_32]; show w72_109_32.toInt = ((w72_109_32.toInt.toNat : Nat) : Int); have a0 := oa4 ro_109_22 ((inv_F hIc72 0 500 rfl v72_109_32)) ((inv_F hIc72 0 4000 rfl v72_109_9)) j72_1; have oc := oc_302_109; omega) rfl
        exact g_ireturn (gd rfl) rfl rfl (hP _ _ ⟨sc72, hIc72, hFc72, w72_109_32, rfl, rfl, in_w (-4) 500 (inv_F hIc72 0 500 rfl v72_109_32) rfl, n246⟩)
      · skip
        have i77 := r_lt1 0 499 c77 j72_1 (inv_F hIc72 0 500 rfl v72_109_32) rfl
        have i77a := r_lt2 1 500 c77 j72_1 (inv_F hIc72 0 500 rfl v72_109_32) rfl
        have i80 : In w72_109_9 0 3999 := by exact ⟨(inv_F hIc72 0 4000 rfl v72_109_9).1, by have a0 := oa4 ro_109_22 i77a ((inv_F hIc72 0 4000 rfl v72_109_9)) i77; have oc := oc_302_109; omega⟩
        refine g_iconst 5 81 (gd rfl) rfl rfl ?_
        refine g_iload_n 82 (gd rfl) rfl rfl ?_
        refine g_imul 83 (gd rfl) rfl (fun z82 e82 => ?_)
        have i82 := in_mulc 5 0 2495 (Or.inl e82) i77 rfl rfl
        refine g_istore_n 84 (gd rfl) rfl (Nat.le_of_ble_eq_true rfl) ?_
        have hr := ldk_r g72_0 (show y72_1.toNatClampNeg < (sc72.2.2.1 109 32).toNatClampNeg from (by rw [← v72_109_32]; show y72_1.toInt.toNat < w72_109_32.toInt.toNat; have a0 := oa5 ro_109_22 i77a i80 i77 i82; have a5 := (t_mulc 5 (Or.inl e82) i77 rfl).1; have oc := oc_302_109; (first | exact zt_t (by omega) (by omega) | omega))); have hn0 := inv_n0 hIc72
        refine g_aload_n 85 (gd rfl) rfl rfl ?_
        refine g_getA (q2 := 127) 88 (gd rfl) rfl rfl rfl rfl ?_
        refine g_iload_n 89 (gd rfl) rfl rfl ?_
        refine g_iaload 90 (gd rfl) rfl (n := 500) rfl (in_ix i77 rfl) (fun z89 e89 => ?_)
        refine g_lsw [(97, 143), (110, 124), (116, 194)] 213 (gd rfl) rfl rfl rfl ⟨fun c90 => ?_, fun c90_0 => ⟨fun c90 => ?_, fun c90_1 => ⟨fun c90 => ?_, fun c90_2 => ?_⟩⟩⟩
        · skip
          have i90 := sw_eq c90
          refine g_aload_n 144 (gd rfl) rfl rfl ?_
          refine g_iconst 1 145 (gd rfl) rfl rfl ?_
          refine g_aload_n 146 (gd rfl) rfl rfl ?_
          refine g_iconst 0 147 (gd rfl) rfl rfl ?_
          refine g_callv (X := _) (As := [.int (Int32.ofInt 0)]) (r := [.int (Int32.ofInt 1), .ref (A 109)]) (b := A 109) (q := 109) 150 (gd rfl) rfl rfl rfl rfl rfl (ww_o rfl) (Nat.le_of_ble_eq_true rfl) (Nat.zero_le _) (Nat.zero_le _) (k_280 (by first | exact dq1 hd rfl | exact dq0 hd rfl | exact dq2 hd rfl | exact dq3 hd rfl | omega) hIc72 (in_w 0 2 (in_c 0 rfl) rfl)) (fun e u h => h) (fun v u h => ?_)
          obtain ⟨z147, rfl, rfl, i147, p147⟩ := h
          show GG _ _ _ _ _ _ _ _ [.int z147, .int (Int32.ofInt 1), .ref (A 109)] _ _ _
          have i150 : In z147 0 159 := by have q := (hr.2.1 (show (sc72.1 127 y72_1.toNatClampNeg).toInt = 97 from (by rw [← e89]; exact c90))).1; have p := p147; have r := i147; unfold In at r; have e : z147.toNatClampNeg = z147.toInt.toNat := rfl; have p2 : z147.toNatClampNeg = fpl (thg sc72 0) := p; exact ⟨r.1, by omega⟩
          refine g_aload_n 151 (gd rfl) rfl rfl ?_
          refine g_getA (q2 := 128) 154 (gd rfl) rfl rfl rfl rfl ?_
          refine g_iload_n 155 (gd rfl) rfl rfl ?_
          refine g_iaload 156 (gd rfl) rfl (n := 2500) rfl (in_ix i82 rfl) (fun z155 e155 => ?_)
          have i156 : In z155 0 31 := by have q := (hr.2.1 (show (sc72.1 127 y72_1.toNatClampNeg).toInt = 97 from (by rw [← e89]; exact c90))).2.1; rw [show 5 * y72_1.toNatClampNeg = z82.toNatClampNeg from (by show 5 * y72_1.toInt.toNat = z82.toInt.toNat; have a0 := oa5 ro_109_22 i77a i80 i77 i82; have a5 := (t_mulc 5 (Or.inl e82) i77 rfl).1; have oc := oc_302_109; omega), ← e155] at q; obtain ⟨q1, q2⟩ := q; exact ⟨q1, by omega⟩
          refine g_aload_n 157 (gd rfl) rfl rfl ?_
          refine g_getA (q2 := 128) 160 (gd rfl) rfl rfl rfl rfl ?_
          refine g_iload_n 161 (gd rfl) rfl rfl ?_
          refine g_iconst 1 162 (gd rfl) rfl rfl ?_
          refine g_iadd 163 (gd rfl) rfl (fun z162 e162 => ?_)
          have i162 := in_add 1 2496 e162 i82 (in_c 1 rfl) rfl rfl
          refine g_iaload 164 (gd rfl) rfl (n := 2500) rfl (in_ix i162 rfl) (fun z163 e163 => ?_)
          have i164 : In z163 0 31 := by have q := (hr.2.1 (show (sc72.1 127 y72_1.toNatClampNeg).toInt = 97 from (by rw [← e89]; exact c90))).2.2.1; rw [show 5 * y72_1.toNatClampNeg + 1 = z162.toNatClampNeg from (by show 5 * y72_1.toInt.toNat + 1 = z162.toInt.toNat; have a0 := oa5 ro_109_22 i77a i80 i77 i82; have a5 := (t_mulc 5 (Or.inl e82) i77 rfl).1; have a6 := in_u i162; have a7 := t_add e162 i82 (in_c 1 rfl) rfl; have a8 := in_u ((in_c 1 rfl)); have oc := oc_302_109; omega), ← e163] at q; obtain ⟨q1, q2⟩ := q; exact ⟨q1, by omega⟩
          refine g_aload_n 165 (gd rfl) rfl rfl ?_
          refine g_getA (q2 := 128) 168 (gd rfl) rfl rfl rfl rfl ?_
          refine g_iload_n 169 (gd rfl) rfl rfl ?_
          refine g_iconst 2 170 (gd rfl) rfl rfl ?_
          refine g_iadd 171 (gd rfl) rfl (fun z170 e170 => ?_)
          have i170 := in_add 2 2497 e170 i82 (in_c 2 rfl) rfl rfl
          refine g_iaload 172 (gd rfl) rfl (n := 2500) rfl (in_ix i170 rfl) (fun z171 e171 => ?_)
          have i172 : In z171 (-1000000) 1000000 := by have q := (hr.2.1 (show (sc72.1 127 y72_1.toNatClampNeg).toInt = 97 from (by rw [← e89]; exact c90))).2.2.2.1; rw [show 5 * y72_1.toNatClampNeg + 2 = z170.toNatClampNeg from (by show 5 * y72_1.toInt.toNat + 2 = z170.toInt.toNat; have a0 := oa5 ro_109_22 i77a i80 i77 i82; have a5 := (t_mulc 5 (Or.inl e82) i77 rfl).1; have a6 := in_u i170; have a7 := t_add e170 i82 (in_c 2 rfl) rfl; have a8 := oa2 ((in_c 2 rfl)) i162; have a10 := t_add e162 i82 (in_c 1 rfl) rfl; have a11 := in_u ((in_c 1 rfl)); have oc := oc_302_109; omega), ← e171] at q; exact q
          refine g_aload_n 173 (gd rfl) rfl rfl ?_
          refine g_getA (q2 := 128) 176 (gd rfl) rfl rfl rfl rfl ?_
          refine g_iload_n 177 (gd rfl) rfl rfl ?_
          refine g_iconst 3 178 (gd rfl) rfl rfl ?_
          refine g_iadd 179 (gd rfl) rfl (fun z178 e178 => ?_)
          have i178 := in_add 3 2498 e178 i82 (in_c 3 rfl) rfl rfl
          refine g_iaload 180 (gd rfl) rfl (n := 2500) rfl (in_ix i178 rfl) (fun z179 e179 => ?_)
          have i180 : In z179 0 1000000 := by have q := (hr.2.1 (show (sc72.1 127 y72_1.toNatClampNeg).toInt = 97 from (by rw [← e89]; exact c90))).2.2.2.2.1; rw [show 5 * y72_1.toNatClampNeg + 3 = z178.toNatClampNeg from (by show 5 * y72_1.toInt.toNat + 3 = z178.toInt.toNat; have a0 := oa5 ro_109_22 i77a i80 i77 i82; have a5 := (t_mulc 5 (Or.inl e82) i77 rfl).1; have a6 := in_u i178; have a7 := t_add e178 i82 (in_c 3 rfl) rfl; have a8 := oa2 ((in_c 3 rfl)) i170; have a10 := t_add e170 i82 (in_c 2 rfl) rfl; have a11 := oa2 ((in_c 2 rfl)) i162; have a13 := t_add e162 i82 (in_c 1 rfl) rfl; have a14 := in_u ((in_c 1 rfl)); have oc := oc_302_109; omega), ← e179] at q; exact q
          refine g_aload_n 181 (gd rfl) rfl rfl ?_
          refine g_getA (q2 := 128) 184 (gd rfl) rfl rfl rfl rfl ?_
          refine g_iload_n 185 (gd rfl) rfl rfl ?_
          refine g_iconst 4 186 (gd rfl) rfl rfl ?_
          refine g_iadd 187 (gd rfl) rfl (fun z186 e186 => ?_)
          have i186 := in_add 4 2499 e186 i82 (in_c 4 rfl) rfl rfl
          refine g_iaload 188 (gd rfl) rfl (n := 2500) rfl (in_ix i186 rfl) (fun z187 e187 => ?_)
          have i188 : In z187 0 25 := by have q := (hr.2.1 (show (sc72.1 127 y72_1.toNatClampNeg).toInt = 97 from (by rw [← e89]; exact c90))).2.2.2.2.2; rw [show 5 * y72_1.toNatClampNeg + 4 = z186.toNatClampNeg from (by show 5 * y72_1.toInt.toNat + 4 = z186.toInt.toNat; have a0 := oa5 ro_109_22 i77a i80 i77 i82; have a5 := (t_mulc 5 (Or.inl e82) i77 rfl).1; have a6 := in_u i186; have a7 := t_add e186 i82 (in_c 4 rfl) rfl; have a8 := oa2 ((in_c 4 rfl)) i178; have a10 := t_add e178 i82 (in_c 3 rfl) rfl; have a11 := oa2 ((in_c 3 rfl)) i170; have a13 := t_add e170 i82 (in_c 2 rfl) rfl; have a14 := oa2 ((in_c 2 rfl)) i162; have a16 := t_add e162 i82 (in_c 1 rfl) rfl; have a17 := in_u ((in_c 1 rfl)); have oc := oc_302_109; omega), ← e187] at q; exact q
          have p188 : MK sc72 (Int32.ofInt 1) z147 z155 z163 := by have q1 := (hr.2.1 (show (sc72.1 127 y72_1.toNatClampNeg).toInt = 97 from (by rw [← e89]; exact c90))).2.1; have q2 := (hr.2.1 (show (sc72.1 127 y72_1.toNatClampNeg).toInt = 97 from (by rw [← e89]; exact c90))).2.2.1; rw [show 5 * y72_1.toNatClampNeg = z82.toNatClampNeg from (by show 5 * y72_1.toInt.toNat = z82.toInt.toNat; have a0 := in_u ro_109_22; have a1 := in_u i77a; have a2 := in_u i80; have a3 := in_u i77; have a4 := in_u i82; have a5 := (t_mulc 5 (Or.inl e82) i77 rfl).1; have a6 := in_u i186; have a7 := t_add e186 i82 (in_c 4 rfl) rfl; have a8 := in_u ((in_c 4 rfl)); have a9 := in_u i178; have a10 := t_add e178 i82 (in_c 3 rfl) rfl; have a11 := in_u ((in_c 3 rfl)); have a12 := in_u i170; have a13 := t_add e170 i82 (in_c 2 rfl) rfl; have a14 := in_u ((in_c 2 rfl)); have a15 := in_u i162; have a16 := t_add e162 i82 (in_c 1 rfl) rfl; have a17 := in_u ((in_c 1 rfl)); have oc := oc_302_109; omega), ← e155] at q1; rw [show 5 * y72_1.toNatClampNeg + 1 = z162.toNatClampNeg from (by show 5 * y72_1.toInt.toNat + 1 = z162.toInt.toNat; have a0 := in_u ro_109_22; have a1 := in_u i77a; have a2 := in_u i80; have a3 := in_u i77; have a4 := in_u i82; have a5 := (t_mulc 5 (Or.inl e82) i77 rfl).1; have a6 := in_u i186; have a7 := t_add e186 i82 (in_c 4 rfl) rfl; have a8 := in_u ((in_c 4 rfl)); have a9 := in_u i178; have a10 := t_add e178 i82 (in_c 3 rfl) rfl; have a11 := in_u ((in_c 3 rfl)); have a12 := in_u i170; have a13 := t_add e170 i82 (in_c 2 rfl) rfl; have a14 := in_u ((in_c 2 rfl)); have a15 := in_u i162; have a16 := t_add e162 i82 (in_c 1 rfl) rfl; have a17 := in_u ((in_c 1 rfl)); have oc := oc_302_109; omega), ← e163] at q2; obtain ⟨a1, a2⟩ := q1; obtain ⟨a3, a4⟩ := q2; exact ⟨fun h => absurd h (by decide), fun _ => ⟨by omega, a3, by omega⟩, fun h => absurd h (by decide), fun h => absurd h (by decide), fun h => absurd h (by decide)⟩
          refine g_callv (X := _) (As := [.int (Int32.ofInt 1), .int z147, .int z155, .int z163, .int z171, .int z179, .int z187]) (r := []) (b := A 109) (q := 109) 191 (gd rfl) rfl rfl rfl rfl rfl (ww_o rfl) (Nat.le_of_ble_eq_true rfl) (Nat.zero_le _) (Nat.zero_le _) (f_274 (by first | exact dq1 hd rfl | exact dq0 hd rfl | exact dq2 hd rfl | exact dq3 hd rfl | omega) hIc72 (in_w 0 4 (in_c 1 rfl) rfl) (in_w 0 159 i150 rfl) (in_w 0 31 i156 rfl) (in_w (-1000000) 1000000 i164 rfl) (in_w (-1000000) 1000000 i172 rfl) (in_w 0 1000000 i180 rfl) (in_w 0 25 i188 rfl) v72_109_9 (in_w 0 3999 i80 rfl) p188) (fun e u h => h) (fun v u h => ?_)
          obtain ⟨s188, hI188, hF188, n188, rfl, rfl, p188a, p188b, p188c⟩ := h
          obtain ⟨z188a, e188⟩ : ∃ w, w = s188.2.2.1 109 9 := ⟨_, rfl⟩
          have i188b := inv_F hI188 0 4000 rfl e188
          rw [← (show w72_109_9 = sc72.2.2.1 109 9 from v72_109_9)] at n188
          rw [← (show z188a = s188.2.2.1 109 9 from e188)] at n188
          show GG _ _ _ _ _ _ _ _ [] _ _ _
          refine g_goto 236 (gd rfl) rfl ?_
          refine g_iinc 239 (gd rfl) rfl rfl (Nat.le_of_ble_eq_true rfl) (fun z236 e236 => ?_)
          have i236 := in_add 1 500 e236 i77 (in_c 1 rfl) rfl rfl
          refine g_goto 72 (gd rfl) rfl ?_
          have v72 : w72_109_32 = s188.2.2.1 109 32 := fr_F (v72_109_32) hF188 rfl
          have n72 : (z188a).toInt + (w72_109_32).toInt - (z236).toInt ≤ 4000 := by have a0 := oa5 ro_109_22 i77a i80 i77 i82; have a5 := (t_mulc 5 (Or.inl e82) i77 rfl).1; have a6 := in_u i236; have a7 := t_add e236 i77 (in_c 1 rfl) rfl; have a8 := oa3 ((in_c 1 rfl)) i188b i186; have a11 := t_add e186 i82 (in_c 4 rfl) rfl; have a12 := oa2 ((in_c 4 rfl)) i178; have a14 := t_add e178 i82 (in_c 3 rfl) rfl; have a15 := oa2 ((in_c 3 rfl)) i170; have a17 := t_add e170 i82 (in_c 2 rfl) rfl; have a18 := oa2 ((in_c 2 rfl)) i162; have a20 := t_add e162 i82 (in_c 1 rfl) rfl; have oc := oc_302_109; omega
          have n72a : LDK s188 (s188.2.2.1 109 32).toNatClampNeg (z236).toNatClampNeg := by rw [hF188.2.2.1 109 32 rfl, show z236.toNatClampNeg = y72_1.toNatClampNeg + 1 from (by show z236.toInt.toNat = y72_1.toInt.toNat + 1; have a0 := oa5 ro_109_22 i77a i80 i77 i82; have a5 := (t_mulc 5 (Or.inl e82) i77 rfl).1; have a6 := in_u i236; have a7 := t_add e236 i77 (in_c 1 rfl) rfl; have a8 := oa3 ((in_c 1 rfl)) i188b i186; have a11 := t_add e186 i82 (in_c 4 rfl) rfl; have a12 := oa2 ((in_c 4 rfl)) i178; have a14 := t_add e178 i82 (in_c 3 rfl) rfl; have a15 := oa2 ((in_c 3 rfl)) i170; have a17 := t_add e170 i82 (in_c 2 rfl) rfl; have a18 := oa2 ((in_c 2 rfl)) i162; have a20 := t_add e162 i82 (in_c 1 rfl) rfl; have oc := oc_302_109; (first | exact zt_s (by omega) (by omega) | omega))]; exact ldk_s g72_0 p188a (hF188.1 127 rfl) (hF188.1 128 rfl) (by have hw := (show (sc72.1 127 y72_1.toNatClampNeg).toInt = 97 from (by rw [← e89]; exact c90)); exact ⟨fun h => (by omega), fun _ => ⟨by decide, p147⟩, fun h => (by omega), fun _ h _ => absurd hw h⟩)
          have n72b : LD3 s s188 (z236).toNatClampNeg := by rw [show z236.toNatClampNeg = y72_1.toNatClampNeg + 1 from (by show z236.toInt.toNat = y72_1.toInt.toNat + 1; have a0 := oa5 ro_109_22 i77a i80 i77 i82; have a5 := (t_mulc 5 (Or.inl e82) i77 rfl).1; have a6 := in_u i236; have a7 := t_add e236 i77 (in_c 1 rfl) rfl; have a8 := oa3 ((in_c 1 rfl)) i188b i186; have a11 := t_add e186 i82 (in_c 4 rfl) rfl; have a12 := oa2 ((in_c 4 rfl)) i178; have a14 := t_add e178 i82 (in_c 3 rfl) rfl; have a15 := oa2 ((in_c 3 rfl)) i170; have a17 := t_add e170 i82 (in_c 2 rfl) rfl; have a18 := oa2 ((in_c 2 rfl)) i162; have a20 := t_add e162 i82 (in_c 1 rfl) rfl; have oc := oc_302_109; (first | exact zt_s (by omega) (by omega) | omega))]; exact ld3_s g72_1 (by rw [← v72_109_32]; show y72_1.toInt.toNat < w72_109_32.toInt.toNat; have a0 := oa5 ro_109_22 i77a i80 i77 i82; have a5 := (t_mulc 5 (Or.inl e82) i77 rfl).1; have a6 := in_u i236; have a7 := t_add e236 i77 (in_c 1 rfl) rfl; have a8 := oa3 ((in_c 1 rfl)) i188b i186; have a11 := t_add e186 i82 (in_c 4 rfl) rfl; have a12 := oa2 ((in_c 4 rfl)) i178; have a14 := t_add e178 i82 (in_c 3 rfl) rfl; have a15 := oa2 ((in_c 3 rfl)) i170; have a17 := t_add e170 i82 (in_c 2 rfl) rfl; have a18 := oa2 ((in_c 2 rfl)) i162; have a20 := t_add e162 i82 (in_c 1 rfl) rfl; have oc := oc_302_109; (first | exact zt_t (by omega) (by omega) | omega)) ((p188b.2.1 rfl).trans (oR_a hIc72 (by rw [← e89]; omega) p147 (by show (sc72.1 128 (5 * y72_1.toNatClampNeg + 0)).toInt = _; rw [show 5 * y72_1.toNatClampNeg + 0 = z82.toNatClampNeg from (by show 5 * y72_1.toInt.toNat + 0 = z82.toInt.toNat; have a0 := oa5 ro_109_22 i77a i80 i77 i82; have a5 := (t_mulc 5 (Or.inl e82) i77 rfl).1; have a6 := in_u i236; have a7 := t_add e236 i77 (in_c 1 rfl) rfl; have a8 := oa3 ((in_c 1 rfl)) i188b i186; have a11 := t_add e186 i82 (in_c 4 rfl) rfl; have a12 := oa2 ((in_c 4 rfl)) i178; have a14 := t_add e178 i82 (in_c 3 rfl) rfl; have a15 := oa2 ((in_c 3 rfl)) i170; have a17 := t_add e170 i82 (in_c 2 rfl) rfl; have a18 := oa2 ((in_c 2 rfl)) i162; have a20 := t_add e162 i82 (in_c 1 rfl) rfl; have oc := oc_302_109; omega), ← e155]) (by show (sc72.1 128 (5 * y72_1.toNatClampNeg + 1)).toInt = _; rw [show 5 * y72_1.toNatClampNeg + 1 = z162.toNatClampNeg from (by show 5 * y72_1.toInt.toNat + 1 = z162.toInt.toNat; have a0 := oa5 ro_109_22 i77a i80 i77 i82; have a5 := (t_mulc 5 (Or.inl e82) i77 rfl).1; have a6 := in_u i236; have a7 := t_add e236 i77 (in_c 1 rfl) rfl; have a8 := oa3 ((in_c 1 rfl)) i188b i186; have a11 := t_add e186 i82 (in_c 4 rfl) rfl; have a12 := oa2 ((in_c 4 rfl)) i178; have a14 := t_add e178 i82 (in_c 3 rfl) rfl; have a15 := oa2 ((in_c 3 rfl)) i170; have a17 := t_add e170 i82 (in_c 2 rfl) rfl; have a18 := oa2 ((in_c 2 rfl)) i162; have a20 := t_add e162 i82 (in_c 1 rfl) rfl; have oc := oc_302_109; omega), ← e163]) (by show (sc72.1 128 (5 * y72_1.toNatClampNeg + 2)).toInt = _; rw [show 5 * y72_1.toNatClampNeg + 2 = z170.toNatClampNeg from (by show 5 * y72_1.toInt.toNat + 2 = z170.toInt.toNat; have a0 := oa5 ro_109_22 i77a i80 i77 i82; have a5 := (t_mulc 5 (Or.inl e82) i77 rfl).1; have a6 := in_u i236; have a7 := t_add e236 i77 (in_c 1 rfl) rfl; have a8 := oa3 ((in_c 1 rfl)) i188b i186; have a11 := t_add e186 i82 (in_c 4 rfl) rfl; have a12 := oa2 ((in_c 4 rfl)) i178; have a14 := t_add e178 i82 (in_c 3 rfl) rfl; have a15 := oa2 ((in_c 3 rfl)) i170; have a17 := t_add e170 i82 (in_c 2 rfl) rfl; have a18 := oa2 ((in_c 2 rfl)) i162; have a20 := t_add e162 i82 (in_c 1 rfl) rfl; have oc := oc_302_109; omega), ← e171]) (by show (sc72.1 128 (5 * y72_1.toNatClampNeg + 3)).toInt = _; rw [show 5 * y72_1.toNatClampNeg + 3 = z178.toNatClampNeg from (by show 5 * y72_1.toInt.toNat + 3 = z178.toInt.toNat; have a0 := oa5 ro_109_22 i77a i80 i77 i82; have a5 := (t_mulc 5 (Or.inl e82) i77 rfl).1; have a6 := in_u i236; have a7 := t_add e236 i77 (in_c 1 rfl) rfl; have a8 := oa3 ((in_c 1 rfl)) i188b i186; have a11 := t_add e186 i82 (in_c 4 rfl) rfl; have a12 := oa2 ((in_c 4 rfl)) i178; have a14 := t_add e178 i82 (in_c 3 rfl) rfl; have a15 := oa2 ((in_c 3 rfl)) i170; have a17 := t_add e170 i82 (in_c 2 rfl) rfl; have a18 := oa2 ((in_c 2 rfl)) i162; have a20 := t_add e162 i82 (in_c 1 rfl) rfl; have oc := oc_302_109; omega), ← e179]) (by show (sc72.1 128 (5 * y72_1.toNatClampNeg + 4)).toInt = _; rw [show 5 * y72_1.toNatClampNeg + 4 = z186.toNatClampNeg from (by show 5 * y72_1.toInt.toNat + 4 = z186.toInt.toNat; have a0 := oa5 ro_109_22 i77a i80 i77 i82; have a5 := (t_mulc 5 (Or.inl e82) i77 rfl).1; have a6 := in_u i236; have a7 := t_add e236 i77 (in_c 1 rfl) rfl; have a8 := oa3 ((in_c 1 rfl)) i188b i186; have a11 := t_add e186 i82 (in_c 4 rfl) rfl; have a12 := oa2 ((in_c 4 rfl)) i178; have a14 := t_add e178 i82 (in_c 3 rfl) rfl; have a15 := oa2 ((in_c 3 rfl)) i170; have a17 := t_add e170 i82 (in_c 2 rfl) rfl; have a18 := oa2 ((in_c 2 rfl)) i162; have a20 := t_add e162 i82 (in_c 1 rfl) rfl; have oc := oc_302_109; omega), ← e187])).symm) (hF188.1 127 rfl) (hF188.1 128 rfl) (hF188.2.2.1 109 32 rfl) (hF188.2.2.1 109 23 rfl)
          exact gg_w (by first | exact Nat.le_add_right _ _ | exact gw2 | exact gw3 | exact gwe rfl | exact gwf rfl | exact gwg rfl | exact gwh rfl | omega) (gg_f (gf_cons rfl (gf_cons rfl gf_nil)) (ih72 s188 z236 z188a w72_109_32 hI188 (fr_tr rfl hFc72 hF188) (in_w 0 500 i236 rfl) e188 v72 n72 n72a n72b (m_up mm72 (t_add e236 i77 (in_c 1 rfl) rfl) (in_w 1 1 (in_c 1 rfl) rfl))))
        · skip
          have i90 := sw_eq c90
          refine g_aload_n 125 (gd rfl) rfl rfl ?_
          refine g_iconst 0 126 (gd rfl) rfl rfl ?_
          refine g_aload_n 127 (gd rfl) rfl rfl ?_
          refine g_getA (q2 := 128) 130 (gd rfl) rfl rfl rfl rfl ?_
          refine g_iload_n 131 (gd rfl) rfl rfl ?_
          refine g_iaload 132 (gd rfl) rfl (n := 2500) rfl (in_ix i82 rfl) (fun z131 e131 => ?_)
          have i132 : In z131 0 25 := by have q := (hr.1 (show (sc72.1 127 y72_1.toNatClampNeg).toInt = 110 from (by rw [← e89]; exact c90))).1; rw [show 5 * y72_1.toNatClampNeg = z82.toNatClampNeg from (by show 5 * y72_1.toInt.toNat = z82.toInt.toNat; have a0 := oa5 ro_109_22 i77a i80 i77 i82; have a5 := (t_mulc 5 (Or.inl e82) i77 rfl).1; have oc := oc_302_109; omega), ← e131] at q; exact q
          refine g_iconst 0 133 (gd rfl) rfl rfl ?_
          refine g_iconst 0 134 (gd rfl) rfl rfl ?_
          refine g_iconst 0 135 (gd rfl) rfl rfl ?_
          refine g_iconst 0 136 (gd rfl) rfl rfl ?_
          refine g_iconst 0 137 (gd rfl) rfl rfl ?_
          have p137 : MK sc72 (Int32.ofInt 0) z131 (Int32.ofInt 0) (Int32.ofInt 0) := by refine ⟨fun _ => ⟨(by have q := (hr.1 (show (sc72.1 127 y72_1.toNatClampNeg).toInt = 110 from (by rw [← e89]; exact c90))).1; rw [show 5 * y72_1.toNatClampNeg = z82.toNatClampNeg from (by show 5 * y72_1.toInt.toNat = z82.toInt.toNat; have a0 := oa5 ro_109_22 i77a i80 i77 i82; have a5 := (t_mulc 5 (Or.inl e82) i77 rfl).1; have oc := oc_302_109; omega), ← e131] at q; exact q.2), (hr.1 (show (sc72.1 127 y72_1.toNatClampNeg).toInt = 110 from (by rw [← e89]; exact c90))).2⟩, fun h => absurd h (by decide), fun h => absurd h (by decide), fun h => absurd h (by decide), fun h => absurd h (by decide)⟩
          refine g_callv (X := _) (As := [.int (Int32.ofInt 0), .int z131, .int (Int32.ofInt 0), .int (Int32.ofInt 0), .int (Int32.ofInt 0), .int (Int32.ofInt 0), .int (Int32.ofInt 0)]) (r := []) (b := A 109) (q := 109) 140 (gd rfl) rfl rfl rfl rfl rfl (ww_o rfl) (Nat.le_of_ble_eq_true rfl) (Nat.zero_le _) (Nat.zero_le _) (f_274 (by first | exact dq1 hd rfl | exact dq0 hd rfl | exact dq2 hd rfl | exact dq3 hd rfl | omega) hIc72 (in_w 0 4 (in_c 0 rfl) rfl) (in_w 0 159 i132 rfl) (in_w 0 31 (in_c 0 rfl) rfl) (in_w (-1000000) 1000000 (in_c 0 rfl) rfl) (in_w (-1000000) 1000000 (in_c 0 rfl) rfl) (in_w 0 1000000 (in_c 0 rfl) rfl) (in_w 0 25 (in_c 0 rfl) rfl) v72_109_9 (in_w 0 3999 i80 rfl) p137) (fun e u h => h) (fun v u h => ?_)
          obtain ⟨s137, hI137, hF137, n137, rfl, rfl, p137a, p137b, p137c⟩ := h
          obtain ⟨z137a, e137⟩ : ∃ w, w = s137.2.2.1 109 9 := ⟨_, rfl⟩
          have i137a := inv_F hI137 0 4000 rfl e137
          rw [← (show w72_109_9 = sc72.2.2.1 109 9 from v72_109_9)] at n137
          rw [← (show z137a = s137.2.2.1 109 9 from e137)] at n137
          show GG _ _ _ _ _ _ _ _ [] _ _ _
          refine g_goto 236 (gd rfl) rfl ?_
          refine g_iinc 239 (gd rfl) rfl rfl (Nat.le_of_ble_eq_true rfl) (fun z236 e236 => ?_)
          have i236 := in_add 1 500 e236 i77 (in_c 1 rfl) rfl rfl
          refine g_goto 72 (gd rfl) rfl ?_
          have v72 : w72_109_32 = s137.2.2.1 109 32 := fr_F (v72_109_32) hF137 rfl
          have n72 : (z137a).toInt + (w72_109_32).toInt - (z236).toInt ≤ 4000 := by have a0 := oa5 ro_109_22 i77a i80 i77 i82; have a5 := (t_mulc 5 (Or.inl e82) i77 rfl).1; have a6 := in_u i236; have a7 := t_add e236 i77 (in_c 1 rfl) rfl; have a8 := oa2 ((in_c 1 rfl)) i137a; have oc := oc_302_109; omega
          have n72a : LDK s137 (s137.2.2.1 109 32).toNatClampNeg (z236).toNatClampNeg := by rw [hF137.2.2.1 109 32 rfl, show z236.toNatClampNeg = y72_1.toNatClampNeg + 1 from (by show z236.toInt.toNat = y72_1.toInt.toNat + 1; have a0 := oa5 ro_109_22 i77a i80 i77 i82; have a5 := (t_mulc 5 (Or.inl e82) i77 rfl).1; have a6 := in_u i236; have a7 := t_add e236 i77 (in_c 1 rfl) rfl; have a8 := oa2 ((in_c 1 rfl)) i137a; have oc := oc_302_109; (first | exact zt_s (by omega) (by omega) | omega))]; exact ldk_s g72_0 p137a (hF137.1 127 rfl) (hF137.1 128 rfl) (by have hw := (show (sc72.1 127 y72_1.toNatClampNeg).toInt = 110 from (by rw [← e89]; exact c90)); exact ⟨fun _ => (by decide), fun h => (by omega), fun h => (by omega), fun h _ _ => absurd hw h⟩)
          have n72b : LD3 s s137 (z236).toNatClampNeg := by rw [show z236.toNatClampNeg = y72_1.toNatClampNeg + 1 from (by show z236.toInt.toNat = y72_1.toInt.toNat + 1; have a0 := oa5 ro_109_22 i77a i80 i77 i82; have a5 := (t_mulc 5 (Or.inl e82) i77 rfl).1; have a6 := in_u i236; have a7 := t_add e236 i77 (in_c 1 rfl) rfl; have a8 := oa2 ((in_c 1 rfl)) i137a; have oc := oc_302_109; (first | exact zt_s (by omega) (by omega) | omega))]; exact ld3_s g72_1 (by rw [← v72_109_32]; show y72_1.toInt.toNat < w72_109_32.toInt.toNat; have a0 := oa5 ro_109_22 i77a i80 i77 i82; have a5 := (t_mulc 5 (Or.inl e82) i77 rfl).1; have a6 := in_u i236; have a7 := t_add e236 i77 (in_c 1 rfl) rfl; have a8 := oa2 ((in_c 1 rfl)) i137a; have oc := oc_302_109; (first | exact zt_t (by omega) (by omega) | omega)) ((p137b.1 rfl).trans (oR_n (by rw [← e89]; omega) (by show (sc72.1 128 (5 * y72_1.toNatClampNeg + 0)).toInt = _; rw [show 5 * y72_1.toNatClampNeg + 0 = z82.toNatClampNeg from (by show 5 * y72_1.toInt.toNat + 0 = z82.toInt.toNat; have a0 := oa5 ro_109_22 i77a i80 i77 i82; have a5 := (t_mulc 5 (Or.inl e82) i77 rfl).1; have a6 := in_u i236; have a7 := t_add e236 i77 (in_c 1 rfl) rfl; have a8 := oa2 ((in_c 1 rfl)) i137a; have oc := oc_302_109; omega), ← e131])).symm) (hF137.1 127 rfl) (hF137.1 128 rfl) (hF137.2.2.1 109 32 rfl) (hF137.2.2.1 109 23 rfl)
          exact gg_w (by first | exact Nat.le_add_right _ _ | exact gw2 | exact gw3 | exact gwe rfl | exact gwf rfl | exact gwg rfl | exact gwh rfl | omega) (gg_f (gf_cons rfl (gf_cons rfl gf_nil)) (ih72 s137 z236 z137a w72_109_32 hI137 (fr_tr rfl hFc72 hF137) (in_w 0 500 i236 rfl) e137 v72 n72 n72a n72b (m_up mm72 (t_add e236 i77 (in_c 1 rfl) rfl) (in_w 1 1 (in_c 1 rfl) rfl))))
        · skip
          have i90 := sw_eq c90
          refine g_aload_n 195 (gd rfl) rfl rfl ?_
          refine g_iconst 2 196 (gd rfl) rfl rfl ?_
          refine g_aload_n 197 (gd rfl) rfl rfl ?_
          refine g_getA (q2 := 128) 200 (gd rfl) rfl rfl rfl rfl ?_
          refine g_iload_n 201 (gd rfl) rfl rfl ?_
          refine g_iaload 202 (gd rfl) rfl (n := 2500) rfl (in_ix i82 rfl) (fun z201 e201 => ?_)
          have i202 : In z201 0 159 := by have q := hr.2.2.1 (show (sc72.1 127 y72_1.toNatClampNeg).toInt = 116 from (by rw [← e89]; exact c90)); rw [show 5 * y72_1.toNatClampNeg = z82.toNatClampNeg from (by show 5 * y72_1.toInt.toNat = z82.toInt.toNat; have a0 := oa5 ro_109_22 i77a i80 i77 i82; have a5 := (t_mulc 5 (Or.inl e82) i77 rfl).1; have oc := oc_302_109; omega), ← e201] at q; exact q
          refine g_iconst 0 203 (gd rfl) rfl rfl ?_
          refine g_iconst 0 204 (gd rfl) rfl rfl ?_
          refine g_iconst 0 205 (gd rfl) rfl rfl ?_
          refine g_iconst 0 206 (gd rfl) rfl rfl ?_
          refine g_iconst 0 207 (gd rfl) rfl rfl ?_
          have p207 : MK sc72 (Int32.ofInt 2) z201 (Int32.ofInt 0) (Int32.ofInt 0) := by exact ⟨fun h => absurd h (by decide), fun h => absurd h (by decide), fun h => absurd h (by decide), fun h => absurd h (by decide), fun h => absurd h (by decide)⟩
          refine g_callv (X := _) (As := [.int (Int32.ofInt 2), .int z201, .int (Int32.ofInt 0), .int (Int32.ofInt 0), .int (Int32.ofInt 0), .int (Int32.ofInt 0), .int (Int32.ofInt 0)]) (r := []) (b := A 109) (q := 109) 210 (gd rfl) rfl rfl rfl rfl rfl (ww_o rfl) (Nat.le_of_ble_eq_true rfl) (Nat.zero_le _) (Nat.zero_le _) (f_274 (by first | exact dq1 hd rfl | exact dq0 hd rfl | exact dq2 hd rfl | exact dq3 hd rfl | omega) hIc72 (in_w 0 4 (in_c 2 rfl) rfl) (in_w 0 159 i202 rfl) (in_w 0 31 (in_c 0 rfl) rfl) (in_w (-1000000) 1000000 (in_c 0 rfl) rfl) (in_w (-1000000) 1000000 (in_c 0 rfl) rfl) (in_w 0 1000000 (in_c 0 rfl) rfl) (in_w 0 25 (in_c 0 rfl) rfl) v72_109_9 (in_w 0 3999 i80 rfl) p207) (fun e u h => h) (fun v u h => ?_)
          obtain ⟨s207, hI207, hF207, n207, rfl, rfl, p207a, p207b, p207c⟩ := h
          obtain ⟨z207a, e207⟩ : ∃ w, w = s207.2.2.1 109 9 := ⟨_, rfl⟩
          have i207a := inv_F hI207 0 4000 rfl e207
          rw [← (show w72_109_9 = sc72.2.2.1 109 9 from v72_109_9)] at n207
          rw [← (show z207a = s207.2.2.1 109 9 from e207)] at n207
          show GG _ _ _ _ _ _ _ _ [] _ _ _
          refine g_goto 236 (gd rfl) rfl ?_
          refine g_iinc 239 (gd rfl) rfl rfl (Nat.le_of_ble_eq_true rfl) (fun z236 e236 => ?_)
          have i236 := in_add 1 500 e236 i77 (in_c 1 rfl) rfl rfl
          refine g_goto 72 (gd rfl) rfl ?_
          have v72 : w72_109_32 = s207.2.2.1 109 32 := fr_F (v72_109_32) hF207 rfl
          have n72 : (z207a).toInt + (w72_109_32).toInt - (z236).toInt ≤ 4000 := by have a0 := oa5 ro_109_22 i77a i80 i77 i82; have a5 := (t_mulc 5 (Or.inl e82) i77 rfl).1; have a6 := in_u i236; have a7 := t_add e236 i77 (in_c 1 rfl) rfl; have a8 := oa2 ((in_c 1 rfl)) i207a; have oc := oc_302_109; omega
          have n72a : LDK s207 (s207.2.2.1 109 32).toNatClampNeg (z236).toNatClampNeg := by rw [hF207.2.2.1 109 32 rfl, show z236.toNatClampNeg = y72_1.toNatClampNeg + 1 from (by show z236.toInt.toNat = y72_1.toInt.toNat + 1; have a0 := oa5 ro_109_22 i77a i80 i77 i82; have a5 := (t_mulc 5 (Or.inl e82) i77 rfl).1; have a6 := in_u i236; have a7 := t_add e236 i77 (in_c 1 rfl) rfl; have a8 := oa2 ((in_c 1 rfl)) i207a; have oc := oc_302_109; (first | exact zt_s (by omega) (by omega) | omega))]; exact ldk_s g72_0 p207a (hF207.1 127 rfl) (hF207.1 128 rfl) (by have hw := (show (sc72.1 127 y72_1.toNatClampNeg).toInt = 116 from (by rw [← e89]; exact c90)); exact ⟨fun h => (by omega), fun h => (by omega), fun _ => ⟨by decide, by rw [show 5 * y72_1.toNatClampNeg = z82.toNatClampNeg from (by show 5 * y72_1.toInt.toNat = z82.toInt.toNat; have a0 := oa5 ro_109_22 i77a i80 i77 i82; have a5 := (t_mulc 5 (Or.inl e82) i77 rfl).1; have a6 := in_u i236; have a7 := t_add e236 i77 (in_c 1 rfl) rfl; have a8 := oa2 ((in_c 1 rfl)) i207a; have oc := oc_302_109; omega), ← e201]⟩, fun _ _ h => absurd hw h⟩)
          have n72b : LD3 s s207 (z236).toNatClampNeg := by rw [show z236.toNatClampNeg = y72_1.toNatClampNeg + 1 from (by show z236.toInt.toNat = y72_1.toInt.toNat + 1; have a0 := oa5 ro_109_22 i77a i80 i77 i82; have a5 := (t_mulc 5 (Or.inl e82) i77 rfl).1; have a6 := in_u i236; have a7 := t_add e236 i77 (in_c 1 rfl) rfl; have a8 := oa2 ((in_c 1 rfl)) i207a; have oc := oc_302_109; (first | exact zt_s (by omega) (by omega) | omega))]; exact ld3_s g72_1 (by rw [← v72_109_32]; show y72_1.toInt.toNat < w72_109_32.toInt.toNat; have a0 := oa5 ro_109_22 i77a i80 i77 i82; have a5 := (t_mulc 5 (Or.inl e82) i77 rfl).1; have a6 := in_u i236; have a7 := t_add e236 i77 (in_c 1 rfl) rfl; have a8 := oa2 ((in_c 1 rfl)) i207a; have oc := oc_302_109; (first | exact zt_t (by omega) (by omega) | omega)) ((p207b.2.2.1 rfl).trans (oR_t (by rw [← e89]; omega) (by show (sc72.1 128 (5 * y72_1.toNatClampNeg + 0)).toInt = _; rw [show 5 * y72_1.toNatClampNeg + 0 = z82.toNatClampNeg from (by show 5 * y72_1.toInt.toNat + 0 = z82.toInt.toNat; have a0 := oa5 ro_109_22 i77a i80 i77 i82; have a5 := (t_mulc 5 (Or.inl e82) i77 rfl).1; have a6 := in_u i236; have a7 := t_add e236 i77 (in_c 1 rfl) rfl; have a8 := oa2 ((in_c 1 rfl)) i207a; have oc := oc_302_109; omega), ← e201])).symm) (hF207.1 127 rfl) (hF207.1 128 rfl) (hF207.2.2.1 109 32 rfl) (hF207.2.2.1 109 23 rfl)
          exact gg_w (by first | exact Nat.le_add_right _ _ | exact gw2 | exact gw3 | exact gwe rfl | exact gwf rfl | exact gwg rfl | exact gwh rfl | omega) (gg_f (gf_cons rfl (gf_cons rfl gf_nil)) (ih72 s207 z236 z207a w72_109_32 hI207 (fr_tr rfl hFc72 hF207) (in_w 0 500 i236 rfl) e207 v72 n72 n72a n72b (m_up mm72 (t_add e236 i77 (in_c 1 rfl) rfl) (in_w 1 1 (in_c 1 rfl) rfl))))
        · skip
          refine g_aload_n 214 (gd rfl) rfl rfl ?_
          refine g_iconst 3 215 (gd rfl) rfl rfl ?_
          refine g_aload_n 216 (gd rfl) rfl rfl ?_
          refine g_getA (q2 := 128) 219 (gd rfl) rfl rfl rfl rfl ?_
          refine g_iload_n 220 (gd rfl) rfl rfl ?_
          refine g_iaload 221 (gd rfl) rfl (n := 2500) rfl (in_ix i82 rfl) (fun z220 e220 => ?_)
          have i221 : In z220 0 159 := by have q := (hr.2.2.2 (by rw [← e89]; exact c90_1) (by rw [← e89]; exact c90_0) (by rw [← e89]; exact c90_2)).1; rw [show 5 * y72_1.toNatClampNeg = z82.toNatClampNeg from (by show 5 * y72_1.toInt.toNat = z82.toInt.toNat; have a0 := oa5 ro_109_22 i77a i80 i77 i82; have a5 := (t_mulc 5 (Or.inl e82) i77 rfl).1; have oc := oc_302_109; omega), ← e220] at q; exact q
          refine g_iconst 0 222 (gd rfl) rfl rfl ?_
          refine g_aload_n 223 (gd rfl) rfl rfl ?_
          refine g_getA (q2 := 128) 226 (gd rfl) rfl rfl rfl rfl ?_
          refine g_iload_n 227 (gd rfl) rfl rfl ?_
          refine g_iconst 1 228 (gd rfl) rfl rfl ?_
          refine g_iadd 229 (gd rfl) rfl (fun z228 e228 => ?_)
          have i228 := in_add 1 2496 e228 i82 (in_c 1 rfl) rfl rfl
          refine g_iaload 230 (gd rfl) rfl (n := 2500) rfl (in_ix i228 rfl) (fun z229 e229 => ?_)
          have i230 : In z229 (-1000000) 1000000 := by have q := (hr.2.2.2 (by rw [← e89]; exact c90_1) (by rw [← e89]; exact c90_0) (by rw [← e89]; exact c90_2)).2; rw [show 5 * y72_1.toNatClampNeg + 1 = z228.toNatClampNeg from (by show 5 * y72_1.toInt.toNat + 1 = z228.toInt.toNat; have a0 := oa5 ro_109_22 i77a i80 i77 i82; have a5 := (t_mulc 5 (Or.inl e82) i77 rfl).1; have a6 := in_u i228; have a7 := t_add e228 i82 (in_c 1 rfl) rfl; have a8 := in_u ((in_c 1 rfl)); have oc := oc_302_109; omega), ← e229] at q; exact q
          refine g_iconst 0 231 (gd rfl) rfl rfl ?_
          refine g_iconst 0 232 (gd rfl) rfl rfl ?_
          refine g_iconst 0 233 (gd rfl) rfl rfl ?_
          have p233 : MK sc72 (Int32.ofInt 3) z220 (Int32.ofInt 0) z229 := by exact ⟨fun h => absurd h (by decide), fun h => absurd h (by decide), fun _ h => absurd h (by decide), fun _ h _ => absurd (by decide) h, fun h => absurd h (by decide)⟩
          refine g_callv (X := _) (As := [.int (Int32.ofInt 3), .int z220, .int (Int32.ofInt 0), .int z229, .int (Int32.ofInt 0), .int (Int32.ofInt 0), .int (Int32.ofInt 0)]) (r := []) (b := A 109) (q := 109) 236 (gd rfl) rfl rfl rfl rfl rfl (ww_o rfl) (Nat.le_of_ble_eq_true rfl) (Nat.zero_le _) (Nat.zero_le _) (f_274 (by first | exact dq1 hd rfl | exact dq0 hd rfl | exact dq2 hd rfl | exact dq3 hd rfl | omega) hIc72 (in_w 0 4 (in_c 3 rfl) rfl) (in_w 0 159 i221 rfl) (in_w 0 31 (in_c 0 rfl) rfl) (in_w (-1000000) 1000000 i230 rfl) (in_w (-1000000) 1000000 (in_c 0 rfl) rfl) (in_w 0 1000000 (in_c 0 rfl) rfl) (in_w 0 25 (in_c 0 rfl) rfl) v72_109_9 (in_w 0 3999 i80 rfl) p233) (fun e u h => h) (fun v u h => ?_)
          obtain ⟨s233, hI233, hF233, n233, rfl, rfl, p233a, p233b, p233c⟩ := h
          obtain ⟨z233a, e233⟩ : ∃ w, w = s233.2.2.1 109 9 := ⟨_, rfl⟩
          have i233a := inv_F hI233 0 4000 rfl e233
          rw [← (show w72_109_9 = sc72.2.2.1 109 9 from v72_109_9)] at n233
          rw [← (show z233a = s233.2.2.1 109 9 from e233)] at n233
          show GG _ _ _ _ _ _ _ _ [] _ _ _
          refine g_iinc 239 (gd rfl) rfl rfl (Nat.le_of_ble_eq_true rfl) (fun z236 e236 => ?_)
          have i236 := in_add 1 500 e236 i77 (in_c 1 rfl) rfl rfl
          refine g_goto 72 (gd rfl) rfl ?_
          have v72 : w72_109_32 = s233.2.2.1 109 32 := fr_F (v72_109_32) hF233 rfl
          have n72 : (z233a).toInt + (w72_109_32).toInt - (z236).toInt ≤ 4000 := by have a0 := oa5 ro_109_22 i77a i80 i77 i82; have a5 := (t_mulc 5 (Or.inl e82) i77 rfl).1; have a6 := in_u i236; have a7 := t_add e236 i77 (in_c 1 rfl) rfl; have a8 := oa3 ((in_c 1 rfl)) i233a i228; have a11 := t_add e228 i82 (in_c 1 rfl) rfl; have oc := oc_302_109; omega
          have n72a : LDK s233 (s233.2.2.1 109 32).toNatClampNeg (z236).toNatClampNeg := by rw [hF233.2.2.1 109 32 rfl, show z236.toNatClampNeg = y72_1.toNatClampNeg + 1 from (by show z236.toInt.toNat = y72_1.toInt.toNat + 1; have a0 := oa5 ro_109_22 i77a i80 i77 i82; have a5 := (t_mulc 5 (Or.inl e82) i77 rfl).1; have a6 := in_u i236; have a7 := t_add e236 i77 (in_c 1 rfl) rfl; have a8 := oa3 ((in_c 1 rfl)) i233a i228; have a11 := t_add e228 i82 (in_c 1 rfl) rfl; have oc := oc_302_109; (first | exact zt_s (by omega) (by omega) | omega))]; exact ldk_s g72_0 p233a (hF233.1 127 rfl) (hF233.1 128 rfl) (by rw [← e89]; exact ⟨fun h => absurd h c90_1, fun h => absurd h c90_0, fun h => absurd h c90_2, fun _ _ _ => (by decide)⟩)
          have n72b : LD3 s s233 (z236).toNatClampNeg := by rw [show z236.toNatClampNeg = y72_1.toNatClampNeg + 1 from (by show z236.toInt.toNat = y72_1.toInt.toNat + 1; have a0 := oa5 ro_109_22 i77a i80 i77 i82; have a5 := (t_mulc 5 (Or.inl e82) i77 rfl).1; have a6 := in_u i236; have a7 := t_add e236 i77 (in_c 1 rfl) rfl; have a8 := oa3 ((in_c 1 rfl)) i233a i228; have a11 := t_add e228 i82 (in_c 1 rfl) rfl; have oc := oc_302_109; (first | exact zt_s (by omega) (by omega) | omega))]; exact ld3_s g72_1 (by rw [← v72_109_32]; show y72_1.toInt.toNat < w72_109_32.toInt.toNat; have a0 := oa5 ro_109_22 i77a i80 i77 i82; have a5 := (t_mulc 5 (Or.inl e82) i77 rfl).1; have a6 := in_u i236; have a7 := t_add e236 i77 (in_c 1 rfl) rfl; have a8 := oa3 ((in_c 1 rfl)) i233a i228; have a11 := t_add e228 i82 (in_c 1 rfl) rfl; have oc := oc_302_109; (first | exact zt_t (by omega) (by omega) | omega)) ((p233b.2.2.2.1 rfl).trans (oR_w (by rw [← e89]; omega) (by rw [← e89]; omega) (by rw [← e89]; omega) (by show (sc72.1 128 (5 * y72_1.toNatClampNeg + 0)).toInt = _; rw [show 5 * y72_1.toNatClampNeg + 0 = z82.toNatClampNeg from (by show 5 * y72_1.toInt.toNat + 0 = z82.toInt.toNat; have a0 := oa5 ro_109_22 i77a i80 i77 i82; have a5 := (t_mulc 5 (Or.inl e82) i77 rfl).1; have a6 := in_u i236; have a7 := t_add e236 i77 (in_c 1 rfl) rfl; have a8 := oa3 ((in_c 1 rfl)) i233a i228; have a11 := t_add e228 i82 (in_c 1 rfl) rfl; have oc := oc_302_109; omega), ← e220]) (by show (sc72.1 128 (5 * y72_1.toNatClampNeg + 1)).toInt = _; rw [show 5 * y72_1.toNatClampNeg + 1 = z228.toNatClampNeg from (by show 5 * y72_1.toInt.toNat + 1 = z228.toInt.toNat; have a0 := oa5 ro_109_22 i77a i80 i77 i82; have a5 := (t_mulc 5 (Or.inl e82) i77 rfl).1; have a6 := in_u i236; have a7 := t_add e236 i77 (in_c 1 rfl) rfl; have a8 := oa3 ((in_c 1 rfl)) i233a i228; have a11 := t_add e228 i82 (in_c 1 rfl) rfl; have oc := oc_302_109; omega), ← e229])).symm) (hF233.1 127 rfl) (hF233.1 128 rfl) (hF233.2.2.1 109 32 rfl) (hF233.2.2.1 109 23 rfl)
          exact gg_w (by first | exact Nat.le_add_right _ _ | exact gw2 | exact gw3 | exact gwe rfl | exact gwf rfl | exact gwg rfl | exact gwh rfl | omega) (gg_f (gf_cons rfl (gf_cons rfl gf_nil)) (ih72 s233 z236 z233a w72_109_32 hI233 (fr_tr rfl hFc72 hF233) (in_w 0 500 i236 rfl) e233 v72 n72 n72a n72b (m_up mm72 (t_add e236 i77 (in_c 1 rfl) rfl) (in_w 1 1 (in_c 1 rfl) rfl))))
  have ct28 : ∀ (k28 : Nat) (sc28 : GS) (w28_109_27 : Int32) (w28_109_23 : Int32) (w28_109_32 : Int32) (w28_109_28 : Int32), Inv sc28 → Fr fm_302 s sc28 → (w28_109_27 = sc28.2.2.1 109 27) → (w28_109_23 = sc28.2.2.1 109 23) → (w28_109_32 = sc28.2.2.1 109 32) → (w28_109_28 = sc28.2.2.1 109 28) → ((w28_109_27).toInt ≤ (u_109_22).toInt) → ((w28_109_28).toInt ≠ 0 → (w28_109_23).toInt = 0 → 3 * (w28_109_32).toInt + 1 ≤ (w28_109_27).toInt) → ((w28_109_23).toInt = 0 → 3 * (w28_109_32).toInt ≤ (w28_109_27).toInt) → ((sc28.2.2.1 109 23).toInt = 0 → LDQ sc28 (sc28.2.2.1 109 32).toNatClampNeg) → ((sc28.2.2.1 109 23).toInt = 0 → (sc28.2.2.1 109 9).toInt + (sc28.2.2.1 109 32).toInt ≤ 4000) → (0 ≤ (sc28.2.2.1 109 23).toInt ∧ (sc28.2.2.1 109 23).toInt ≤ 9) → (LD1 s sc28) → 10 * ((u_109_22).toInt - (w28_109_27).toInt) + 9 - (w28_109_23).toInt < (k28 : Int) → GG Z (d - 1) 302 post (gx xp) (450902 + k28 * 900) 28 (fun j => xlook j [(0, .ref (A 109))]) [] (WW Z A sc28 ++ ex) 0 0 := by
    intro k28
    induction k28 with
    | zero => intro sc28 w28_109_27 w28_109_23 w28_109_32 w28_109_28 hIc28 hFc28 v28_109_27 v28_109_23 v28_109_32 v28_109_28 n28_0 n28_1 n28_2 g28_0 g28_1 g28_2 g28_3 mm28; exfalso; have a0 := oa4 ro_109_22 ((inv_F hIc28 0 500 rfl v28_109_32)) ((inv_F hIc28 0 9 rfl v28_109_23)) ((inv_F hIc28 0 1000 rfl v28_109_27)); have oc := oc_302_109; omega
    | succ k28 ih28 =>
      intro sc28 w28_109_27 w28_109_23 w28_109_32 w28_109_28 hIc28 hFc28 v28_109_27 v28_109_23 v28_109_32 v28_109_28 n28_0 n28_1 n28_2 g28_0 g28_1 g28_2 g28_3 mm28
      refine gg_w (M := 450902 + k28 * 900 + 900) gws ?_
      refine g_aload_n 29 (gd rfl) rfl rfl ?_
      refine g_getI 32 (gd rfl) rfl rfl rfl (fun z29 e29 => ?_)
      have q29 : w28_109_28 = z29 := (v28_109_28).trans e29.symm
      subst q29
      refine g_if_eq 35 60 (gd rfl) rfl rfl (fun c32 => ?_) (fun c32 => ?_)
      · skip
        have i32 := z_eq 0 0 c32 (inv_F hIc28 (-2147483648) 2147483647 rfl v28_109_28) rfl
        refine g_aload_n 61 (gd rfl) rfl rfl ?_
        refine g_getI 64 (gd rfl) rfl rfl rfl (fun z61 e61 => ?_)
        have q61 : w28_109_23 = z61 := (v28_109_23).trans e61.symm
        subst q61
        refine g_if_le 67 70 (gd rfl) rfl rfl (fun c64 => ?_) (fun c64 => ?_)
        · skip
          have i64 := z_le 0 0 c64 (inv_F hIc28 0 9 rfl v28_109_23) rfl
          have hfz : (sc28.2.2.1 109 23).toInt = 0 := (by have r := inv_F hIc28 0 9 rfl v28_109_23; unfold In at r; rw [← v28_109_23]; have h := c64; have h0 : (Int32.ofInt 0).toInt = 0 := rfl; omega); have hcc := g28_1 hfz; rw [← v28_109_32] at hcc
          refine g_iconst 0 71 (gd rfl) rfl rfl ?_
          refine g_istore_n 72 (gd rfl) rfl (Nat.le_of_ble_eq_true rfl) ?_
          have n72 : ((sc28.2.2.1 109 9)).toInt + (w28_109_32).toInt - ((Int32.ofInt 0)).toInt ≤ 4000 := by have a0 := oa7 ro_109_22 i32 ((inv_F hIc28 0 500 rfl v28_109_32)) i64 ((inv_F hIc28 0 1000 rfl v28_109_27)) ((in_c 0 rfl)) ((show In (sc28.2.2.1 109 9) 0 4000 from inv_F hIc28 0 4000 rfl rfl)); have oc := oc_302_109; omega
          have n72a : LDK sc28 (sc28.2.2.1 109 32).toNatClampNeg ((Int32.ofInt 0)).toNatClampNeg := by exact ldk_0 (g28_0 hfz)
          have n72b : LD3 s sc28 ((Int32.ofInt 0)).toNatClampNeg := by exact ld3_0 g28_3 hfz (by rw [← v28_109_28]; exact c32)
          exact gg_w (by first | exact Nat.le_add_right _ _ | exact gw2 | exact gw3 | exact gwe rfl | exact gwf rfl | exact gwg rfl | exact gwh rfl | omega) (gg_f (gf_cons rfl (gf_cons rfl gf_nil)) (ct72 501 sc28 (Int32.ofInt 0) _ w28_109_32 hIc28 hFc28 (in_w 0 500 (in_c 0 rfl) rfl) rfl v28_109_32 n72 n72a n72b (m_in 501 (in_w 0 500 (in_c 0 rfl) rfl) rfl)))
        · skip
          have i64 := z_gt 1 9 c64 (inv_F hIc28 0 9 rfl v28_109_23) rfl
          refine g_bipush (-4) 69 (gd rfl) rfl rfl ?_
          have n69 : LOT (s.1 125) (s.2.2.1 109 22).toInt.toNat (gvR s) ((Int32.ofInt (-4))).toInt (sc28.2.2.1 109 23).toInt (sc28.2.2.1 109 24).toInt (gvR sc28) := by exact ld1_x g28_3 (by rw [← v28_109_23]; have a0 := oa5 ro_109_22 i32 ((inv_F hIc28 0 500 rfl v28_109_32)) i64 ((inv_F hIc28 0 1000 rfl v28_109_27)); have oc := oc_302_109; omega) rfl
          exact g_ireturn (gd rfl) rfl rfl (hP _ _ ⟨sc28, hIc28, hFc28, (Int32.ofInt (-4)), rfl, rfl, in_w (-4) 500 (in_c (-4) rfl) rfl, n69⟩)
      · skip
        refine g_aload_n 36 (gd rfl) rfl rfl ?_
        refine g_getI 39 (gd rfl) rfl rfl rfl (fun z36 e36 => ?_)
        have q36 : w28_109_23 = z36 := (v28_109_23).trans e36.symm
        subst q36
        refine g_if_ne 42 60 (gd rfl) rfl rfl (fun c39 => ?_) (fun c39 => ?_)
        · skip
          have i39 := z_ne 1 9 c39 (inv_F hIc28 0 9 rfl v28_109_23) rfl
          refine g_aload_n 61 (gd rfl) rfl rfl ?_
          refine g_getI 64 (gd rfl) rfl rfl rfl (fun z61 e61 => ?_)
          have q61 : w28_109_23 = z61 := (v28_109_23).trans e61.symm
          subst q61
          refine g_if_le 67 70 (gd rfl) rfl rfl (fun c64 => ?_) (fun c64 => ?_)
          · skip
            exact zn_le c64 i39 rfl
          · skip
            refine g_bipush (-4) 69 (gd rfl) rfl rfl ?_
            have n69 : LOT (s.1 125) (s.2.2.1 109 22).toInt.toNat (gvR s) ((Int32.ofInt (-4))).toInt (sc28.2.2.1 109 23).toInt (sc28.2.2.1 109 24).toInt (gvR sc28) := by exact ld1_x g28_3 (by rw [← v28_109_23]; have a0 := oa4 ro_109_22 ((inv_F hIc28 0 500 rfl v28_109_32)) i39 ((inv_F hIc28 0 1000 rfl v28_109_27)); have oc := oc_302_109; omega) rfl
            exact g_ireturn (gd rfl) rfl rfl (hP _ _ ⟨sc28, hIc28, hFc28, (Int32.ofInt (-4)), rfl, rfl, in_w (-4) 500 (in_c (-4) rfl) rfl, n69⟩)
        · skip
          have i39 := z_eq 0 0 c39 (inv_F hIc28 0 9 rfl v28_109_23) rfl
          refine g_aload_n 43 (gd rfl) rfl rfl ?_
          have v43 : u_109_22 = sc28.2.2.1 109 22 := fr_F e_109_22 hFc28 rfl
          have n43 : (w28_109_27).toInt ≤ (u_109_22).toInt := by first | exact n28_0 | (have a0 := oa4 ro_109_22 ((inv_F hIc28 0 500 rfl v28_109_32)) i39 ((inv_F hIc28 0 1000 rfl v28_109_27)); have oc := oc_302_109; omega)
          have n43a : 3 * (w28_109_32).toInt + 1 ≤ (w28_109_27).toInt := by have a0 := oa4 ro_109_22 ((inv_F hIc28 0 500 rfl v28_109_32)) i39 ((inv_F hIc28 0 1000 rfl v28_109_27)); have oc := oc_302_109; omega
          have p43 : LDQ sc28 (sc28.2.2.1 109 32).toNatClampNeg := by exact g28_0 (by rw [← v28_109_23]; exact c39)
          have p43a : (sc28.2.2.1 109 23).toInt = 0 := by rw [← v28_109_23]; exact c39
          refine g_callv (X := _) (As := []) (r := []) (b := A 109) (q := 109) 46 (gd rfl) rfl rfl rfl rfl rfl (ww_o rfl) (Nat.le_of_ble_eq_true rfl) (Nat.zero_le _) (Nat.zero_le _) (f_304 (by first | exact dq1 hd rfl | exact dq0 hd rfl | exact dq2 hd rfl | exact dq3 hd rfl | omega) hIc28 v28_109_27 v43 v28_109_32 v28_109_28 rfl rfl v28_109_23 n43 n43a p43 p43a) (fun e u h => h) (fun v u h => ?_)
          obtain ⟨s43, hI43, hF43, n43b, n43c, n43d, n43e, n43f, rfl, rfl, p43b, p43c, p43d⟩ := h
          obtain ⟨z43a, e43⟩ : ∃ w, w = s43.2.2.1 109 27 := ⟨_, rfl⟩
          have i43a := inv_F hI43 0 1000 rfl e43
          obtain ⟨z43b, e43a⟩ : ∃ w, w = s43.2.2.1 109 23 := ⟨_, rfl⟩
          have i43b := inv_F hI43 0 9 rfl e43a
          obtain ⟨z43c, e43b⟩ : ∃ w, w = s43.2.2.1 109 32 := ⟨_, rfl⟩
          have i43c := inv_F hI43 0 500 rfl e43b
          obtain ⟨z43d, e43c⟩ : ∃ w, w = s43.2.2.1 109 9 := ⟨_, rfl⟩
          have i43d := inv_F hI43 0 4000 rfl e43c
          rw [← (show z43a = s43.2.2.1 109 27 from e43)] at n43b
          rw [← (show u_109_22 = s43.2.2.1 109 22 from fr_F (fr_F e_109_22 hFc28 rfl) hF43 rfl)] at n43b
          rw [← (show w28_109_27 = sc28.2.2.1 109 27 from v28_109_27)] at n43c
          rw [← (show z43a = s43.2.2.1 109 27 from e43)] at n43c
          rw [← (show z43a = s43.2.2.1 109 27 from e43)] at n43d
          rw [← (show z43b = s43.2.2.1 109 23 from e43a)] at n43d
          rw [← (show z43c = s43.2.2.1 109 32 from e43b)] at n43d
          rw [← (show w28_109_27 = sc28.2.2.1 109 27 from v28_109_27)] at n43e
          rw [← (show z43a = s43.2.2.1 109 27 from e43)] at n43e
          rw [← (show z43b = s43.2.2.1 109 23 from e43a)] at n43e
          rw [← (show z43b = s43.2.2.1 109 23 from e43a)] at n43f
          rw [← (show z43c = s43.2.2.1 109 32 from e43b)] at n43f
          rw [← (show z43d = s43.2.2.1 109 9 from e43c)] at n43f
          show GG _ _ _ _ _ _ _ _ [] _ _ _
          refine g_aload_n 47 (gd rfl) rfl rfl ?_
          refine g_getI 50 (gd rfl) rfl rfl rfl (fun z47 e47 => ?_)
          have q47 : z43b = z47 := (e43a).trans e47.symm
          subst q47
          refine g_if_ne 53 28 (gd rfl) rfl rfl (fun c50 => ?_) (fun c50 => ?_)
          · skip
            have i50 := z_ne 1 9 c50 i43b rfl
            have n28 : (z43a).toInt ≤ (u_109_22).toInt := by have a0 := oa8 ro_109_22 ((inv_F hIc28 0 500 rfl v28_109_32)) i39 ((inv_F hIc28 0 1000 rfl v28_109_27)) i43d i43c i50 i43a; have oc := oc_302_109; omega
            have n28a : ((s43.2.2.1 109 28)).toInt ≠ 0 → (z43b).toInt = 0 → 3 * (z43c).toInt + 1 ≤ (z43a).toInt := by have a0 := oa8 ro_109_22 ((inv_F hIc28 0 500 rfl v28_109_32)) i39 ((inv_F hIc28 0 1000 rfl v28_109_27)) i43d i43c i50 i43a; have oc := oc_302_109; omega
            have n28b : (z43b).toInt = 0 → 3 * (z43c).toInt ≤ (z43a).toInt := by have a0 := oa8 ro_109_22 ((inv_F hIc28 0 500 rfl v28_109_32)) i39 ((inv_F hIc28 0 1000 rfl v28_109_27)) i43d i43c i50 i43a; have oc := oc_302_109; omega
            have n28c : (s43.2.2.1 109 23).toInt = 0 → LDQ s43 (s43.2.2.1 109 32).toNatClampNeg := by exact p43b
            have n28d : (s43.2.2.1 109 23).toInt = 0 → (s43.2.2.1 109 9).toInt + (s43.2.2.1 109 32).toInt ≤ 4000 := by (intro hf; rw [← e43a] at hf; rw [← e43c, ← e43b]; exact n43f hf)
            have n28e : 0 ≤ (s43.2.2.1 109 23).toInt ∧ (s43.2.2.1 109 23).toInt ≤ 9 := by exact inv_F hI43 0 9 rfl rfl
            have n28f : LD1 s s43 := by exact ⟨(ld_cmd g28_3 (by rw [← v28_109_23]; exact c39) (by rw [← v28_109_28]; exact c32) p43c (geq_0 hF43 rfl p43d) (by have h := inv_F hIc28 0 500 rfl v28_109_32; rw [← v28_109_32]; exact h.1) (hFc28.1 125 rfl) (hFc28.2.2.1 109 22 rfl)).1, fun z => absurd z (by rw [← e43a]; exact c50), (ld_cmd g28_3 (by rw [← v28_109_23]; exact c39) (by rw [← v28_109_28]; exact c32) p43c (geq_0 hF43 rfl p43d) (by have h := inv_F hIc28 0 500 rfl v28_109_32; rw [← v28_109_32]; exact h.1) (hFc28.1 125 rfl) (hFc28.2.2.1 109 22 rfl)).2.2⟩
            have m28 : 10 * ((u_109_22).toInt - (z43a).toInt) + 9 - (z43b).toInt < ((k28 : Nat) : Int) := by have a0 := oa8 ro_109_22 ((inv_F hIc28 0 500 rfl v28_109_32)) i39 ((inv_F hIc28 0 1000 rfl v28_109_27)) i43d i43c i50 i43a; have oc := oc_302_109; omega
            exact gg_w (by first | exact Nat.le_add_right _ _ | exact gw2 | exact gw3 | exact gwe rfl | exact gwf rfl | exact gwg rfl | exact gwh rfl | omega) (gg_f (gf_cons rfl gf_nil) (ih28  s43 z43a z43b z43c _ hI43 (fr_tr rfl hFc28 hF43) e43 e43a e43b rfl n28 n28a n28b n28c n28d n28e n28f m28))
          · skip
            have i50 := z_eq 0 0 c50 i43b rfl
            refine g_aload_n 54 (gd rfl) rfl rfl ?_
            have v54 : u_109_22 = s43.2.2.1 109 22 := fr_F (fr_F e_109_22 hFc28 rfl) hF43 rfl
            have n54 : (z43a).toInt ≤ (u_109_22).toInt := by have a0 := oa8 ro_109_22 ((inv_F hIc28 0 500 rfl v28_109_32)) i39 ((inv_F hIc28 0 1000 rfl v28_109_27)) i43d i43c i50 i43a; have oc := oc_302_109; omega
            refine g_callv (X := _) (As := []) (r := []) (b := A 109) (q := 109) 57 (gd rfl) rfl rfl rfl rfl rfl (ww_o rfl) (Nat.le_of_ble_eq_true rfl) (Nat.zero_le _) (Nat.zero_le _) (f_299 (by first | exact dq1 hd rfl | exact dq0 hd rfl | exact dq2 hd rfl | exact dq3 hd rfl | omega) hI43 e43 v54 n54) (fun e u h => h) (fun v u h => ?_)
            obtain ⟨s54, hI54, hF54, n54a, n54b, n54c, n54d, n54e, rfl, rfl, p54⟩ := h
            obtain ⟨z54a, e54⟩ : ∃ w, w = s54.2.2.1 109 27 := ⟨_, rfl⟩
            have i54a := inv_F hI54 0 1000 rfl e54
            obtain ⟨z54b, e54a⟩ : ∃ w, w = s54.2.2.1 109 28 := ⟨_, rfl⟩
            obtain ⟨z54c, e54b⟩ : ∃ w, w = s54.2.2.1 109 30 := ⟨_, rfl⟩
            rw [← (show z54a = s54.2.2.1 109 27 from e54)] at n54a
            rw [← (show u_109_22 = s54.2.2.1 109 22 from fr_F (fr_F (fr_F e_109_22 hFc28 rfl) hF43 rfl) hF54 rfl)] at n54a
            rw [← (show z43a = s43.2.2.1 109 27 from e43)] at n54b
            rw [← (show z54a = s54.2.2.1 109 27 from e54)] at n54b
            rw [← (show z43a = s43.2.2.1 109 27 from e43)] at n54c
            rw [← (show z54a = s54.2.2.1 109 27 from e54)] at n54c
            rw [← (show z54b = s54.2.2.1 109 28 from e54a)] at n54c
            rw [← (show z54b = s54.2.2.1 109 28 from e54a)] at n54d
            rw [← (show z54c = s54.2.2.1 109 30 from e54b)] at n54d
            rw [← (show z54b = s54.2.2.1 109 28 from e54a)] at n54e
            rw [← (show z54c = s54.2.2.1 109 30 from e54b)] at n54e
            show GG _ _ _ _ _ _ _ _ [] _ _ _
            refine g_goto 28 (gd rfl) rfl ?_
            have v28 : z43c = s54.2.2.1 109 32 := fr_F (e43b) hF54 rfl
            have n28 : (z54a).toInt ≤ (u_109_22).toInt := by have a0 := oa7 ro_109_22 ((inv_F hIc28 0 500 rfl v28_109_32)) i39 ((inv_F hIc28 0 1000 rfl v28_109_27)) i54a i43d i43c; have oc := oc_302_109; omega
            have n28a : (z54b).toInt ≠ 0 → ((s54.2.2.1 109 23)).toInt = 0 → 3 * (z43c).toInt + 1 ≤ (z54a).toInt := by have a0 := oa8 ro_109_22 ((inv_F hIc28 0 500 rfl v28_109_32)) i39 ((inv_F hIc28 0 1000 rfl v28_109_27)) i54a i43d i43c ((show In (s54.2.2.1 109 23) 0 9 from inv_F hI54 0 9 rfl rfl)); have oc := oc_302_109; omega
            have n28b : ((s54.2.2.1 109 23)).toInt = 0 → 3 * (z43c).toInt ≤ (z54a).toInt := by have a0 := oa8 ro_109_22 ((inv_F hIc28 0 500 rfl v28_109_32)) i39 ((inv_F hIc28 0 1000 rfl v28_109_27)) i54a i43d i43c ((show In (s54.2.2.1 109 23) 0 9 from inv_F hI54 0 9 rfl rfl)); have oc := oc_302_109; omega
            have n28c : (s54.2.2.1 109 23).toInt = 0 → LDQ s54 (s54.2.2.1 109 32).toNatClampNeg := by (intro _; rw [hF54.2.2.1 109 32 rfl]; exact ldq_cg (p43b (by rw [← e43a]; exact c50)) (hF54.1 110 rfl) (hF54.1 112 rfl) (fun j _ => by rw [hF54.1 127 rfl]) (fun j _ => by rw [hF54.1 128 rfl]))
            have n28d : (s54.2.2.1 109 23).toInt = 0 → (s54.2.2.1 109 9).toInt + (s54.2.2.1 109 32).toInt ≤ 4000 := by (intro _; rw [hF54.2.2.1 109 9 rfl, hF54.2.2.1 109 32 rfl, ← e43c, ← e43b]; exact n43f c50)
            have n28e : 0 ≤ (s54.2.2.1 109 23).toInt ∧ (s54.2.2.1 109 23).toInt ≤ 9 := by exact inv_F hI54 0 9 rfl rfl
            have n28f : LD1 s s54 := by exact ld_tok hI54 (ld_cmd g28_3 (by rw [← v28_109_23]; exact c39) (by rw [← v28_109_28]; exact c32) p43c (geq_0 hF43 rfl p43d) (by have h := inv_F hIc28 0 500 rfl v28_109_32; rw [← v28_109_32]; exact h.1) (hFc28.1 125 rfl) (hFc28.2.2.1 109 22 rfl)).1 ((ld_cmd g28_3 (by rw [← v28_109_23]; exact c39) (by rw [← v28_109_28]; exact c32) p43c (geq_0 hF43 rfl p43d) (by have h := inv_F hIc28 0 500 rfl v28_109_32; rw [← v28_109_32]; exact h.1) (hFc28.1 125 rfl) (hFc28.2.2.1 109 22 rfl)).2.1 (by rw [← e43a]; exact c50)) (by rw [← e43a]; exact c50) p54 ((hF43.1 125 rfl).trans (hFc28.1 125 rfl)) ((hF43.2.2.1 109 22 rfl).trans (hFc28.2.2.1 109 22 rfl)) (gvR_cg hF54 rfl) (hF54.1 110 rfl) (hF54.1 112 rfl) (hF54.1 127 rfl) (hF54.1 128 rfl) (hF54.2.2.1 109 9 rfl) (hF54.2.2.1 109 32 rfl)
            have m28 : 10 * ((u_109_22).toInt - (z54a).toInt) + 9 - ((s54.2.2.1 109 23)).toInt < ((k28 : Nat) : Int) := by have a0 := oa8 ro_109_22 ((inv_F hIc28 0 500 rfl v28_109_32)) i39 ((inv_F hIc28 0 1000 rfl v28_109_27)) i54a i43d i43c ((show In (s54.2.2.1 109 23) 0 9 from inv_F hI54 0 9 rfl rfl)); have oc := oc_302_109; omega
            exact gg_w (by first | exact Nat.le_add_right _ _ | exact gw2 | exact gw3 | exact gwe rfl | exact gwf rfl | exact gwg rfl | exact gwh rfl | omega) (gg_f (gf_cons rfl gf_nil) (ih28  s54 z54a _ z43c z54b hI54 (fr_tr rfl (fr_tr rfl hFc28 hF43) hF54) e54 rfl v28 e54a n28 n28a n28b n28c n28d n28e n28f m28))
  refine g_enter2 (k := 302) (N := 9469802) (by first | exact dq1 hd rfl | exact dq0 hd rfl | exact dq2 hd rfl | exact dq3 hd rfl | omega) rfl (Nat.le_of_ble_eq_true rfl) ?_
  refine g_aload_n 1 (gd rfl) rfl rfl ?_
  refine g_iconst 0 2 (gd rfl) rfl rfl ?_
  refine g_putI 5 (gd rfl) rfl rfl rfl rfl ?_
  have hI2 := inv_sF (q := 109) (j := 0) hI rfl (in_w 0 2 (in_c 0 rfl) rfl)
  refine g_aload_n 6 (gd rfl) rfl rfl ?_
  refine g_iconst 0 7 (gd rfl) rfl rfl ?_
  refine g_putI 10 (gd rfl) rfl rfl rfl rfl ?_
  have hI7 := inv_sF (q := 109) (j := 23) hI2 rfl (in_w 0 9 (in_c 0 rfl) rfl)
  refine g_aload_n 11 (gd rfl) rfl rfl ?_
  refine g_iconst 0 12 (gd rfl) rfl rfl ?_
  refine g_putI 15 (gd rfl) rfl rfl rfl rfl ?_
  have hI12 := inv_sF (q := 109) (j := 32) hI7 rfl (in_w 0 500 (in_c 0 rfl) rfl)
  refine g_aload_n 16 (gd rfl) rfl rfl ?_
  refine g_iconst 0 17 (gd rfl) rfl rfl ?_
  refine g_putI 20 (gd rfl) rfl rfl rfl rfl ?_
  have hI17 := inv_sF (q := 109) (j := 27) hI12 rfl (in_w 0 1000 (in_c 0 rfl) rfl)
  refine g_aload_n 21 (gd rfl) rfl rfl ?_
  refine g_callv (X := _) (As := []) (r := []) (b := A 109) (q := 109) 24 (gd rfl) rfl rfl rfl rfl rfl (ww_o rfl) (Nat.le_of_ble_eq_true rfl) (Nat.zero_le _) (Nat.zero_le _) (k_303 (by first | exact dq1 hd rfl | exact dq0 hd rfl | exact dq2 hd rfl | exact dq3 hd rfl | omega) hI17 ) (fun e u h => h) (fun v u h => ?_)
  obtain ⟨s21, hI21, hF21, rfl, rfl, p21⟩ := h
  show GG _ _ _ _ _ _ _ _ [] _ _ _
  refine g_aload_n 25 (gd rfl) rfl rfl ?_
  have v25 : (Int32.ofInt 0) = s21.2.2.1 109 27 := fr_F (s := (sF (sF (sF (sF s 109 0 (Int32.ofInt 0)) 109 23 (Int32.ofInt 0)) 109 32 (Int32.ofInt 0)) 109 27 (Int32.ofInt 0))) (sF_get) hF21 rfl
  have v25a : u_109_22 = s21.2.2.1 109 22 := fr_F (s := (sF (sF (sF (sF s 109 0 (Int32.ofInt 0)) 109 23 (Int32.ofInt 0)) 109 32 (Int32.ofInt 0)) 109 27 (Int32.ofInt 0))) (sF_ne rfl (sF_ne rfl (sF_ne rfl (sF_ne rfl (e_109_22))))) hF21 rfl
  have n25 : ((Int32.ofInt 0)).toInt ≤ (u_109_22).toInt := by have a0 := oa2 ((inv_F hI 0 1000 rfl e_109_22)) ((in_c 0 rfl)); have oc := oc_302_109; omega
  refine g_callv (X := _) (As := []) (r := []) (b := A 109) (q := 109) 28 (gd rfl) rfl rfl rfl rfl rfl (ww_o rfl) (Nat.le_of_ble_eq_true rfl) (Nat.zero_le _) (Nat.zero_le _) (f_299 (by first | exact dq1 hd rfl | exact dq0 hd rfl | exact dq2 hd rfl | exact dq3 hd rfl | omega) hI21 v25 v25a n25) (fun e u h => h) (fun v u h => ?_)
  obtain ⟨s25, hI25, hF25, n25a, n25b, n25c, n25d, n25e, rfl, rfl, p25⟩ := h
  obtain ⟨z25a, e25⟩ : ∃ w, w = s25.2.2.1 109 27 := ⟨_, rfl⟩
  have i25a := inv_F hI25 0 1000 rfl e25
  obtain ⟨z25b, e25a⟩ : ∃ w, w = s25.2.2.1 109 28 := ⟨_, rfl⟩
  obtain ⟨z25c, e25b⟩ : ∃ w, w = s25.2.2.1 109 30 := ⟨_, rfl⟩
  rw [← (show z25a = s25.2.2.1 109 27 from e25)] at n25a
  rw [← (show u_109_22 = s25.2.2.1 109 22 from fr_F (fr_F (s := (sF (sF (sF (sF s 109 0 (Int32.ofInt 0)) 109 23 (Int32.ofInt 0)) 109 32 (Int32.ofInt 0)) 109 27 (Int32.ofInt 0))) (sF_ne rfl (sF_ne rfl (sF_ne rfl (sF_ne rfl (e_109_22))))) hF21 rfl) hF25 rfl)] at n25a
  rw [← (show (Int32.ofInt 0) = s21.2.2.1 109 27 from fr_F (s := (sF (sF (sF (sF s 109 0 (Int32.ofInt 0)) 109 23 (Int32.ofInt 0)) 109 32 (Int32.ofInt 0)) 109 27 (Int32.ofInt 0))) (sF_get) hF21 rfl)] at n25b
  rw [← (show z25a = s25.2.2.1 109 27 from e25)] at n25b
  rw [← (show (Int32.ofInt 0) = s21.2.2.1 109 27 from fr_F (s := (sF (sF (sF (sF s 109 0 (Int32.ofInt 0)) 109 23 (Int32.ofInt 0)) 109 32 (Int32.ofInt 0)) 109 27 (Int32.ofInt 0))) (sF_get) hF21 rfl)] at n25c
  rw [← (show z25a = s25.2.2.1 109 27 from e25)] at n25c
  rw [← (show z25b = s25.2.2.1 109 28 from e25a)] at n25c
  rw [← (show z25b = s25.2.2.1 109 28 from e25a)] at n25d
  rw [← (show z25c = s25.2.2.1 109 30 from e25b)] at n25d
  rw [← (show z25b = s25.2.2.1 109 28 from e25a)] at n25e
  rw [← (show z25c = s25.2.2.1 109 30 from e25b)] at n25e
  show GG _ _ _ _ _ _ _ _ [] _ _ _
  have v28 : (Int32.ofInt 0) = s25.2.2.1 109 32 := fr_F (fr_F (s := (sF (sF (sF (sF s 109 0 (Int32.ofInt 0)) 109 23 (Int32.ofInt 0)) 109 32 (Int32.ofInt 0)) 109 27 (Int32.ofInt 0))) (sF_ne rfl (sF_get)) hF21 rfl) hF25 rfl
  have n28 : (z25a).toInt ≤ (u_109_22).toInt := by have a0 := oa3 ((inv_F hI 0 1000 rfl e_109_22)) i25a ((in_c 0 rfl)); have oc := oc_302_109; omega
  have n28a : (z25b).toInt ≠ 0 → ((s25.2.2.1 109 23)).toInt = 0 → 3 * ((Int32.ofInt 0)).toInt + 1 ≤ (z25a).toInt := by have a0 := oa4 ((inv_F hI 0 1000 rfl e_109_22)) i25a ((in_c 0 rfl)) ((show In (s25.2.2.1 109 23) 0 9 from inv_F hI25 0 9 rfl rfl)); have oc := oc_302_109; omega
  have n28b : ((s25.2.2.1 109 23)).toInt = 0 → 3 * ((Int32.ofInt 0)).toInt ≤ (z25a).toInt := by have a0 := oa4 ((inv_F hI 0 1000 rfl e_109_22)) i25a ((in_c 0 rfl)) ((show In (s25.2.2.1 109 23) 0 9 from inv_F hI25 0 9 rfl rfl)); have oc := oc_302_109; omega
  have n28c : (s25.2.2.1 109 23).toInt = 0 → LDQ s25 (s25.2.2.1 109 32).toNatClampNeg := by (intro _; rw [show s25.2.2.1 109 32 = Int32.ofInt 0 from ((hF25.2.2.1 109 32 rfl).trans ((hF21.2.2.1 109 32 rfl).trans (by simp [sF])))]; exact ldq_cg (ldq_0 p21.1 p21.2.1 p21.2.2) (hF25.1 110 rfl) (hF25.1 112 rfl) (fun j _ => by rw [hF25.1 127 rfl]) (fun j _ => by rw [hF25.1 128 rfl]))
  have n28d : (s25.2.2.1 109 23).toInt = 0 → (s25.2.2.1 109 9).toInt + (s25.2.2.1 109 32).toInt ≤ 4000 := by (intro _; rw [show s25.2.2.1 109 32 = Int32.ofInt 0 from ((hF25.2.2.1 109 32 rfl).trans ((hF21.2.2.1 109 32 rfl).trans (by simp [sF])))]; have h := inv_F hI25 (z := s25.2.2.1 109 9) 0 4000 rfl rfl; unfold In at h; have h0 : (Int32.ofInt 0).toInt = 0 := rfl; omega)
  have n28e : 0 ≤ (s25.2.2.1 109 23).toInt ∧ (s25.2.2.1 109 23).toInt ≤ 9 := by exact inv_F hI25 0 9 rfl rfl
  have n28f : LD1 s s25 := by have hG0 := geq_0 hF21 rfl ⟨p21.2.1, fun i hi => (p21.2.2 i hi).2⟩; exact ld_tok hI25 (show GEQ (gvR s21) (gvR s) from hG0) (ldg_0 hI p21.1 p21.2.2 ((hF21.2.2.1 109 9 rfl).trans (by simp [sF])) ((hF21.2.2.1 109 32 rfl).trans (by simp [sF])) ((hF21.2.2.1 109 27 rfl).trans (by simp [sF]))) (by rw [show s21.2.2.1 109 23 = Int32.ofInt 0 from ((hF21.2.2.1 109 23 rfl).trans (by simp [sF]))]; rfl) p25 (hF21.1 125 rfl) ((hF21.2.2.1 109 22 rfl).trans (by simp [sF])) (gvR_cg hF25 rfl) (hF25.1 110 rfl) (hF25.1 112 rfl) (hF25.1 127 rfl) (hF25.1 128 rfl) (hF25.2.2.1 109 9 rfl) (hF25.2.2.1 109 32 rfl)
  have m28 : 10 * ((u_109_22).toInt - (z25a).toInt) + 9 - ((s25.2.2.1 109 23)).toInt < ((10020 : Nat) : Int) := by have a0 := oa4 ((inv_F hI 0 1000 rfl e_109_22)) i25a ((in_c 0 rfl)) ((show In (s25.2.2.1 109 23) 0 9 from inv_F hI25 0 9 rfl rfl)); have oc := oc_302_109; omega
  exact gg_w (by first | exact Nat.le_of_ble_eq_true rfl | omega) (gg_f (gf_cons rfl gf_nil) (ct28 10020 s25 z25a _ (Int32.ofInt 0) z25b hI25 (fr_tr rfl (fr_tr rfl (fr_sF rfl (fr_sF rfl (fr_sF rfl (fr_sF rfl fr_rf)))) hF21) hF25) e25 rfl v28 e25a n28 n28a n28b n28c n28d n28e n28f m28))

theorem oc_286_109 : (Int32.ofInt (-1)).toInt = (-1) ∧ (Int32.ofInt 0).toInt = 0 ∧ (Int32.ofInt 1).toInt = 1 ∧ (Int32.ofInt 160).toInt = 160 ∧ (Int64.ofInt (-1)).toInt = (-1) := ⟨rfl, rfl, rfl, rfl, rfl⟩
/-- GraphHouseModel.view -/
theorem f_286 {Z : AmZ} {A : Nat → Nat} {s : GS} {ex : va_W} {d : Nat} {X : AmX} {x1 : Int32} (hd : 4 ≤ d) (hI : Inv s)  : GC Z d 286 [.ref (A 109), .int x1] (WW Z A s ++ ex) 0 0 (fun v u => ∃ t : GS, Inv t ∧ Fr fm_286 s t ∧ ∃ z : Int32, v = some (.int z) ∧ u = WW Z A t ++ ex ∧ In z 0 4000 ∧ (GEQ (gvR t) (gvR s)) ∧ (VWQ s t x1 z)) X := by
  intro post xp hP hX
  obtain ⟨u_109_9, e_109_9⟩ : ∃ w, w = s.2.2.1 109 9 := ⟨_, rfl⟩
  have ro_109_9 := inv_F hI 0 4000 rfl e_109_9
  have ct66 : ∀ (k66 : Nat) (sc66 : GS) (y66_2 : Int32), Rng sc66 → Fr fm_286 s sc66 → (In x1 0 4000) → (In y66_2 0 4000) → ((x1).toInt ≤ (u_109_9).toInt) → (0 ≤ (x1).toInt) → ((y66_2).toInt ≤ (x1).toInt) → (sc66.1 110 0 = s.1 110 0 ∧ (sc66.1 110 1).toInt = (cz (s.1 118) (y66_2).toInt.toNat : Int)) → (∀ i, i < 160 → sc66.1 112 i = s.1 112 i ∧ sc66.1 113 i = s.1 113 i ∧ sc66.1 114 i = s.1 114 i) → (KE (sc66.1 112) (sc66.1 113) (sc66.1 114) (sc66.1 110) 1) → (GEQ (gvR sc66) (gvR s)) → ((sc66.2.2.1 109 0).toInt = 0) → 4000 - (y66_2).toInt < (k66 : Int) → GG Z (d - 1) 286 post (gx xp) (1 + k66 * 900) 66 (fun j => xlook j [(0, .ref (A 109)), (1, .int x1), (2, .int y66_2)]) [] (WW Z A sc66 ++ ex) 0 0 := by
    intro k66
    induction k66 with
    | zero => intro sc66 y66_2 hIc66 hFc66 j66_1 j66_2 n66_0 n66_1 n66_2 g66_0 g66_1 g66_2 g66_3 g66_4 mm66; exact m_no mm66 j66_2 rfl
    | succ k66 ih66 =>
      intro sc66 y66_2 hIc66 hFc66 j66_1 j66_2 n66_0 n66_1 n66_2 g66_0 g66_1 g66_2 g66_3 g66_4 mm66
      refine gg_w (M := 1 + k66 * 900 + 900) gws ?_
      refine g_iload_n 67 (gd rfl) rfl rfl ?_
      refine g_iload_n 68 (gd rfl) rfl rfl ?_
      refine g_cmp_ge 71 83 (gd rfl) rfl rfl (fun c68 => ?_) (fun c68 => ?_)
      · skip
        refine g_aload_n 84 (gd rfl) rfl rfl ?_
        have p84 : In (sc66.1 110 0) 0 32 ∧ In (sc66.1 110 1) 0 32 := by first | (have h := kr_nn hI; exact h) | exact vw_nn (x := y66_2) hI (by have a0 := oa3 j66_1 ro_109_9 j66_2; have oc := oc_286_109; omega) (by rw [← e_109_9]; have a0 := oa3 j66_1 ro_109_9 j66_2; have oc := oc_286_109; omega) g66_0.1 g66_0.2
        refine g_callv (X := _) (As := []) (r := []) (b := A 109) (q := 109) 87 (gd rfl) rfl rfl rfl rfl rfl (ww_o rfl) (Nat.le_of_ble_eq_true rfl) (Nat.zero_le _) (Nat.zero_le _) (k_276 (by first | exact dq1 hd rfl | exact dq0 hd rfl | exact dq2 hd rfl | exact dq3 hd rfl | omega) hIc66 p84) (fun e u h => h) (fun v u h => ?_)
        obtain ⟨s84, hI84, hF84, rfl, rfl, p84a⟩ := h
        show GG _ _ _ _ _ _ _ _ [] _ _ _
        refine g_iload_n 88 (gd rfl) rfl rfl ?_
        refine g_if_ge 91 98 (gd rfl) rfl rfl (fun c88 => ?_) (fun c88 => ?_)
        · skip
          refine g_iload_n 99 (gd rfl) rfl rfl ?_
          have hI99 : Inv s84 := by first | (have hFF : Fr ([], [], [(109, 0), (109, 17)], []) s s84 := (fr_tr rfl hFc66 hF84); exact ⟨hI84, kk_all hI.2 hFF rfl⟩) | (have hFF : Fr fm_286 s s84 := (fr_tr rfl hFc66 hF84); exact ⟨hI84, kk_g hI.2.1 hFF rfl rfl rfl rfl rfl, kk_g hI.2.2.1 hFF rfl rfl rfl rfl rfl, kk_s hI.2.2.2.1 hFF rfl, lk_kr hI (funext fun q => hF84.1 q rfl) (hFF.2.2.1 109 9 rfl) p84a⟩) | (have hFF : Fr fm_286 s s84 := (fr_tr rfl hFc66 hF84); exact ⟨hI84, kk_g hI.2.1 hFF rfl rfl rfl rfl rfl, kk_g hI.2.2.1 hFF rfl rfl rfl rfl rfl, kk_s hI.2.2.2.1 hFF rfl, vw_kr (x := y66_2) hI (in_w 0 4000 j66_2 rfl) (by rw [← e_109_9]; have a0 := oa3 j66_1 ro_109_9 j66_2; have oc := oc_286_109; omega) ((hF84.1 118 rfl).trans (hFc66.1 118 rfl)) ((hF84.1 119 rfl).trans (hFc66.1 119 rfl)) ((hF84.1 120 rfl).trans (hFc66.1 120 rfl)) ((hF84.1 121 rfl).trans (hFc66.1 121 rfl)) (hFF.2.2.1 109 9 rfl) ((congrFun (hF84.1 110 rfl) 0).trans g66_0.1) (by rw [hF84.1 110 rfl]; exact g66_0.2) (fun i hi => by rw [hF84.1 112 rfl, hF84.1 113 rfl, hF84.1 114 rfl]; exact g66_1 i hi) (by rw [hF84.1 112 rfl, hF84.1 113 rfl, hF84.1 114 rfl, hF84.1 110 rfl]; exact g66_2) p84a⟩)
          have n99 : GEQ (gvR s84) (gvR s) := by rw [gvR_cg hF84 rfl]; exact g66_3
          have n99a : VWQ s s84 x1 x1 := by exact Or.inr ⟨by rw [hF84.2.2.1 109 0 rfl]; exact g66_4, ⟨by have a0 := oa3 j66_1 ro_109_9 j66_2; have oc := oc_286_109; omega, by rw [← e_109_9]; have a0 := oa3 j66_1 ro_109_9 j66_2; have oc := oc_286_109; omega⟩, by rw [if_neg (by have a0 := oa3 j66_1 ro_109_9 j66_2; have oc := oc_286_109; omega)]⟩
          exact g_ireturn (gd rfl) rfl rfl (hP _ _ ⟨s84, hI99, (fr_tr rfl hFc66 hF84), x1, rfl, rfl, in_w 0 4000 j66_1 rfl, n99, n99a⟩)
        · skip
          exact zn_lt c88 j66_1 rfl
      · skip
        have i68 := r_lt1 0 3999 c68 j66_2 j66_1 rfl
        have i68a := r_lt2 1 4000 c68 j66_2 j66_1 rfl
        refine g_aload_n 72 (gd rfl) rfl rfl ?_
        refine g_iload_n 73 (gd rfl) rfl rfl ?_
        refine g_iconst 1 74 (gd rfl) rfl rfl ?_
        have p74 : AQ sc66 (y66_2).toNatClampNeg ((Int32.ofInt 1)).toNatClampNeg := by have h : AQ sc66 (y66_2).toNatClampNeg 1 := vw_aq hI (in_w 0 3999 i68 rfl) (by rw [← e_109_9]; have a0 := oa3 i68a ro_109_9 i68; have oc := oc_286_109; omega) ((hFc66 : Fr fm_286 s sc66).1 118 rfl) ((hFc66 : Fr fm_286 s sc66).1 119 rfl) ((hFc66 : Fr fm_286 s sc66).1 120 rfl) ((hFc66 : Fr fm_286 s sc66).1 121 rfl) g66_0.2; exact h
        refine g_callv (X := _) (As := [.int y66_2, .int (Int32.ofInt 1)]) (r := []) (b := A 109) (q := 109) 77 (gd rfl) rfl rfl rfl rfl rfl (ww_o rfl) (Nat.le_of_ble_eq_true rfl) (Nat.zero_le _) (Nat.zero_le _) (f_275 (by first | exact dq1 hd rfl | exact dq0 hd rfl | exact dq2 hd rfl | exact dq3 hd rfl | omega) hIc66 (in_w 0 3999 i68 rfl) (in_w 0 1 (in_c 1 rfl) rfl) p74) (fun e u h => h) (fun v u h => ?_)
        obtain ⟨s74, hI74, hF74, rfl, rfl, p74a, p74b, p74c⟩ := h
        show GG _ _ _ _ _ _ _ _ [] _ _ _
        refine g_iinc 80 (gd rfl) rfl rfl (Nat.le_of_ble_eq_true rfl) (fun z77 e77 => ?_)
        have i77 := in_add 1 4000 e77 i68 (in_c 1 rfl) rfl rfl
        refine g_goto 66 (gd rfl) rfl ?_
        have n66 : (x1).toInt ≤ (u_109_9).toInt := by first | exact n66_0 | (have a0 := oa4 i68a ro_109_9 i68 i77; have a4 := t_add e77 i68 (in_c 1 rfl) rfl; have a5 := in_u ((in_c 1 rfl)); have oc := oc_286_109; omega)
        have n66a : 0 ≤ (x1).toInt := by first | exact n66_1 | (have a0 := oa4 i68a ro_109_9 i68 i77; have a4 := t_add e77 i68 (in_c 1 rfl) rfl; have a5 := in_u ((in_c 1 rfl)); have oc := oc_286_109; omega)
        have n66b : (z77).toInt ≤ (x1).toInt := by have a0 := oa4 i68a ro_109_9 i68 i77; have a4 := t_add e77 i68 (in_c 1 rfl) rfl; have a5 := in_u ((in_c 1 rfl)); have oc := oc_286_109; omega
        have n66c : s74.1 110 0 = s.1 110 0 ∧ (s74.1 110 1).toInt = (cz (s.1 118) (z77).toInt.toNat : Int) := by first | exact ⟨g40_0.1, g40_0.2⟩ | (have hp : AP sc66 s74 y66_2.toNatClampNeg 1 := p74a; refine ⟨(hp.2.1 0 (by decide)).trans g66_0.1, ?_⟩; rw [hp.1, hFc66.1 118 rfl]; have e5 : y66_2.toNatClampNeg = y66_2.toInt.toNat := rfl; have e6 : z77.toInt.toNat = y66_2.toNatClampNeg + 1 := (by have a0 := oa4 i68a ro_109_9 i68 i77; have a4 := t_add e77 i68 (in_c 1 rfl) rfl; have a5 := in_u ((in_c 1 rfl)); have oc := oc_286_109; omega); rw [e6])
        have n66d : ∀ i, i < 160 → s74.1 112 i = s.1 112 i ∧ s74.1 113 i = s.1 113 i ∧ s74.1 114 i = s.1 114 i := by first | exact g40_1 | (have hp : AP sc66 s74 y66_2.toNatClampNeg 1 := p74a; intro i hi; have h := hp.2.2.2 i (Or.inl (by omega)); have h2 := g66_1 i hi; exact ⟨h.1.trans h2.1, h.2.1.trans h2.2.1, h.2.2.trans h2.2.2⟩)
        have n66e : KE (s74.1 112) (s74.1 113) (s74.1 114) (s74.1 110) 1 := by first | exact fun a ha h1 => absurd (g40_2 a (by have a0 := oa4 i68a ro_109_9 i68 i77; have a4 := t_add e77 i68 (in_c 1 rfl) rfl; have a5 := in_u ((in_c 1 rfl)); have oc := oc_286_109; omega)) h1 | (have hp : AP sc66 s74 y66_2.toNatClampNeg 1 := p74a; exact hp.2.2.1 g66_2)
        have n66f : GEQ (gvR s74) (gvR s) := by exact geq_t (geq_rp hIc66 (by show y66_2.toInt.toNat < 4000; have a0 := oa4 i68a ro_109_9 i68 i77; have a4 := t_add e77 i68 (in_c 1 rfl) rfl; have a5 := in_u ((in_c 1 rfl)); have oc := oc_286_109; (first | exact zt_l (by decide) (by omega) | omega)) p74a p74c (hF74.2.2.1 109 9 rfl)) g66_3
        have n66g : (s74.2.2.1 109 0).toInt = 0 := by rw [hF74.2.2.1 109 0 rfl]; exact g66_4
        exact gg_w (by first | exact Nat.le_add_right _ _ | exact gw2 | exact gw3 | exact gwe rfl | exact gwf rfl | exact gwg rfl | exact gwh rfl | omega) (gg_f (gf_cons rfl (gf_cons rfl (gf_cons rfl gf_nil))) (ih66 s74 z77 hI74 (fr_tr rfl hFc66 hF74) (in_w 0 4000 i68a rfl) (in_w 0 4000 i77 rfl) n66 n66a n66b n66c n66d n66e n66f n66g (m_up mm66 (t_add e77 i68 (in_c 1 rfl) rfl) (in_w 1 1 (in_c 1 rfl) rfl))))
  have ct40 : ∀ (k40 : Nat) (sc40 : GS) (y40_2 : Int32), Rng sc40 → Fr fm_286 s sc40 → (In x1 0 4000) → (In y40_2 0 160) → ((x1).toInt ≤ (u_109_9).toInt) → (0 ≤ (x1).toInt) → (sc40.1 110 0 = s.1 110 0 ∧ (sc40.1 110 1).toInt = 0) → (∀ i, i < 160 → sc40.1 112 i = s.1 112 i ∧ sc40.1 113 i = s.1 113 i ∧ sc40.1 114 i = s.1 114 i) → (∀ j : Nat, (j : Int) < (y40_2).toInt → (sc40.1 112 (160 + j)).toInt = 0) → (GEQ (gvR sc40) (gvR s)) → ((sc40.2.2.1 109 0).toInt = 0) → 160 - (y40_2).toInt < (k40 : Int) → GG Z (d - 1) 286 post (gx xp) (3600902 + k40 * 900) 40 (fun j => xlook j [(0, .ref (A 109)), (1, .int x1), (2, .int y40_2)]) [] (WW Z A sc40 ++ ex) 0 0 := by
    intro k40
    induction k40 with
    | zero => intro sc40 y40_2 hIc40 hFc40 j40_1 j40_2 n40_0 n40_1 g40_0 g40_1 g40_2 g40_3 g40_4 mm40; exact m_no mm40 j40_2 rfl
    | succ k40 ih40 =>
      intro sc40 y40_2 hIc40 hFc40 j40_1 j40_2 n40_0 n40_1 g40_0 g40_1 g40_2 g40_3 g40_4 mm40
      refine gg_w (M := 3600902 + k40 * 900 + 900) gws ?_
      refine g_iload_n 41 (gd rfl) rfl rfl ?_
      refine g_sipush 160 44 (gd rfl) rfl rfl ?_
      refine g_cmp_ge 47 64 (gd rfl) rfl rfl (fun c44 => ?_) (fun c44 => ?_)
      · skip
        have i44 := r_le2 160 160 c44 (in_c 160 rfl) j40_2 rfl
        refine g_iconst 0 65 (gd rfl) rfl rfl ?_
        refine g_istore_n 66 (gd rfl) rfl (Nat.le_of_ble_eq_true rfl) ?_
        have n66 : (x1).toInt ≤ (u_109_9).toInt := by first | exact n40_0 | (have a0 := oa4 j40_1 ro_109_9 i44 ((in_c 0 rfl)); have oc := oc_286_109; omega)
        have n66a : 0 ≤ (x1).toInt := by first | exact n40_1 | (have a0 := oa4 j40_1 ro_109_9 i44 ((in_c 0 rfl)); have oc := oc_286_109; omega)
        have n66b : ((Int32.ofInt 0)).toInt ≤ (x1).toInt := by have a0 := oa4 j40_1 ro_109_9 i44 ((in_c 0 rfl)); have oc := oc_286_109; omega
        have n66c : sc40.1 110 0 = s.1 110 0 ∧ (sc40.1 110 1).toInt = (cz (s.1 118) ((Int32.ofInt 0)).toInt.toNat : Int) := by first | exact ⟨g40_0.1, g40_0.2⟩ | (have hp : AP sc66 s74 y66_2.toNatClampNeg 1 := p74a; refine ⟨(hp.2.1 0 (by decide)).trans g66_0.1, ?_⟩; rw [hp.1, hFc66.1 118 rfl]; have e5 : y66_2.toNatClampNeg = y66_2.toInt.toNat := rfl; have e6 : z77.toInt.toNat = y66_2.toNatClampNeg + 1 := (by have a0 := oa4 j40_1 ro_109_9 i44 ((in_c 0 rfl)); have oc := oc_286_109; omega); rw [e6])
        have n66d : ∀ i, i < 160 → sc40.1 112 i = s.1 112 i ∧ sc40.1 113 i = s.1 113 i ∧ sc40.1 114 i = s.1 114 i := by first | exact g40_1 | (first | exact g40_1 | (have hp : AP sc66 s74 y66_2.toNatClampNeg 1 := p74a; intro i hi; have h := hp.2.2.2 i (Or.inl (by omega)); have h2 := g66_1 i hi; exact ⟨h.1.trans h2.1, h.2.1.trans h2.2.1, h.2.2.trans h2.2.2⟩))
        have n66e : KE (sc40.1 112) (sc40.1 113) (sc40.1 114) (sc40.1 110) 1 := by first | exact fun a ha h1 => absurd (g40_2 a (by have a0 := oa4 j40_1 ro_109_9 i44 ((in_c 0 rfl)); have oc := oc_286_109; omega)) h1 | (have hp : AP sc66 s74 y66_2.toNatClampNeg 1 := p74a; exact hp.2.2.1 g66_2)
        have n66f : GEQ (gvR sc40) (gvR s) := by exact g40_3
        have n66g : (sc40.2.2.1 109 0).toInt = 0 := by exact g40_4
        exact gg_w (by first | exact Nat.le_add_right _ _ | exact gw2 | exact gw3 | exact gwe rfl | exact gwf rfl | exact gwg rfl | exact gwh rfl | omega) (gg_f (gf_cons rfl (gf_cons rfl (gf_cons rfl gf_nil))) (ct66 4001 sc40 (Int32.ofInt 0) hIc40 hFc40 (in_w 0 4000 j40_1 rfl) (in_w 0 4000 (in_c 0 rfl) rfl) n66 n66a n66b n66c n66d n66e n66f n66g (m_in 4001 (in_w 0 4000 (in_c 0 rfl) rfl) rfl)))
      · skip
        have i44 := r_lt1 0 159 c44 j40_2 (in_c 160 rfl) rfl
        refine g_aload_n 48 (gd rfl) rfl rfl ?_
        refine g_getA (q2 := 112) 51 (gd rfl) rfl rfl rfl rfl ?_
        refine g_sipush 160 54 (gd rfl) rfl rfl ?_
        refine g_iload_n 55 (gd rfl) rfl rfl ?_
        refine g_iadd 56 (gd rfl) rfl (fun z55 e55 => ?_)
        have i55 := in_add 160 319 e55 (in_c 160 rfl) i44 rfl rfl
        refine g_iconst 0 57 (gd rfl) rfl rfl ?_
        refine g_bastore 58 (gd rfl) rfl (n := 480) rfl (in_ix i55 rfl) ?_
        have hI57 := rng_sI (q := 112) (j := z55.toNatClampNeg) hIc40 rfl (in_w 0 1 (nar01 (in_w 0 1 (in_c 0 rfl) rfl)) rfl)
        refine g_iinc 61 (gd rfl) rfl rfl (Nat.le_of_ble_eq_true rfl) (fun z58 e58 => ?_)
        have i58 := in_add 1 160 e58 i44 (in_c 1 rfl) rfl rfl
        refine g_goto 40 (gd rfl) rfl ?_
        have n40 : (x1).toInt ≤ (u_109_9).toInt := by first | exact n40_0 | (have a0 := oa4 j40_1 ro_109_9 i44 i58; have a4 := t_add e58 i44 (in_c 1 rfl) rfl; have a5 := oa2 ((in_c 1 rfl)) i55; have a7 := t_add e55 (in_c 160 rfl) i44 rfl; have a8 := in_u ((in_c 160 rfl)); have oc := oc_286_109; omega)
        have n40a : 0 ≤ (x1).toInt := by first | exact n40_1 | (have a0 := oa4 j40_1 ro_109_9 i44 i58; have a4 := t_add e58 i44 (in_c 1 rfl) rfl; have a5 := oa2 ((in_c 1 rfl)) i55; have a7 := t_add e55 (in_c 160 rfl) i44 rfl; have a8 := in_u ((in_c 160 rfl)); have oc := oc_286_109; omega)
        have n40b : (sI sc40 112 z55.toNatClampNeg (vp_nar .boolean (Int32.ofInt 0))).1 110 0 = s.1 110 0 ∧ ((sI sc40 112 z55.toNatClampNeg (vp_nar .boolean (Int32.ofInt 0))).1 110 1).toInt = 0 := by first | exact g40_0 | exact ⟨rfl, rfl⟩
        have n40c : ∀ i, i < 160 → (sI sc40 112 z55.toNatClampNeg (vp_nar .boolean (Int32.ofInt 0))).1 112 i = s.1 112 i ∧ (sI sc40 112 z55.toNatClampNeg (vp_nar .boolean (Int32.ofInt 0))).1 113 i = s.1 113 i ∧ (sI sc40 112 z55.toNatClampNeg (vp_nar .boolean (Int32.ofInt 0))).1 114 i = s.1 114 i := by first | exact fun i hi => ⟨rfl, rfl, rfl⟩ | (intro i hi; refine ⟨?_, (g40_1 i hi).2⟩; rw [sI_q]; unfold upd; rw [if_neg (by have e5 : z55.toNatClampNeg = z55.toInt.toNat := rfl; have a0 := oa4 j40_1 ro_109_9 i44 i58; have a4 := t_add e58 i44 (in_c 1 rfl) rfl; have a5 := oa2 ((in_c 1 rfl)) i55; have a7 := t_add e55 (in_c 160 rfl) i44 rfl; have a8 := in_u ((in_c 160 rfl)); have oc := oc_286_109; omega)]; exact (g40_1 i hi).1)
        have n40d : ∀ j : Nat, (j : Int) < (z58).toInt → ((sI sc40 112 z55.toNatClampNeg (vp_nar .boolean (Int32.ofInt 0))).1 112 (160 + j)).toInt = 0 := by first | (intro j hj; exfalso; have h0 : (Int32.ofInt 0).toInt = 0 := rfl; omega) | (intro j hj; rw [sI_q]; unfold upd; have e5 : z55.toNatClampNeg = z55.toInt.toNat := rfl; by_cases c : 160 + j = z55.toNatClampNeg; (rw [if_pos c]; rfl); (rw [if_neg c]; exact g40_2 j (by have a0 := oa4 j40_1 ro_109_9 i44 i58; have a4 := t_add e58 i44 (in_c 1 rfl) rfl; have a5 := oa2 ((in_c 1 rfl)) i55; have a7 := t_add e55 (in_c 160 rfl) i44 rfl; have a8 := in_u ((in_c 160 rfl)); have oc := oc_286_109; omega)))
        have n40e : GEQ (gvR (sI sc40 112 z55.toNatClampNeg (vp_nar .boolean (Int32.ofInt 0)))) (gvR s) := by first | exact geq_112 (by show 160 ≤ z55.toInt.toNat; have a0 := oa4 j40_1 ro_109_9 i44 i58; have a4 := t_add e58 i44 (in_c 1 rfl) rfl; have a5 := oa2 ((in_c 1 rfl)) i55; have a7 := t_add e55 (in_c 160 rfl) i44 rfl; have a8 := in_u ((in_c 160 rfl)); have oc := oc_286_109; omega) g40_3 | exact geq_110 (by decide) (by rw [(gvR_cg (L := ([], [], [(109, 0), (109, 17)], [])) (fr_sF rfl (fr_sF rfl fr_rf)) rfl)]; exact geq_r)
        have n40f : ((sI sc40 112 z55.toNatClampNeg (vp_nar .boolean (Int32.ofInt 0))).2.2.1 109 0).toInt = 0 := by first | exact g40_4 | rfl
        exact gg_w (by first | exact Nat.le_add_right _ _ | exact gw2 | exact gw3 | exact gwe rfl | exact gwf rfl | exact gwg rfl | exact gwh rfl | omega) (gg_f (gf_cons rfl (gf_cons rfl (gf_cons rfl gf_nil))) (ih40 (sI sc40 112 z55.toNatClampNeg (vp_nar .boolean (Int32.ofInt 0))) z58 hI57 (fr_sI rfl hFc40) (in_w 0 4000 j40_1 rfl) (in_w 0 160 i58 rfl) n40 n40a n40b n40c n40d n40e n40f (m_up mm40 (t_add e58 i44 (in_c 1 rfl) rfl) (in_w 1 1 (in_c 1 rfl) rfl))))
  refine g_enter2 (k := 286) (N := 3746702) (by first | exact dq1 hd rfl | exact dq0 hd rfl | exact dq2 hd rfl | exact dq3 hd rfl | omega) rfl (Nat.le_of_ble_eq_true rfl) ?_
  refine g_aload_n 1 (gd rfl) rfl rfl ?_
  refine g_iload_n 2 (gd rfl) rfl rfl ?_
  refine g_i2l 3 (gd rfl) rfl (fun z2 e2 => ?_)
  have i2 := l_i e2 (i_rng x1)
  refine g_ldc2_w (-1) 6 (gd rfl) rfl rfl ?_
  refine g_aload_n 7 (gd rfl) rfl rfl ?_
  refine g_getI 10 (gd rfl) rfl rfl rfl (fun z7 e7 => ?_)
  have q7 : u_109_9 = z7 := (e_109_9).trans e7.symm
  subst q7
  refine g_i2l 11 (gd rfl) rfl (fun z10 e10 => ?_)
  have i10 := l_i e10 ro_109_9
  refine g_calls (As := [.long z2, .long (Int64.ofInt (-1)), .long z10]) (r := [.ref (A 109)]) 14 (gd rfl) rfl rfl rfl rfl rfl (Nat.le_of_ble_eq_true rfl) (mc := 0) (ms := 0) (Nat.zero_le _) (Nat.zero_le _) (P := fun v u => _) ?_ (fun v u h => h)
  intro po11 xx11 hp11 hx11
  refine g_enter2 (k := 269) (N := 300) (by first | exact dq1 hd rfl | exact dq0 hd rfl | exact dq2 hd rfl | exact dq3 hd rfl | omega) rfl (Nat.le_of_ble_eq_true rfl) ?_
  refine g_lload_n 1 (gd rfl) rfl rfl ?_
  refine g_lload_n 2 (gd rfl) rfl rfl ?_
  refine g_lcmp 3 (gd rfl) rfl (fun z11x2 e11x2 => ?_)
  have i11x2 := lc_in e11x2
  refine g_if_lt 6 17 (gd rfl) rfl rfl (fun c11x3 => ?_) (fun c11x3 => ?_)
  · skip
    have i11x3 := z_lt (-1) (-1) c11x3 i11x2 rfl
    have c11x3a := lc_lt e11x2 c11x3
    have i11x3a := lr_lt1 (-2147483648) (-2) c11x3a i2 (l_c (-1) rfl) rfl
    have i11x3b := l_b e2 i11x3a
    refine g_iconst 0 18 (gd rfl) rfl rfl ?_
    refine g_ireturn (gd rfl) rfl (nb01 (in_w 0 1 (in_c 0 rfl) rfl)) (hp11 _ _ ?_)
    show GG _ _ _ _ _ _ _ _ [.int (Int32.ofInt 0), .ref (A 109)] _ _ _
    refine g_callv (X := _) (As := [.int (Int32.ofInt 0)]) (r := []) (b := A 109) (q := 109) 17 (gd rfl) rfl rfl rfl rfl rfl (ww_o rfl) (Nat.le_of_ble_eq_true rfl) (mc := 0) (ms := 0) (Nat.zero_le _) (Nat.zero_le _) (P := fun v u => _) ?_ (fun e u h => h) (fun v u h => h)
    intro po14 xx14 hp14 hx14
    refine g_enter2 (k := 271) (N := 300) (by first | exact dq1 hd rfl | exact dq0 hd rfl | exact dq2 hd rfl | exact dq3 hd rfl | omega) rfl (Nat.le_of_ble_eq_true rfl) ?_
    refine g_aload_n 1 (gd rfl) rfl rfl ?_
    refine g_iload_n 2 (gd rfl) rfl rfl ?_
    refine g_iconst 1 3 (gd rfl) rfl rfl ?_
    refine g_callv (X := _) (As := [.int (Int32.ofInt 0), .int (Int32.ofInt 1)]) (r := []) (b := A 109) (q := 109) 6 (gd rfl) rfl rfl rfl rfl rfl (ww_o rfl) (Nat.le_of_ble_eq_true rfl) (mc := 0) (ms := 0) (Nat.zero_le _) (Nat.zero_le _) (P := fun v u => _) ?_ (fun e u h => h) (fun v u h => h)
    intro po14x3 xx14x3 hp14x3 hx14x3
    refine g_enter2 (k := 270) (N := 300) (by first | exact dq1 hd rfl | exact dq0 hd rfl | exact dq2 hd rfl | exact dq3 hd rfl | omega) rfl (Nat.le_of_ble_eq_true rfl) ?_
    refine g_aload_n 1 (gd rfl) rfl rfl ?_
    refine g_iload_n 2 (gd rfl) rfl rfl ?_
    refine g_if_ne 5 9 (gd rfl) rfl rfl (fun c14x3x2 => ?_) (fun c14x3x2 => ?_)
    · skip
      exact zn_ne c14x3x2 (in_c 0 rfl) rfl
    · skip
      refine g_iconst 1 6 (gd rfl) rfl rfl ?_
      refine g_goto 18 (gd rfl) rfl ?_
      refine g_putI 21 (gd rfl) rfl rfl rfl rfl ?_
      have hI14x3x18 := rng_sF (q := 109) (j := 0) hI.1 rfl (in_w 0 2 (in_c 1 rfl) rfl)
      refine g_aload_n 22 (gd rfl) rfl rfl ?_
      refine g_getI 25 (gd rfl) rfl rfl rfl (fun z14x3x22 e14x3x22 => ?_)
      have q14x3x22 : (Int32.ofInt 1) = z14x3x22 := (sF_get).trans e14x3x22.symm
      subst q14x3x22
      refine g_if_le 28 32 (gd rfl) rfl rfl (fun c14x3x25 => ?_) (fun c14x3x25 => ?_)
      · skip
        exact zn_le c14x3x25 (in_c 1 rfl) rfl
      · skip
        refine g_iconst 1 29 (gd rfl) rfl rfl ?_
        refine g_goto 33 (gd rfl) rfl ?_
        refine g_ireturn (gd rfl) rfl (nb01 (in_w 0 1 (in_c 1 rfl) rfl)) (hp14x3 _ _ ?_)
        show GG _ _ _ _ _ _ _ _ [.int (Int32.ofInt 1)] _ _ _
        refine g_ireturn (gd rfl) rfl (nb01 (in_w 0 1 (in_c 1 rfl) rfl)) (hp14 _ _ ?_)
        show GG _ _ _ _ _ _ _ _ [.int (Int32.ofInt 1)] _ _ _
        refine g_if_eq 20 22 (gd rfl) rfl rfl (fun c17 => ?_) (fun c17 => ?_)
        · skip
          exact zn_eq c17 (in_c 1 rfl) rfl
        · skip
          refine g_iconst 0 21 (gd rfl) rfl rfl ?_
          have hI21 : Inv (sF s 109 0 (Int32.ofInt 1)) := by first | (have hFF : Fr ([], [], [(109, 0), (109, 17)], []) s (sF s 109 0 (Int32.ofInt 1)) := (fr_sF rfl fr_rf); exact ⟨hI14x3x18, kk_all hI.2 hFF rfl⟩) | (have hFF : Fr fm_286 s (sF s 109 0 (Int32.ofInt 1)) := (fr_sF rfl fr_rf); exact ⟨hI14x3x18, kk_g hI.2.1 hFF rfl rfl rfl rfl rfl, kk_g hI.2.2.1 hFF rfl rfl rfl rfl rfl, kk_s hI.2.2.2.1 hFF rfl, lk_kr hI (funext fun q => hF84.1 q rfl) (hFF.2.2.1 109 9 rfl) p84a⟩) | (have hFF : Fr fm_286 s (sF s 109 0 (Int32.ofInt 1)) := (fr_sF rfl fr_rf); exact ⟨hI14x3x18, kk_g hI.2.1 hFF rfl rfl rfl rfl rfl, kk_g hI.2.2.1 hFF rfl rfl rfl rfl rfl, kk_s hI.2.2.2.1 hFF rfl, vw_kr (x := y66_2) hI (in_w 0 4000 j66_2 rfl) (by rw [← e_109_9]; have a0 := oa3 ro_109_9 i11x3b ((in_c 1 rfl)); have a3 := tx_i2l e10; have a4 := tx_i2l e2; have oc := oc_286_109; omega) ((hF84.1 118 rfl).trans (hFc66.1 118 rfl)) ((hF84.1 119 rfl).trans (hFc66.1 119 rfl)) ((hF84.1 120 rfl).trans (hFc66.1 120 rfl)) ((hF84.1 121 rfl).trans (hFc66.1 121 rfl)) (hFF.2.2.1 109 9 rfl) ((congrFun (hF84.1 110 rfl) 0).trans g66_0.1) (by rw [hF84.1 110 rfl]; exact g66_0.2) (fun i hi => by rw [hF84.1 112 rfl, hF84.1 113 rfl, hF84.1 114 rfl]; exact g66_1 i hi) (by rw [hF84.1 112 rfl, hF84.1 113 rfl, hF84.1 114 rfl, hF84.1 110 rfl]; exact g66_2) p84a⟩)
          have n21 : GEQ (gvR (sF s 109 0 (Int32.ofInt 1))) (gvR s) := by rw [gvR_cg (L := ([], [], [(109, 0)], [])) (fr_sF rfl fr_rf) rfl]; exact geq_r
          have n21a : VWQ s (sF s 109 0 (Int32.ofInt 1)) x1 (Int32.ofInt 0) := by exact Or.inl ⟨rfl, by rw [← e_109_9]; have a0 := oa3 ro_109_9 i11x3b ((in_c 1 rfl)); have a3 := tx_i2l e10; have a4 := tx_i2l e2; have oc := oc_286_109; omega⟩
          exact g_ireturn (gd rfl) rfl rfl (hP _ _ ⟨(sF s 109 0 (Int32.ofInt 1)), hI21, (fr_sF rfl fr_rf), (Int32.ofInt 0), rfl, rfl, in_w 0 4000 (in_c 0 rfl) rfl, n21, n21a⟩)
  · skip
    have i11x3 := z_ge 0 1 c11x3 i11x2 rfl
    have c11x3a := lc_ge e11x2 c11x3
    have i11x3a := lr_le2 (-1) 2147483647 c11x3a (l_c (-1) rfl) i2 rfl
    have i11x3b := l_b e2 i11x3a
    refine g_lload_n 7 (gd rfl) rfl rfl ?_
    refine g_lload 9 (gd rfl) rfl rfl ?_
    refine g_lcmp 10 (gd rfl) rfl (fun z11x9 e11x9 => ?_)
    have i11x9 := lc_in e11x9
    refine g_if_gt 13 17 (gd rfl) rfl rfl (fun c11x10 => ?_) (fun c11x10 => ?_)
    · skip
      have i11x10 := z_gt 1 1 c11x10 i11x9 rfl
      have c11x10a := lc_gt e11x9 c11x10
      have i11x10a := lr_lt2 1 2147483647 c11x10a i10 i11x3a rfl
      have i11x10b := l_b e2 i11x10a
      refine g_iconst 0 18 (gd rfl) rfl rfl ?_
      refine g_ireturn (gd rfl) rfl (nb01 (in_w 0 1 (in_c 0 rfl) rfl)) (hp11 _ _ ?_)
      show GG _ _ _ _ _ _ _ _ [.int (Int32.ofInt 0), .ref (A 109)] _ _ _
      refine g_callv (X := _) (As := [.int (Int32.ofInt 0)]) (r := []) (b := A 109) (q := 109) 17 (gd rfl) rfl rfl rfl rfl rfl (ww_o rfl) (Nat.le_of_ble_eq_true rfl) (mc := 0) (ms := 0) (Nat.zero_le _) (Nat.zero_le _) (P := fun v u => _) ?_ (fun e u h => h) (fun v u h => h)
      intro po14 xx14 hp14 hx14
      refine g_enter2 (k := 271) (N := 300) (by first | exact dq1 hd rfl | exact dq0 hd rfl | exact dq2 hd rfl | exact dq3 hd rfl | omega) rfl (Nat.le_of_ble_eq_true rfl) ?_
      refine g_aload_n 1 (gd rfl) rfl rfl ?_
      refine g_iload_n 2 (gd rfl) rfl rfl ?_
      refine g_iconst 1 3 (gd rfl) rfl rfl ?_
      refine g_callv (X := _) (As := [.int (Int32.ofInt 0), .int (Int32.ofInt 1)]) (r := []) (b := A 109) (q := 109) 6 (gd rfl) rfl rfl rfl rfl rfl (ww_o rfl) (Nat.le_of_ble_eq_true rfl) (mc := 0) (ms := 0) (Nat.zero_le _) (Nat.zero_le _) (P := fun v u => _) ?_ (fun e u h => h) (fun v u h => h)
      intro po14x3 xx14x3 hp14x3 hx14x3
      refine g_enter2 (k := 270) (N := 300) (by first | exact dq1 hd rfl | exact dq0 hd rfl | exact dq2 hd rfl | exact dq3 hd rfl | omega) rfl (Nat.le_of_ble_eq_true rfl) ?_
      refine g_aload_n 1 (gd rfl) rfl rfl ?_
      refine g_iload_n 2 (gd rfl) rfl rfl ?_
      refine g_if_ne 5 9 (gd rfl) rfl rfl (fun c14x3x2 => ?_) (fun c14x3x2 => ?_)
      · skip
        exact zn_ne c14x3x2 (in_c 0 rfl) rfl
      · skip
        refine g_iconst 1 6 (gd rfl) rfl rfl ?_
        refine g_goto 18 (gd rfl) rfl ?_
        refine g_putI 21 (gd rfl) rfl rfl rfl rfl ?_
        have hI14x3x18 := rng_sF (q := 109) (j := 0) hI.1 rfl (in_w 0 2 (in_c 1 rfl) rfl)
        refine g_aload_n 22 (gd rfl) rfl rfl ?_
        refine g_getI 25 (gd rfl) rfl rfl rfl (fun z14x3x22 e14x3x22 => ?_)
        have q14x3x22 : (Int32.ofInt 1) = z14x3x22 := (sF_get).trans e14x3x22.symm
        subst q14x3x22
        refine g_if_le 28 32 (gd rfl) rfl rfl (fun c14x3x25 => ?_) (fun c14x3x25 => ?_)
        · skip
          exact zn_le c14x3x25 (in_c 1 rfl) rfl
        · skip
          refine g_iconst 1 29 (gd rfl) rfl rfl ?_
          refine g_goto 33 (gd rfl) rfl ?_
          refine g_ireturn (gd rfl) rfl (nb01 (in_w 0 1 (in_c 1 rfl) rfl)) (hp14x3 _ _ ?_)
          show GG _ _ _ _ _ _ _ _ [.int (Int32.ofInt 1)] _ _ _
          refine g_ireturn (gd rfl) rfl (nb01 (in_w 0 1 (in_c 1 rfl) rfl)) (hp14 _ _ ?_)
          show GG _ _ _ _ _ _ _ _ [.int (Int32.ofInt 1)] _ _ _
          refine g_if_eq 20 22 (gd rfl) rfl rfl (fun c17 => ?_) (fun c17 => ?_)
          · skip
            exact zn_eq c17 (in_c 1 rfl) rfl
          · skip
            refine g_iconst 0 21 (gd rfl) rfl rfl ?_
            have hI21 : Inv (sF s 109 0 (Int32.ofInt 1)) := by first | (have hFF : Fr ([], [], [(109, 0), (109, 17)], []) s (sF s 109 0 (Int32.ofInt 1)) := (fr_sF rfl fr_rf); exact ⟨hI14x3x18, kk_all hI.2 hFF rfl⟩) | (have hFF : Fr fm_286 s (sF s 109 0 (Int32.ofInt 1)) := (fr_sF rfl fr_rf); exact ⟨hI14x3x18, kk_g hI.2.1 hFF rfl rfl rfl rfl rfl, kk_g hI.2.2.1 hFF rfl rfl rfl rfl rfl, kk_s hI.2.2.2.1 hFF rfl, lk_kr hI (funext fun q => hF84.1 q rfl) (hFF.2.2.1 109 9 rfl) p84a⟩) | (have hFF : Fr fm_286 s (sF s 109 0 (Int32.ofInt 1)) := (fr_sF rfl fr_rf); exact ⟨hI14x3x18, kk_g hI.2.1 hFF rfl rfl rfl rfl rfl, kk_g hI.2.2.1 hFF rfl rfl rfl rfl rfl, kk_s hI.2.2.2.1 hFF rfl, vw_kr (x := y66_2) hI (in_w 0 4000 j66_2 rfl) (by rw [← e_109_9]; have a0 := oa3 ro_109_9 i11x10b ((in_c 1 rfl)); have a3 := tx_i2l e10; have a4 := tx_i2l e2; have oc := oc_286_109; omega) ((hF84.1 118 rfl).trans (hFc66.1 118 rfl)) ((hF84.1 119 rfl).trans (hFc66.1 119 rfl)) ((hF84.1 120 rfl).trans (hFc66.1 120 rfl)) ((hF84.1 121 rfl).trans (hFc66.1 121 rfl)) (hFF.2.2.1 109 9 rfl) ((congrFun (hF84.1 110 rfl) 0).trans g66_0.1) (by rw [hF84.1 110 rfl]; exact g66_0.2) (fun i hi => by rw [hF84.1 112 rfl, hF84.1 113 rfl, hF84.1 114 rfl]; exact g66_1 i hi) (by rw [hF84.1 112 rfl, hF84.1 113 rfl, hF84.1 114 rfl, hF84.1 110 rfl]; exact g66_2) p84a⟩)
            have n21 : GEQ (gvR (sF s 109 0 (Int32.ofInt 1))) (gvR s) := by rw [gvR_cg (L := ([], [], [(109, 0)], [])) (fr_sF rfl fr_rf) rfl]; exact geq_r
            have n21a : VWQ s (sF s 109 0 (Int32.ofInt 1)) x1 (Int32.ofInt 0) := by exact Or.inl ⟨rfl, by rw [← e_109_9]; have a0 := oa3 ro_109_9 i11x10b ((in_c 1 rfl)); have a3 := tx_i2l e10; have a4 := tx_i2l e2; have oc := oc_286_109; omega⟩
            exact g_ireturn (gd rfl) rfl rfl (hP _ _ ⟨(sF s 109 0 (Int32.ofInt 1)), hI21, (fr_sF rfl fr_rf), (Int32.ofInt 0), rfl, rfl, in_w 0 4000 (in_c 0 rfl) rfl, n21, n21a⟩)
    · skip
      have i11x10 := z_le (-1) 0 c11x10 i11x9 rfl
      have c11x10a := lc_le e11x9 c11x10
      have i11x10a := lr_le1 (-1) 4000 c11x10a i11x3a i10 rfl
      have i11x10b := l_b e2 i11x10a
      refine g_iconst 1 14 (gd rfl) rfl rfl ?_
      refine g_goto 18 (gd rfl) rfl ?_
      refine g_ireturn (gd rfl) rfl (nb01 (in_w 0 1 (in_c 1 rfl) rfl)) (hp11 _ _ ?_)
      show GG _ _ _ _ _ _ _ _ [.int (Int32.ofInt 1), .ref (A 109)] _ _ _
      refine g_callv (X := _) (As := [.int (Int32.ofInt 1)]) (r := []) (b := A 109) (q := 109) 17 (gd rfl) rfl rfl rfl rfl rfl (ww_o rfl) (Nat.le_of_ble_eq_true rfl) (mc := 0) (ms := 0) (Nat.zero_le _) (Nat.zero_le _) (P := fun v u => _) ?_ (fun e u h => h) (fun v u h => h)
      intro po14 xx14 hp14 hx14
      refine g_enter2 (k := 271) (N := 300) (by first | exact dq1 hd rfl | exact dq0 hd rfl | exact dq2 hd rfl | exact dq3 hd rfl | omega) rfl (Nat.le_of_ble_eq_true rfl) ?_
      refine g_aload_n 1 (gd rfl) rfl rfl ?_
      refine g_iload_n 2 (gd rfl) rfl rfl ?_
      refine g_iconst 1 3 (gd rfl) rfl rfl ?_
      refine g_callv (X := _) (As := [.int (Int32.ofInt 1), .int (Int32.ofInt 1)]) (r := []) (b := A 109) (q := 109) 6 (gd rfl) rfl rfl rfl rfl rfl (ww_o rfl) (Nat.le_of_ble_eq_true rfl) (mc := 0) (ms := 0) (Nat.zero_le _) (Nat.zero_le _) (P := fun v u => _) ?_ (fun e u h => h) (fun v u h => h)
      intro po14x3 xx14x3 hp14x3 hx14x3
      refine g_enter2 (k := 270) (N := 300) (by first | exact dq1 hd rfl | exact dq0 hd rfl | exact dq2 hd rfl | exact dq3 hd rfl | omega) rfl (Nat.le_of_ble_eq_true rfl) ?_
      refine g_aload_n 1 (gd rfl) rfl rfl ?_
      refine g_iload_n 2 (gd rfl) rfl rfl ?_
      refine g_if_ne 5 9 (gd rfl) rfl rfl (fun c14x3x2 => ?_) (fun c14x3x2 => ?_)
      · skip
        refine g_iload_n 10 (gd rfl) rfl rfl ?_
        refine g_if_ne 13 17 (gd rfl) rfl rfl (fun c14x3x10 => ?_) (fun c14x3x10 => ?_)
        · skip
          refine g_iconst 0 18 (gd rfl) rfl rfl ?_
          refine g_putI 21 (gd rfl) rfl rfl rfl rfl ?_
          have hI14x3x18 := rng_sF (q := 109) (j := 0) hI.1 rfl (in_w 0 2 (in_c 0 rfl) rfl)
          refine g_aload_n 22 (gd rfl) rfl rfl ?_
          refine g_getI 25 (gd rfl) rfl rfl rfl (fun z14x3x22 e14x3x22 => ?_)
          have q14x3x22 : (Int32.ofInt 0) = z14x3x22 := (sF_get).trans e14x3x22.symm
          subst q14x3x22
          refine g_if_le 28 32 (gd rfl) rfl rfl (fun c14x3x25 => ?_) (fun c14x3x25 => ?_)
          · skip
            refine g_iconst 0 33 (gd rfl) rfl rfl ?_
            refine g_ireturn (gd rfl) rfl (nb01 (in_w 0 1 (in_c 0 rfl) rfl)) (hp14x3 _ _ ?_)
            show GG _ _ _ _ _ _ _ _ [.int (Int32.ofInt 0)] _ _ _
            refine g_ireturn (gd rfl) rfl (nb01 (in_w 0 1 (in_c 0 rfl) rfl)) (hp14 _ _ ?_)
            show GG _ _ _ _ _ _ _ _ [.int (Int32.ofInt 0)] _ _ _
            refine g_if_eq 20 22 (gd rfl) rfl rfl (fun c17 => ?_) (fun c17 => ?_)
            · skip
              refine g_aload_n 23 (gd rfl) rfl rfl ?_
              refine g_iload_n 24 (gd rfl) rfl rfl ?_
              refine g_putI 27 (gd rfl) rfl rfl rfl rfl ?_
              have hI24 := rng_sF (q := 109) (j := 17) hI14x3x18 rfl (in_w (-1) 4000 i11x10b rfl)
              refine g_iload_n 28 (gd rfl) rfl rfl ?_
              refine g_if_lt 31 83 (gd rfl) rfl rfl (fun c28 => ?_) (fun c28 => ?_)
              · skip
                have i28 := z_lt (-1) (-1) c28 i11x10b rfl
                refine g_aload_n 84 (gd rfl) rfl rfl ?_
                have p84 : In ((sF (sF s 109 0 (Int32.ofInt 0)) 109 17 x1).1 110 0) 0 32 ∧ In ((sF (sF s 109 0 (Int32.ofInt 0)) 109 17 x1).1 110 1) 0 32 := by first | (have h := kr_nn hI; exact h) | exact vw_nn (x := y66_2) hI (by have a0 := oa3 i28 ro_109_9 ((in_c 0 rfl)); have a3 := tx_i2l e10; have a4 := tx_i2l e2; have oc := oc_286_109; omega) (by rw [← e_109_9]; have a0 := oa3 i28 ro_109_9 ((in_c 0 rfl)); have a3 := tx_i2l e10; have a4 := tx_i2l e2; have oc := oc_286_109; omega) g66_0.1 g66_0.2
                refine g_callv (X := _) (As := []) (r := []) (b := A 109) (q := 109) 87 (gd rfl) rfl rfl rfl rfl rfl (ww_o rfl) (Nat.le_of_ble_eq_true rfl) (Nat.zero_le _) (Nat.zero_le _) (k_276 (by first | exact dq1 hd rfl | exact dq0 hd rfl | exact dq2 hd rfl | exact dq3 hd rfl | omega) hI24 p84) (fun e u h => h) (fun v u h => ?_)
                obtain ⟨s84, hI84, hF84, rfl, rfl, p84a⟩ := h
                show GG _ _ _ _ _ _ _ _ [] _ _ _
                refine g_iload_n 88 (gd rfl) rfl rfl ?_
                refine g_if_ge 91 98 (gd rfl) rfl rfl (fun c88 => ?_) (fun c88 => ?_)
                · skip
                  exact zn_ge c88 i28 rfl
                · skip
                  refine g_aload_n 92 (gd rfl) rfl rfl ?_
                  refine g_getI 95 (gd rfl) rfl rfl rfl (fun z92 e92 => ?_)
                  have q92 : u_109_9 = z92 := (fr_F (s := (sF (sF s 109 0 (Int32.ofInt 0)) 109 17 x1)) (sF_ne rfl (sF_ne rfl (e_109_9))) hF84 rfl).trans e92.symm
                  subst q92
                  refine g_goto 99 (gd rfl) rfl ?_
                  have hI99 : Inv s84 := by first | (have hFF : Fr ([], [], [(109, 0), (109, 17)], []) s s84 := (fr_tr rfl (fr_sF rfl (fr_sF rfl fr_rf)) hF84); exact ⟨hI84, kk_all hI.2 hFF rfl⟩) | (have hFF : Fr fm_286 s s84 := (fr_tr rfl (fr_sF rfl (fr_sF rfl fr_rf)) hF84); exact ⟨hI84, kk_g hI.2.1 hFF rfl rfl rfl rfl rfl, kk_g hI.2.2.1 hFF rfl rfl rfl rfl rfl, kk_s hI.2.2.2.1 hFF rfl, lk_kr hI (funext fun q => hF84.1 q rfl) (hFF.2.2.1 109 9 rfl) p84a⟩) | (have hFF : Fr fm_286 s s84 := (fr_tr rfl (fr_sF rfl (fr_sF rfl fr_rf)) hF84); exact ⟨hI84, kk_g hI.2.1 hFF rfl rfl rfl rfl rfl, kk_g hI.2.2.1 hFF rfl rfl rfl rfl rfl, kk_s hI.2.2.2.1 hFF rfl, vw_kr (x := y66_2) hI (in_w 0 4000 j66_2 rfl) (by rw [← e_109_9]; have a0 := oa3 i28 ro_109_9 ((in_c 0 rfl)); have a3 := tx_i2l e10; have a4 := tx_i2l e2; have oc := oc_286_109; omega) ((hF84.1 118 rfl).trans (hFc66.1 118 rfl)) ((hF84.1 119 rfl).trans (hFc66.1 119 rfl)) ((hF84.1 120 rfl).trans (hFc66.1 120 rfl)) ((hF84.1 121 rfl).trans (hFc66.1 121 rfl)) (hFF.2.2.1 109 9 rfl) ((congrFun (hF84.1 110 rfl) 0).trans g66_0.1) (by rw [hF84.1 110 rfl]; exact g66_0.2) (fun i hi => by rw [hF84.1 112 rfl, hF84.1 113 rfl, hF84.1 114 rfl]; exact g66_1 i hi) (by rw [hF84.1 112 rfl, hF84.1 113 rfl, hF84.1 114 rfl, hF84.1 110 rfl]; exact g66_2) p84a⟩)
                  have n99 : GEQ (gvR s84) (gvR s) := by rw [gvR_cg hF84 rfl, (gvR_cg (L := ([], [], [(109, 0), (109, 17)], [])) (fr_sF rfl (fr_sF rfl fr_rf)) rfl)]; exact geq_r
                  have n99a : VWQ s s84 x1 u_109_9 := by exact Or.inr ⟨by rw [hF84.2.2.1 109 0 rfl]; rfl, ⟨by have a0 := oa3 i28 ro_109_9 ((in_c 0 rfl)); have a3 := tx_i2l e10; have a4 := tx_i2l e2; have oc := oc_286_109; omega, by rw [← e_109_9]; have a0 := oa3 i28 ro_109_9 ((in_c 0 rfl)); have a3 := tx_i2l e10; have a4 := tx_i2l e2; have oc := oc_286_109; omega⟩, by rw [if_pos (by have a0 := oa3 i28 ro_109_9 ((in_c 0 rfl)); have a3 := tx_i2l e10; have a4 := tx_i2l e2; have oc := oc_286_109; omega)]; exact e_109_9⟩
                  exact g_ireturn (gd rfl) rfl rfl (hP _ _ ⟨s84, hI99, (fr_tr rfl (fr_sF rfl (fr_sF rfl fr_rf)) hF84), u_109_9, rfl, rfl, in_w 0 4000 ro_109_9 rfl, n99, n99a⟩)
              · skip
                have i28 := z_ge 0 4000 c28 i11x10b rfl
                refine g_aload_n 32 (gd rfl) rfl rfl ?_
                refine g_getA (q2 := 110) 35 (gd rfl) rfl rfl rfl rfl ?_
                refine g_iconst 1 36 (gd rfl) rfl rfl ?_
                refine g_iconst 0 37 (gd rfl) rfl rfl ?_
                refine g_iastore 38 (gd rfl) rfl (n := 3) rfl (in_ix (in_c 1 rfl) rfl) ?_
                have hI37 := rng_sI (q := 110) (j := (Int32.ofInt 1).toNatClampNeg) hI24 rfl (in_w (-2147483648) 2147483647 (in_c 0 rfl) rfl)
                refine g_iconst 0 39 (gd rfl) rfl rfl ?_
                refine g_istore_n 40 (gd rfl) rfl (Nat.le_of_ble_eq_true rfl) ?_
                have n40 : (x1).toInt ≤ (u_109_9).toInt := by have a0 := oa3 i28 ro_109_9 ((in_c 0 rfl)); have a3 := tx_i2l e10; have a4 := tx_i2l e2; have oc := oc_286_109; omega
                have n40a : 0 ≤ (x1).toInt := by have a0 := oa3 i28 ro_109_9 ((in_c 0 rfl)); have a3 := tx_i2l e10; have a4 := tx_i2l e2; have oc := oc_286_109; omega
                have n40b : (sI (sF (sF s 109 0 (Int32.ofInt 0)) 109 17 x1) 110 (Int32.ofInt 1).toNatClampNeg (Int32.ofInt 0)).1 110 0 = s.1 110 0 ∧ ((sI (sF (sF s 109 0 (Int32.ofInt 0)) 109 17 x1) 110 (Int32.ofInt 1).toNatClampNeg (Int32.ofInt 0)).1 110 1).toInt = 0 := by first | exact g40_0 | exact ⟨rfl, rfl⟩
                have n40c : ∀ i, i < 160 → (sI (sF (sF s 109 0 (Int32.ofInt 0)) 109 17 x1) 110 (Int32.ofInt 1).toNatClampNeg (Int32.ofInt 0)).1 112 i = s.1 112 i ∧ (sI (sF (sF s 109 0 (Int32.ofInt 0)) 109 17 x1) 110 (Int32.ofInt 1).toNatClampNeg (Int32.ofInt 0)).1 113 i = s.1 113 i ∧ (sI (sF (sF s 109 0 (Int32.ofInt 0)) 109 17 x1) 110 (Int32.ofInt 1).toNatClampNeg (Int32.ofInt 0)).1 114 i = s.1 114 i := by first | exact fun i hi => ⟨rfl, rfl, rfl⟩ | (intro i hi; refine ⟨?_, (g40_1 i hi).2⟩; rw [sI_q]; unfold upd; rw [if_neg (by have e5 : z55.toNatClampNeg = z55.toInt.toNat := rfl; have a0 := oa3 i28 ro_109_9 ((in_c 0 rfl)); have a3 := tx_i2l e10; have a4 := tx_i2l e2; have oc := oc_286_109; omega)]; exact (g40_1 i hi).1)
                have n40d : ∀ j : Nat, (j : Int) < ((Int32.ofInt 0)).toInt → ((sI (sF (sF s 109 0 (Int32.ofInt 0)) 109 17 x1) 110 (Int32.ofInt 1).toNatClampNeg (Int32.ofInt 0)).1 112 (160 + j)).toInt = 0 := by first | (intro j hj; exfalso; have h0 : (Int32.ofInt 0).toInt = 0 := rfl; omega) | (intro j hj; rw [sI_q]; unfold upd; have e5 : z55.toNatClampNeg = z55.toInt.toNat := rfl; by_cases c : 160 + j = z55.toNatClampNeg; (rw [if_pos c]; rfl); (rw [if_neg c]; exact g40_2 j (by have a0 := oa3 i28 ro_109_9 ((in_c 0 rfl)); have a3 := tx_i2l e10; have a4 := tx_i2l e2; have oc := oc_286_109; omega)))
                have n40e : GEQ (gvR (sI (sF (sF s 109 0 (Int32.ofInt 0)) 109 17 x1) 110 (Int32.ofInt 1).toNatClampNeg (Int32.ofInt 0))) (gvR s) := by first | exact geq_112 (by show 160 ≤ z55.toInt.toNat; have a0 := oa3 i28 ro_109_9 ((in_c 0 rfl)); have a3 := tx_i2l e10; have a4 := tx_i2l e2; have oc := oc_286_109; omega) g40_3 | exact geq_110 (by decide) (by rw [(gvR_cg (L := ([], [], [(109, 0), (109, 17)], [])) (fr_sF rfl (fr_sF rfl fr_rf)) rfl)]; exact geq_r)
                have n40f : ((sI (sF (sF s 109 0 (Int32.ofInt 0)) 109 17 x1) 110 (Int32.ofInt 1).toNatClampNeg (Int32.ofInt 0)).2.2.1 109 0).toInt = 0 := by first | exact g40_4 | rfl
                exact gg_w (by first | exact Nat.le_of_ble_eq_true rfl | omega) (gg_f (gf_cons rfl (gf_cons rfl (gf_cons rfl gf_nil))) (ct40 161 (sI (sF (sF s 109 0 (Int32.ofInt 0)) 109 17 x1) 110 (Int32.ofInt 1).toNatClampNeg (Int32.ofInt 0)) (Int32.ofInt 0) hI37 (fr_sI rfl (fr_sF rfl (fr_sF rfl fr_rf))) (in_w 0 4000 i28 rfl) (in_w 0 160 (in_c 0 rfl) rfl) n40 n40a n40b n40c n40d n40e n40f (m_in 161 (in_w 0 160 (in_c 0 rfl) rfl) rfl)))
            · skip
              exact zn_ne c17 (in_c 0 rfl) rfl
          · skip
            exact zn_gt c14x3x25 (in_c 0 rfl) rfl
        · skip
          exact zn_eq c14x3x10 (in_c 1 rfl) rfl
      · skip
        exact zn_eq c14x3x2 (in_c 1 rfl) rfl

theorem oc_134_1_32 : (Int32.ofInt (-1)).toInt = (-1) ∧ (Int32.ofInt 0).toInt = 0 ∧ (Int32.ofInt 1).toInt = 1 := ⟨rfl, rfl, rfl⟩
/-- GraphHouse$Ledger.replay -/
theorem f_134_1_32 {Z : AmZ} {A : Nat → Nat} {s : GS} {ex : va_W} {d : Nat} {X : AmX} {x2 : Int32} {u_32_0 : Int32} {u_32_1 : Int32} {u_2_0 : Int32} {u_30_0 : Int32} (hd : 5 ≤ d) (hI : Inv s) (h2 : In x2 0 4000) (e_32_0 : u_32_0 = s.2.2.1 32 0) (e_32_1 : u_32_1 = s.2.2.1 32 1) (e_2_0 : u_2_0 = s.2.2.1 2 0) (e_30_0 : u_30_0 = s.2.2.1 30 0) (p_0 : (x2).toInt ≤ (u_2_0).toInt) (p_1 : 7 * (u_2_0).toInt ≤ (u_30_0).toInt) (q_0 : KL s) : GC Z d 134 [.ref (A 1), .ref (A 32), .int x2] (WW Z A s ++ ex) 0 0 (fun v u => ∃ t : GS, Inv t ∧ Fr fm_134_1_32 s t ∧ v = none ∧ u = WW Z A t ++ ex ∧ (KL t) ∧ ((t.2.2.1 32 0).toInt = (x2).toInt)) X := by
  intro post xp hP hX
  have ro_2_0 := inv_F hI 0 4000 rfl e_2_0
  have ro_30_0 := inv_F hI 448 28000 rfl e_30_0
  have ct17 : ∀ (k17 : Nat) (sc17 : GS) (y17_3 : Int32) (w17_32_0 : Int32) (w17_32_1 : Int32), Inv sc17 → Fr fm_134_1_32 s sc17 → (In y17_3 0 4000) → (w17_32_0 = sc17.2.2.1 32 0) → (w17_32_1 = sc17.2.2.1 32 1) → ((w17_32_0).toInt = (y17_3).toInt) → ((y17_3).toInt ≤ (x2).toInt) → (KV sc17 32) → 4000 - (y17_3).toInt < (k17 : Int) → GG Z (d - 1) 134 post (gx xp) (1 + k17 * 900) 17 (fun j => xlook j [(0, .ref (A 1)), (1, .ref (A 32)), (2, .int x2), (3, .int y17_3)]) [] (WW Z A sc17 ++ ex) 0 0 := by
    intro k17
    induction k17 with
    | zero => intro sc17 y17_3 w17_32_0 w17_32_1 hIc17 hFc17 j17_3 v17_32_0 v17_32_1 n17_0 n17_1 g17_0 mm17; exact m_no mm17 j17_3 rfl
    | succ k17 ih17 =>
      intro sc17 y17_3 w17_32_0 w17_32_1 hIc17 hFc17 j17_3 v17_32_0 v17_32_1 n17_0 n17_1 g17_0 mm17
      refine gg_w (M := 1 + k17 * 900 + 900) gws ?_
      refine g_iload_n 18 (gd rfl) rfl rfl ?_
      refine g_iload_n 19 (gd rfl) rfl rfl ?_
      refine g_cmp_ge 22 33 (gd rfl) rfl rfl (fun c19 => ?_) (fun c19 => ?_)
      · skip
        have n33 : KL sc17 := by have hFF : Fr fm_134_1_32 s sc17 := hFc17; exact kl_sh q_0 hFF rfl (by rw [← v17_32_0, ← e_2_0]; have a0 := oa6 h2 ro_30_0 ro_2_0 ((inv_F hIc17 0 32 rfl v17_32_1)) ((inv_F hIc17 0 4000 rfl v17_32_0)) j17_3; have oc := oc_134_1_32; omega) g17_0
        have n33a : (sc17.2.2.1 32 0).toInt = (x2).toInt := by rw [← v17_32_0]; have a0 := oa6 h2 ro_30_0 ro_2_0 ((inv_F hIc17 0 32 rfl v17_32_1)) ((inv_F hIc17 0 4000 rfl v17_32_0)) j17_3; have oc := oc_134_1_32; omega
        exact g_return (gd rfl) rfl (hP _ _ ⟨sc17, hIc17, hFc17, rfl, rfl, n33, n33a⟩)
      · skip
        have i19 := r_lt1 0 3999 c19 j17_3 h2 rfl
        have i19a := r_lt2 1 4000 c19 j17_3 h2 rfl
        refine g_aload_n 23 (gd rfl) rfl rfl ?_
        refine g_aload_n 24 (gd rfl) rfl rfl ?_
        have i24 : In w17_32_0 0 3999 := by exact ⟨by have a0 := oa6 i19a ro_30_0 ro_2_0 ((inv_F hIc17 0 32 rfl v17_32_1)) ((inv_F hIc17 0 4000 rfl v17_32_0)) i19; have oc := oc_134_1_32; omega, by have a0 := oa6 i19a ro_30_0 ro_2_0 ((inv_F hIc17 0 32 rfl v17_32_1)) ((inv_F hIc17 0 4000 rfl v17_32_0)) i19; have oc := oc_134_1_32; omega⟩
        have v24 : u_30_0 = sc17.2.2.1 30 0 := fr_F e_30_0 hFc17 rfl
        have n24 : 7 * (w17_32_0).toInt + 7 ≤ (u_30_0).toInt := by have a0 := oa6 i19a ro_30_0 ro_2_0 ((inv_F hIc17 0 32 rfl v17_32_1)) i24 i19; have oc := oc_134_1_32; omega
        have p24 : RW7 (sc17.1 30) (sc17.2.2.1 32 0).toInt.toNat := by rw [hFc17.1 30 rfl]; exact q_0.1 _ (by rw [← v17_32_0, ← e_2_0]; have a0 := oa6 i19a ro_30_0 ro_2_0 ((inv_F hIc17 0 32 rfl v17_32_1)) i24 i19; have oc := oc_134_1_32; omega)
        have p24a : KV sc17 32 := by exact g17_0
        refine g_callv (X := _) (As := [.ref (A 32)]) (r := []) (b := A 1) (q := 1) 27 (gd rfl) rfl rfl rfl rfl rfl (ww_o rfl) (Nat.le_of_ble_eq_true rfl) (Nat.zero_le _) (Nat.zero_le _) (k_131_1_32 (by first | exact dq1 hd rfl | exact dq0 hd rfl | exact dq2 hd rfl | exact dq3 hd rfl | omega) hIc17 v17_32_0 v17_32_1 v24 (in_w 0 3999 i24 rfl) n24 p24 p24a) (fun e u h => h) (fun v u h => ?_)
        obtain ⟨s24, hI24, hF24, n24a, rfl, rfl, p24b⟩ := h
        obtain ⟨z24a, e24⟩ : ∃ w, w = s24.2.2.1 32 0 := ⟨_, rfl⟩
        have i24b := inv_F hI24 0 4000 rfl e24
        rw [← (show w17_32_0 = sc17.2.2.1 32 0 from v17_32_0)] at n24a
        rw [← (show z24a = s24.2.2.1 32 0 from e24)] at n24a
        show GG _ _ _ _ _ _ _ _ [] _ _ _
        refine g_iinc 30 (gd rfl) rfl rfl (Nat.le_of_ble_eq_true rfl) (fun z27 e27 => ?_)
        have i27 := in_add 1 4000 e27 i19 (in_c 1 rfl) rfl rfl
        refine g_goto 17 (gd rfl) rfl ?_
        have n17 : (z24a).toInt = (z27).toInt := by have a0 := oa7 i19a ro_30_0 ro_2_0 ((inv_F hIc17 0 32 rfl v17_32_1)) i24 i19 i27; have a7 := t_add e27 i19 (in_c 1 rfl) rfl; have a8 := oa2 ((in_c 1 rfl)) i24b; have oc := oc_134_1_32; omega
        have n17a : (z27).toInt ≤ (x2).toInt := by have a0 := oa7 i19a ro_30_0 ro_2_0 ((inv_F hIc17 0 32 rfl v17_32_1)) i24 i19 i27; have a7 := t_add e27 i19 (in_c 1 rfl) rfl; have a8 := oa2 ((in_c 1 rfl)) i24b; have oc := oc_134_1_32; omega
        have n17b : KV s24 32 := by exact p24b
        exact gg_w (by first | exact Nat.le_add_right _ _ | exact gw2 | exact gw3 | exact gwe rfl | exact gwf rfl | exact gwg rfl | exact gwh rfl | omega) (gg_f (gf_cons rfl (gf_cons rfl (gf_cons rfl (gf_cons rfl gf_nil)))) (ih17 s24 z27 z24a _ hI24 (fr_tr rfl hFc17 hF24) (in_w 0 4000 i27 rfl) e24 rfl n17 n17a n17b (m_up mm17 (t_add e27 i19 (in_c 1 rfl) rfl) (in_w 1 1 (in_c 1 rfl) rfl))))
  refine g_enter2 (k := 134) (N := 3601801) (by first | exact dq1 hd rfl | exact dq0 hd rfl | exact dq2 hd rfl | exact dq3 hd rfl | omega) rfl (Nat.le_of_ble_eq_true rfl) ?_
  refine g_iload_n 1 (gd rfl) rfl rfl ?_
  refine g_aload_n 2 (gd rfl) rfl rfl ?_
  refine g_getI 5 (gd rfl) rfl rfl rfl (fun z2 e2 => ?_)
  have q2 : u_32_0 = z2 := (e_32_0).trans e2.symm
  subst q2
  refine g_cmp_ge 8 12 (gd rfl) rfl rfl (fun c5 => ?_) (fun c5 => ?_)
  · skip
    refine g_aload_n 13 (gd rfl) rfl rfl ?_
    refine g_getI 16 (gd rfl) rfl rfl rfl (fun z13 e13 => ?_)
    have q13 : u_32_0 = z13 := (e_32_0).trans e13.symm
    subst q13
    refine g_istore_n 17 (gd rfl) rfl (Nat.le_of_ble_eq_true rfl) ?_
    have n17 : (u_32_0).toInt = (u_32_0).toInt := by have a0 := oa5 ((inv_F hI 448 28000 rfl e_30_0)) ((inv_F hI 0 4000 rfl e_2_0)) ((inv_F hI 0 32 rfl e_32_1)) ((inv_F hI 0 4000 rfl e_32_0)) h2; have oc := oc_134_1_32; omega
    have n17a : (u_32_0).toInt ≤ (x2).toInt := by have a0 := oa5 ((inv_F hI 448 28000 rfl e_30_0)) ((inv_F hI 0 4000 rfl e_2_0)) ((inv_F hI 0 32 rfl e_32_1)) ((inv_F hI 0 4000 rfl e_32_0)) h2; have oc := oc_134_1_32; omega
    have n17b : KV s 32 := by exact q_0.2.2.2.2
    exact gg_w (by first | exact Nat.le_of_ble_eq_true rfl | omega) (gg_f (gf_cons rfl (gf_cons rfl (gf_cons rfl (gf_cons rfl gf_nil)))) (ct17 4001 s u_32_0 u_32_0 u_32_1 hI fr_rf (in_w 0 4000 (inv_F hI 0 4000 rfl e_32_0) rfl) e_32_0 e_32_1 n17 n17a n17b (m_in 4001 (in_w 0 4000 (inv_F hI 0 4000 rfl e_32_0) rfl) rfl)))
  · skip
    have i5 := r_lt1 0 3999 c5 h2 (inv_F hI 0 4000 rfl e_32_0) rfl
    have i5a := r_lt2 1 4000 c5 h2 (inv_F hI 0 4000 rfl e_32_0) rfl
    refine g_aload_n 9 (gd rfl) rfl rfl ?_
    refine g_callv (X := _) (As := []) (r := []) (b := A 32) (q := 32) 12 (gd rfl) rfl rfl rfl rfl rfl (ww_o rfl) (Nat.le_of_ble_eq_true rfl) (Nat.zero_le _) (Nat.zero_le _) (k_92_32 (by first | exact dq1 hd rfl | exact dq0 hd rfl | exact dq2 hd rfl | exact dq3 hd rfl | omega) hI ) (fun e u h => h) (fun v u h => ?_)
    obtain ⟨s9, hI9, hF9, n9, rfl, rfl, p9⟩ := h
    obtain ⟨z9a, e9⟩ : ∃ w, w = s9.2.2.1 32 0 := ⟨_, rfl⟩
    have i9a := inv_F hI9 0 4000 rfl e9
    rw [← (show z9a = s9.2.2.1 32 0 from e9)] at n9
    show GG _ _ _ _ _ _ _ _ [] _ _ _
    refine g_aload_n 13 (gd rfl) rfl rfl ?_
    refine g_getI 16 (gd rfl) rfl rfl rfl (fun z13 e13 => ?_)
    have q13 : z9a = z13 := (e9).trans e13.symm
    subst q13
    refine g_istore_n 17 (gd rfl) rfl (Nat.le_of_ble_eq_true rfl) ?_
    have n17 : (z9a).toInt = (z9a).toInt := by have a0 := oa6 ((inv_F hI 448 28000 rfl e_30_0)) ((inv_F hI 0 4000 rfl e_2_0)) ((inv_F hI 0 32 rfl e_32_1)) i5a i5 i9a; have oc := oc_134_1_32; omega
    have n17a : (z9a).toInt ≤ (x2).toInt := by have a0 := oa6 ((inv_F hI 448 28000 rfl e_30_0)) ((inv_F hI 0 4000 rfl e_2_0)) ((inv_F hI 0 32 rfl e_32_1)) i5a i5 i9a; have oc := oc_134_1_32; omega
    have n17b : KV s9 32 := by exact p9
    exact gg_w (by first | exact Nat.le_of_ble_eq_true rfl | omega) (gg_f (gf_cons rfl (gf_cons rfl (gf_cons rfl (gf_cons rfl gf_nil)))) (ct17 4001 s9 z9a z9a _ hI9 (fr_tr rfl fr_rf hF9) (in_w 0 4000 i9a rfl) e9 rfl n17 n17a n17b (m_in 4001 (in_w 0 4000 i9a rfl) rfl)))

theorem oc_217_0 : (Int32.ofInt (-1)).toInt = (-1) ∧ (Int32.ofInt 0).toInt = 0 ∧ (Int32.ofInt 1).toInt = 1 := ⟨rfl, rfl, rfl⟩
/-- GraphHouse.view -/
theorem f_217_0 {Z : AmZ} {A : Nat → Nat} {s : GS} {ex : va_W} {d : Nat} {x1 : Int32} {u_2_0 : Int32} {u_32_0 : Int32} {u_32_1 : Int32} {u_30_0 : Int32} (hd : 7 ≤ d) (hI : Inv s) (e_2_0 : u_2_0 = s.2.2.1 2 0) (e_32_0 : u_32_0 = s.2.2.1 32 0) (e_32_1 : u_32_1 = s.2.2.1 32 1) (e_30_0 : u_30_0 = s.2.2.1 30 0) (p_0 : 7 * (u_2_0).toInt ≤ (u_30_0).toInt) (q_0 : KL s) : GC Z d 217 [.ref (A 0), .int x1] (WW Z A s ++ ex) 3 18 (fun v u => ∃ t : GS, Inv t ∧ Fr fm_217_0 s t ∧ ∃ z : Int32, v = some (.int z) ∧ u = WW Z A t ++ ex ∧ In z 0 4000 ∧ (KL t) ∧ ((-1 ≤ (x1).toInt ∧ (x1).toInt ≤ (s.2.2.1 2 0).toInt) ∧ (z) = (if (x1).toInt < 0 then s.2.2.1 2 0 else (x1)))) (gEx Z A ex ([], [], [], []) s (¬ (-1 ≤ x1.toInt ∧ x1.toInt ≤ (s.2.2.1 2 0).toInt)) (False)) := by
  intro post xp hP hX
  have ro_2_0 := inv_F hI 0 4000 rfl e_2_0
  have ro_30_0 := inv_F hI 448 28000 rfl e_30_0
  refine g_enter2 (k := 217) (N := 900) (by first | exact dq1 hd rfl | exact dq0 hd rfl | exact dq2 hd rfl | exact dq3 hd rfl | omega) rfl (Nat.le_of_ble_eq_true rfl) ?_
  refine g_iload_n 1 (gd rfl) rfl rfl ?_
  refine g_iconst (-1) 2 (gd rfl) rfl rfl ?_
  refine g_cmp_lt 5 23 (gd rfl) rfl rfl (fun c2 => ?_) (fun c2 => ?_)
  · skip
    have i2 := r_lt1 (-2147483648) (-2) c2 (i_rng x1) (in_c (-1) rfl) rfl
    refine g_iconst 0 24 (gd rfl) rfl rfl ?_
    refine g_thr (E := am_IA) (y := yX11_allow) 27 (gd rfl) rfl rfl (Or.inl ⟨rfl, rfl, rfl⟩) (by first | exact dq1 hd rfl | exact dq0 hd rfl | exact dq2 hd rfl | exact dq3 hd rfl | omega) (Nat.le_of_ble_eq_true rfl) (Nat.le_of_ble_eq_true rfl) (Nat.le_of_ble_eq_true rfl) (fun c24 => ?_) (fun c24 => ?_)
    · skip
      exact zn_ne c24 (in_c 0 rfl) rfl
    · skip
      have n24 : ¬ (-1 ≤ x1.toInt ∧ x1.toInt ≤ (s.2.2.1 2 0).toInt) := by rw [← e_2_0]; have a0 := oa5 ((inv_F hI 448 28000 rfl e_30_0)) ((inv_F hI 0 32 rfl e_32_1)) ((inv_F hI 0 4000 rfl e_32_0)) ((inv_F hI 0 4000 rfl e_2_0)) i2; have oc := oc_217_0; omega
      exact (hX _ _ ⟨Or.inl ⟨rfl, n24⟩, s, hI, fr_rf, rfl⟩)
  · skip
    have i2 := r_le2 (-1) 2147483647 c2 (in_c (-1) rfl) (i_rng x1) rfl
    refine g_iload_n 6 (gd rfl) rfl rfl ?_
    refine g_aload_n 7 (gd rfl) rfl rfl ?_
    refine g_getA (q2 := 1) 10 (gd rfl) rfl rfl rfl rfl ?_
    refine g_getA (q2 := 2) 13 (gd rfl) rfl rfl rfl rfl ?_
    refine g_getI 16 (gd rfl) rfl rfl rfl (fun z13 e13 => ?_)
    have q13 : u_2_0 = z13 := (e_2_0).trans e13.symm
    subst q13
    refine g_cmp_gt 19 23 (gd rfl) rfl rfl (fun c16 => ?_) (fun c16 => ?_)
    · skip
      have i16 := r_lt2 1 2147483647 c16 (inv_F hI 0 4000 rfl e_2_0) i2 rfl
      refine g_iconst 0 24 (gd rfl) rfl rfl ?_
      refine g_thr (E := am_IA) (y := yX11_allow) 27 (gd rfl) rfl rfl (Or.inl ⟨rfl, rfl, rfl⟩) (by first | exact dq1 hd rfl | exact dq0 hd rfl | exact dq2 hd rfl | exact dq3 hd rfl | omega) (Nat.le_of_ble_eq_true rfl) (Nat.le_of_ble_eq_true rfl) (Nat.le_of_ble_eq_true rfl) (fun c24 => ?_) (fun c24 => ?_)
      · skip
        exact zn_ne c24 (in_c 0 rfl) rfl
      · skip
        have n24 : ¬ (-1 ≤ x1.toInt ∧ x1.toInt ≤ (s.2.2.1 2 0).toInt) := by rw [← e_2_0]; have a0 := oa5 ((inv_F hI 448 28000 rfl e_30_0)) ((inv_F hI 0 32 rfl e_32_1)) ((inv_F hI 0 4000 rfl e_32_0)) ((inv_F hI 0 4000 rfl e_2_0)) i16; have oc := oc_217_0; omega
        exact (hX _ _ ⟨Or.inl ⟨rfl, n24⟩, s, hI, fr_rf, rfl⟩)
    · skip
      have i16 := r_le1 (-1) 4000 c16 i2 (inv_F hI 0 4000 rfl e_2_0) rfl
      refine g_iconst 1 20 (gd rfl) rfl rfl ?_
      refine g_goto 24 (gd rfl) rfl ?_
      refine g_thr (E := am_IA) (y := yX11_allow) 27 (gd rfl) rfl rfl (Or.inl ⟨rfl, rfl, rfl⟩) (by first | exact dq1 hd rfl | exact dq0 hd rfl | exact dq2 hd rfl | exact dq3 hd rfl | omega) (Nat.le_of_ble_eq_true rfl) (Nat.le_of_ble_eq_true rfl) (Nat.le_of_ble_eq_true rfl) (fun c24 => ?_) (fun c24 => ?_)
      · skip
        refine g_aload_n 28 (gd rfl) rfl rfl ?_
        refine g_iload_n 29 (gd rfl) rfl rfl ?_
        refine g_putI 32 (gd rfl) rfl rfl rfl rfl ?_
        have hI29 := inv_sF (q := 0) (j := 2) hI rfl (in_w (-1) 4000 i16 rfl)
        refine g_iload_n 33 (gd rfl) rfl rfl ?_
        refine g_iconst (-1) 34 (gd rfl) rfl rfl ?_
        refine g_cmp_eq 37 49 (gd rfl) rfl rfl (fun c34 => ?_) (fun c34 => ?_)
        · skip
          have i34 := r_eq1 (-1) (-1) c34 i16 (in_c (-1) rfl) rfl
          refine g_aload_n 50 (gd rfl) rfl rfl ?_
          refine g_callv (X := _) (As := []) (r := []) (b := A 0) (q := 0) 53 (gd rfl) rfl rfl rfl rfl rfl (ww_o rfl) (Nat.le_of_ble_eq_true rfl) (mc := 0) (ms := 0) (Nat.zero_le _) (Nat.zero_le _) (P := fun v u => _) ?_ (fun e u h => h) (fun v u h => h)
          intro po50 xx50 hp50 hx50
          refine g_enter2 (k := 259) (N := 300) (by first | exact dq1 hd rfl | exact dq0 hd rfl | exact dq2 hd rfl | exact dq3 hd rfl | omega) rfl (Nat.le_of_ble_eq_true rfl) ?_
          refine g_aload_n 1 (gd rfl) rfl rfl ?_
          refine g_getI 4 (gd rfl) rfl rfl rfl (fun z50x1 e50x1 => ?_)
          have q50x1 : x1 = z50x1 := (sF_get).trans e50x1.symm
          subst q50x1
          refine g_iconst (-1) 5 (gd rfl) rfl rfl ?_
          refine g_cmp_ne 8 18 (gd rfl) rfl rfl (fun c50x5 => ?_) (fun c50x5 => ?_)
          · skip
            exact n_ne c50x5 i34 (in_c (-1) rfl) rfl
          · skip
            refine g_aload_n 9 (gd rfl) rfl rfl ?_
            refine g_getA (q2 := 1) 12 (gd rfl) rfl rfl rfl rfl ?_
            refine g_getA (q2 := 2) 15 (gd rfl) rfl rfl rfl rfl ?_
            refine g_goto 22 (gd rfl) rfl ?_
            refine g_areturn (gd rfl) rfl (hp50 _ _ ?_)
            show GG _ _ _ _ _ _ _ _ [.ref (A 2)] _ _ _
            refine g_getI 56 (gd rfl) rfl rfl rfl (fun z53 e53 => ?_)
            have q53 : u_2_0 = z53 := (sF_ne rfl (e_2_0)).trans e53.symm
            subst q53
            have n56 : KL (sF s 0 2 x1) := by exact kl_fr q_0 (show Fr ([], [], [(0, 2)], []) s (sF s 0 2 x1) from (fr_sF rfl fr_rf)) rfl
            have n56a : (-1 ≤ (x1).toInt ∧ (x1).toInt ≤ (s.2.2.1 2 0).toInt) ∧ (u_2_0) = (if (x1).toInt < 0 then s.2.2.1 2 0 else (x1)) := by exact ⟨⟨by have a0 := oa5 i34 ((inv_F hI 448 28000 rfl e_30_0)) ((inv_F hI 0 32 rfl e_32_1)) ((inv_F hI 0 4000 rfl e_32_0)) ((inv_F hI 0 4000 rfl e_2_0)); have oc := oc_217_0; omega, by rw [← e_2_0]; have a0 := oa5 i34 ((inv_F hI 448 28000 rfl e_30_0)) ((inv_F hI 0 32 rfl e_32_1)) ((inv_F hI 0 4000 rfl e_32_0)) ((inv_F hI 0 4000 rfl e_2_0)); have oc := oc_217_0; omega⟩, by rw [if_pos (by have a0 := oa5 i34 ((inv_F hI 448 28000 rfl e_30_0)) ((inv_F hI 0 32 rfl e_32_1)) ((inv_F hI 0 4000 rfl e_32_0)) ((inv_F hI 0 4000 rfl e_2_0)); have oc := oc_217_0; omega)]; exact e_2_0⟩
            exact g_ireturn (gd rfl) rfl rfl (hP _ _ ⟨(sF s 0 2 x1), hI29, (fr_sF rfl fr_rf), u_2_0, rfl, rfl, in_w 0 4000 (inv_F hI 0 4000 rfl e_2_0) rfl, n56, n56a⟩)
        · skip
          have i34 := r_ne1 0 4000 c34 i16 (in_c (-1) rfl) rfl
          refine g_aload_n 38 (gd rfl) rfl rfl ?_
          refine g_getA (q2 := 1) 41 (gd rfl) rfl rfl rfl rfl ?_
          refine g_aload_n 42 (gd rfl) rfl rfl ?_
          refine g_getA (q2 := 32) 45 (gd rfl) rfl rfl rfl rfl ?_
          refine g_iload_n 46 (gd rfl) rfl rfl ?_
          have v46 : u_32_0 = (sF s 0 2 x1).2.2.1 32 0 := sF_ne rfl (e_32_0)
          have v46a : u_32_1 = (sF s 0 2 x1).2.2.1 32 1 := sF_ne rfl (e_32_1)
          have v46b : u_2_0 = (sF s 0 2 x1).2.2.1 2 0 := sF_ne rfl (e_2_0)
          have v46c : u_30_0 = (sF s 0 2 x1).2.2.1 30 0 := sF_ne rfl (e_30_0)
          have n46 : (x1).toInt ≤ (u_2_0).toInt := by have a0 := oa5 i34 ((inv_F hI 448 28000 rfl e_30_0)) ((inv_F hI 0 32 rfl e_32_1)) ((inv_F hI 0 4000 rfl e_32_0)) ((inv_F hI 0 4000 rfl e_2_0)); have oc := oc_217_0; omega
          have n46a : 7 * (u_2_0).toInt ≤ (u_30_0).toInt := by have a0 := oa5 i34 ((inv_F hI 448 28000 rfl e_30_0)) ((inv_F hI 0 32 rfl e_32_1)) ((inv_F hI 0 4000 rfl e_32_0)) ((inv_F hI 0 4000 rfl e_2_0)); have oc := oc_217_0; omega
          have p46 : KL (sF s 0 2 x1) := by exact kl_fr q_0 (show Fr ([], [], [(0, 2)], []) s (sF s 0 2 x1) from (fr_sF rfl fr_rf)) rfl
          refine g_callv (X := _) (As := [.ref (A 32), .int x1]) (r := []) (b := A 1) (q := 1) 49 (gd rfl) rfl rfl rfl rfl rfl (ww_o rfl) (Nat.le_of_ble_eq_true rfl) (Nat.zero_le _) (Nat.zero_le _) (f_134_1_32 (by first | exact dq1 hd rfl | exact dq0 hd rfl | exact dq2 hd rfl | exact dq3 hd rfl | omega) hI29 (in_w 0 4000 i34 rfl) v46 v46a v46b v46c n46 n46a p46) (fun e u h => h) (fun v u h => ?_)
          obtain ⟨s46, hI46, hF46, rfl, rfl, p46a, p46b⟩ := h
          show GG _ _ _ _ _ _ _ _ [] _ _ _
          refine g_aload_n 50 (gd rfl) rfl rfl ?_
          refine g_callv (X := _) (As := []) (r := []) (b := A 0) (q := 0) 53 (gd rfl) rfl rfl rfl rfl rfl (ww_o rfl) (Nat.le_of_ble_eq_true rfl) (mc := 0) (ms := 0) (Nat.zero_le _) (Nat.zero_le _) (P := fun v u => _) ?_ (fun e u h => h) (fun v u h => h)
          intro po50 xx50 hp50 hx50
          refine g_enter2 (k := 259) (N := 300) (by first | exact dq1 hd rfl | exact dq0 hd rfl | exact dq2 hd rfl | exact dq3 hd rfl | omega) rfl (Nat.le_of_ble_eq_true rfl) ?_
          refine g_aload_n 1 (gd rfl) rfl rfl ?_
          refine g_getI 4 (gd rfl) rfl rfl rfl (fun z50x1 e50x1 => ?_)
          have q50x1 : x1 = z50x1 := (fr_F (s := (sF s 0 2 x1)) (sF_get) hF46 rfl).trans e50x1.symm
          subst q50x1
          refine g_iconst (-1) 5 (gd rfl) rfl rfl ?_
          refine g_cmp_ne 8 18 (gd rfl) rfl rfl (fun c50x5 => ?_) (fun c50x5 => ?_)
          · skip
            refine g_aload_n 19 (gd rfl) rfl rfl ?_
            refine g_getA (q2 := 32) 22 (gd rfl) rfl rfl rfl rfl ?_
            refine g_areturn (gd rfl) rfl (hp50 _ _ ?_)
            show GG _ _ _ _ _ _ _ _ [.ref (A 32)] _ _ _
            refine g_getI 56 (gd rfl) rfl rfl rfl (fun z53 e53 => ?_)
            have i53 := inv_F hI46 0 4000 rfl e53
            have n56 : KL s46 := by exact p46a
            have n56a : (-1 ≤ (x1).toInt ∧ (x1).toInt ≤ (s.2.2.1 2 0).toInt) ∧ (z53) = (if (x1).toInt < 0 then s.2.2.1 2 0 else (x1)) := by exact ⟨⟨by have a0 := oa6 i34 ((inv_F hI 448 28000 rfl e_30_0)) ((inv_F hI 0 32 rfl e_32_1)) ((inv_F hI 0 4000 rfl e_32_0)) ((inv_F hI 0 4000 rfl e_2_0)) i53; have oc := oc_217_0; omega, by rw [← e_2_0]; have a0 := oa6 i34 ((inv_F hI 448 28000 rfl e_30_0)) ((inv_F hI 0 32 rfl e_32_1)) ((inv_F hI 0 4000 rfl e_32_0)) ((inv_F hI 0 4000 rfl e_2_0)) i53; have oc := oc_217_0; omega⟩, by rw [if_neg (by have a0 := oa6 i34 ((inv_F hI 448 28000 rfl e_30_0)) ((inv_F hI 0 32 rfl e_32_1)) ((inv_F hI 0 4000 rfl e_32_0)) ((inv_F hI 0 4000 rfl e_2_0)) i53; have oc := oc_217_0; omega)]; exact i_eq.mpr (by rw [e53]; exact p46b)⟩
            exact g_ireturn (gd rfl) rfl rfl (hP _ _ ⟨s46, hI46, (fr_tr rfl (fr_sF rfl fr_rf) hF46), z53, rfl, rfl, in_w 0 4000 i53 rfl, n56, n56a⟩)
          · skip
            exact absurd c50x5 c34
      · skip
        exact zn_eq c24 (in_c 1 rfl) rfl

theorem ocj_173_46 : (Int32.ofInt (-1)).toInt = (-1) ∧ (Int32.ofInt 0).toInt = 0 ∧ (Int32.ofInt 1).toInt = 1 ∧ (Int32.ofInt 2).toInt = 2 ∧ (Int32.ofInt 5).toInt = 5 ∧ (Int32.ofInt 10).toInt = 10 ∧ (Int32.ofInt 48).toInt = 48 ∧ (Int32.ofInt 57).toInt = 57 := ⟨rfl, rfl, rfl, rfl, rfl, rfl, rfl, rfl⟩
/-- GraphHouse$Script.readNumber -/
theorem j_173_46 {Z : AmZ} {A : Nat → Nat} {s : GS} {ex : va_W} {d : Nat} {X : AmX} {x1 : Int32} {x2 : Int32} {u_46_2 : Int32} {u_46_1 : Int32} (hd : 3 ≤ d) (hI : Inv s) (h1 : In x1 0 0) (h2 : In x2 6 6) (e_46_2 : u_46_2 = s.2.2.1 46 2) (e_46_1 : u_46_1 = s.2.2.1 46 1) (p_0 : (u_46_2).toInt + (x1).toInt + 1 ≤ (u_46_1).toInt) (q_0 : 48 ≤ (s.1 47 ((s.2.2.1 46 2).toInt + (x1).toInt).toNat).toInt ∧ (s.1 47 ((s.2.2.1 46 2).toInt + (x1).toInt).toNat).toInt ≤ 57) : GC Z d 173 [.ref (A 46), .int x1, .int x2] (WW Z A s ++ ex) 0 0 (fun v u => ∃ t : GS, Inv t ∧ Fr fm_173_46 s t ∧ ((t.2.2.1 46 2).toInt ≤ (t.2.2.1 46 1).toInt) ∧ ((s.2.2.1 46 2).toInt + 1 ≤ (t.2.2.1 46 2).toInt) ∧ v = none ∧ u = WW Z A t ++ ex ∧ ((t.2.2.1 46 3).toInt ≠ 1) ∧ ((x2).toInt = 6 → (t.2.2.1 46 3).toInt = 2 → (t.2.2.1 46 5).toInt ≤ 999999) ∧ (tkG (s.1 47) (s.2.2.1 46 1).toInt.toNat ((s.2.2.1 46 2).toInt + (x1).toInt).toNat (t.2.2.1 46 2).toInt.toNat ∧ (((t.2.2.1 46 2).toInt.toNat - ((s.2.2.1 46 2).toInt + (x1).toInt).toNat ≤ 6 ∧ (t.2.2.1 46 3).toInt = 2 ∧ (t.2.2.1 46 5).toInt = tkN (s.1 47) ((s.2.2.1 46 2).toInt + (x1).toInt).toNat ((t.2.2.1 46 2).toInt.toNat - ((s.2.2.1 46 2).toInt + (x1).toInt).toNat)) ∨ (6 < (t.2.2.1 46 2).toInt.toNat - ((s.2.2.1 46 2).toInt + (x1).toInt).toNat ∧ (t.2.2.1 46 3).toInt = 5)))) X := by
  intro post xp hP hX
  have ro_46_1 := inv_F hI 0 1000 rfl e_46_1
  have ct26 : ∀ (k26 : Nat) (sc26 : GS) (y26_3 : Int32) (y26_4 : Int32) (w26_46_2 : Int32), Inv sc26 → Fr fm_173_46 s sc26 → (In y26_3 0 1000) → (In y26_4 0 9999999) → (w26_46_2 = sc26.2.2.1 46 2) → ((w26_46_2).toInt ≤ (u_46_1).toInt) → ((u_46_2).toInt + (x1).toInt ≤ (w26_46_2).toInt) → ((y26_3).toInt ≤ (w26_46_2).toInt) → ((y26_3).toInt = (w26_46_2).toInt - (u_46_2).toInt - (x1).toInt) → (0 ≤ (y26_4).toInt ∧ ((y26_3).toInt ≤ (x2).toInt → (y26_4).toInt < (10 : Int) ^ ((y26_3).toInt).toNat) ∧ ((x2).toInt < (y26_3).toInt → (y26_4).toInt < (10 : Int) ^ ((x2).toInt).toNat)) → ((∀ i : Nat, ((s.2.2.1 46 2).toInt + (x1).toInt).toNat ≤ i → (i : Int) < (w26_46_2).toInt → tkD (s.1 47 i)) ∧ ((y26_3).toInt ≤ (x2).toInt → (y26_4).toInt = tkN (s.1 47) ((s.2.2.1 46 2).toInt + (x1).toInt).toNat (y26_3).toInt.toNat)) → (u_46_1).toInt - (w26_46_2).toInt < (k26 : Int) → GG Z (d - 1) 173 post (gx xp) (1 + k26 * 900) 26 (fun j => xlook j [(0, .ref (A 46)), (1, .int x1), (2, .int x2), (3, .int y26_3), (4, .int y26_4)]) [] (WW Z A sc26 ++ ex) 0 0 := by
    intro k26
    induction k26 with
    | zero => intro sc26 y26_3 y26_4 w26_46_2 hIc26 hFc26 j26_3 j26_4 v26_46_2 n26_0 n26_1 n26_2 n26_3 g26_0 g26_1 mm26; exfalso; have a0 := oa4 h2 h1 ro_46_1 ((inv_F hIc26 0 1000 rfl v26_46_2)); have a4 := j26_4; unfold In at a4; have a5 := j26_3; unfold In at a5; have oc := ocj_173_46; omega
    | succ k26 ih26 =>
      intro sc26 y26_3 y26_4 w26_46_2 hIc26 hFc26 j26_3 j26_4 v26_46_2 n26_0 n26_1 n26_2 n26_3 g26_0 g26_1 mm26
      refine gg_w (M := 1 + k26 * 900 + 900) gws ?_
      refine g_aload_n 27 (gd rfl) rfl rfl ?_
      refine g_getI 30 (gd rfl) rfl rfl rfl (fun z27 e27 => ?_)
      have q27 : w26_46_2 = z27 := (v26_46_2).trans e27.symm
      subst q27
      refine g_aload_n 31 (gd rfl) rfl rfl ?_
      refine g_getI 34 (gd rfl) rfl rfl rfl (fun z31 e31 => ?_)
      have q31 : u_46_1 = z31 := (fr_F e_46_1 hFc26 rfl).trans e31.symm
      subst q31
      refine g_cmp_ge 37 89 (gd rfl) rfl rfl (fun c34 => ?_) (fun c34 => ?_)
      · skip
        have hq89 : (u_46_2).toInt + 1 ≤ (w26_46_2).toInt := (by have a0 := oa6 h2 h1 ro_46_1 ((inv_F hIc26 0 1000 rfl v26_46_2)) j26_4 j26_3; have oc := ocj_173_46; omega)
        refine g_aload_n 90 (gd rfl) rfl rfl ?_
        refine g_iload_n 91 (gd rfl) rfl rfl ?_
        refine g_if_eq 94 100 (gd rfl) rfl rfl (fun c91 => ?_) (fun c91 => ?_)
        · skip
          refine g_iload 102 (gd rfl) rfl rfl ?_
          refine g_putI 105 (gd rfl) rfl rfl rfl rfl ?_
          have hI102 := inv_sF (q := 46) (j := 5) hIc26 rfl (in_w (-2147483648) 2147483647 j26_4 rfl)
          refine g_aload_n 106 (gd rfl) rfl rfl ?_
          refine g_iload_n 107 (gd rfl) rfl rfl ?_
          refine g_iload_n 108 (gd rfl) rfl rfl ?_
          refine g_cmp_le 111 115 (gd rfl) rfl rfl (fun c108 => ?_) (fun c108 => ?_)
          · skip
            have i108 := r_le1 0 6 c108 j26_3 h2 rfl
            refine g_iconst 2 116 (gd rfl) rfl rfl ?_
            refine g_putI 119 (gd rfl) rfl rfl rfl rfl ?_
            have hI116 := inv_sF (q := 46) (j := 3) hI102 rfl (in_w 0 5 (in_c 2 rfl) rfl)
            have n119 : ((sF (sF sc26 46 5 y26_4) 46 3 (Int32.ofInt 2)).2.2.1 46 3).toInt ≠ 1 := by rw [← (show (Int32.ofInt 2) = (sF (sF sc26 46 5 y26_4) 46 3 (Int32.ofInt 2)).2.2.1 46 3 from sF_get)]; decide
            have n119a : (x2).toInt = 6 → ((sF (sF sc26 46 5 y26_4) 46 3 (Int32.ofInt 2)).2.2.1 46 3).toInt = 2 → ((sF (sF sc26 46 5 y26_4) 46 3 (Int32.ofInt 2)).2.2.1 46 5).toInt ≤ 999999 := by intro h6 h2; rw [← (show (Int32.ofInt 2) = (sF (sF sc26 46 5 y26_4) 46 3 (Int32.ofInt 2)).2.2.1 46 3 from sF_get)] at h2; rw [← (show y26_4 = (sF (sF sc26 46 5 y26_4) 46 3 (Int32.ofInt 2)).2.2.1 46 5 from sF_ne rfl (sF_get))]; first | (exfalso; revert h2; decide) | exact dg_6 (by have a0 := h2; unfold In at a0; have a1 := oa6 h1 ro_46_1 ((inv_F hIc26 0 1000 rfl v26_46_2)) j26_4 i108 ((in_c 2 rfl)); have oc := ocj_173_46; omega) (by have a0 := h2; unfold In at a0; have a1 := oa6 h1 ro_46_1 ((inv_F hIc26 0 1000 rfl v26_46_2)) j26_4 i108 ((in_c 2 rfl)); have oc := ocj_173_46; omega) (g26_0.2.1 (by have a0 := h2; unfold In at a0; have a1 := oa6 h1 ro_46_1 ((inv_F hIc26 0 1000 rfl v26_46_2)) j26_4 i108 ((in_c 2 rfl)); have oc := ocj_173_46; omega))
            have n119b : tkG (s.1 47) (s.2.2.1 46 1).toInt.toNat ((s.2.2.1 46 2).toInt + (x1).toInt).toNat ((sF (sF sc26 46 5 y26_4) 46 3 (Int32.ofInt 2)).2.2.1 46 2).toInt.toNat ∧ ((((sF (sF sc26 46 5 y26_4) 46 3 (Int32.ofInt 2)).2.2.1 46 2).toInt.toNat - ((s.2.2.1 46 2).toInt + (x1).toInt).toNat ≤ 6 ∧ ((sF (sF sc26 46 5 y26_4) 46 3 (Int32.ofInt 2)).2.2.1 46 3).toInt = 2 ∧ ((sF (sF sc26 46 5 y26_4) 46 3 (Int32.ofInt 2)).2.2.1 46 5).toInt = tkN (s.1 47) ((s.2.2.1 46 2).toInt + (x1).toInt).toNat (((sF (sF sc26 46 5 y26_4) 46 3 (Int32.ofInt 2)).2.2.1 46 2).toInt.toNat - ((s.2.2.1 46 2).toInt + (x1).toInt).toNat)) ∨ (6 < ((sF (sF sc26 46 5 y26_4) 46 3 (Int32.ofInt 2)).2.2.1 46 2).toInt.toNat - ((s.2.2.1 46 2).toInt + (x1).toInt).toNat ∧ ((sF (sF sc26 46 5 y26_4) 46 3 (Int32.ofInt 2)).2.2.1 46 3).toInt = 5)) := by have g9 := g26_1; rw [← e_46_2] at g9; have hw : w26_46_2.toNatClampNeg = w26_46_2.toInt.toNat := rfl; rw [← (show w26_46_2 = (sF (sF sc26 46 5 y26_4) 46 3 (Int32.ofInt 2)).2.2.1 46 2 from sF_ne rfl (sF_ne rfl (v26_46_2))), ← (show (Int32.ofInt 2) = (sF (sF sc26 46 5 y26_4) 46 3 (Int32.ofInt 2)).2.2.1 46 3 from sF_get), ← (show y26_4 = (sF (sF sc26 46 5 y26_4) 46 3 (Int32.ofInt 2)).2.2.1 46 5 from sF_ne rfl (sF_get)), ← e_46_1, ← e_46_2]; exact rdp_i (d := (y26_3).toInt) (y := (y26_4).toInt) (by have a0 := oa7 h2 h1 ro_46_1 ((inv_F hIc26 0 1000 rfl v26_46_2)) j26_4 i108 ((in_c 2 rfl)); have oc := ocj_173_46; omega) (by have a0 := oa7 h2 h1 ro_46_1 ((inv_F hIc26 0 1000 rfl v26_46_2)) j26_4 i108 ((in_c 2 rfl)); have oc := ocj_173_46; omega) (fun i a b => g9.1 i a (by have a0 := oa7 h2 h1 ro_46_1 ((inv_F hIc26 0 1000 rfl v26_46_2)) j26_4 i108 ((in_c 2 rfl)); have oc := ocj_173_46; omega)) (fun h => absurd h (by have a0 := oa7 h2 h1 ro_46_1 ((inv_F hIc26 0 1000 rfl v26_46_2)) j26_4 i108 ((in_c 2 rfl)); have oc := ocj_173_46; omega)) (by have a0 := oa7 h2 h1 ro_46_1 ((inv_F hIc26 0 1000 rfl v26_46_2)) j26_4 i108 ((in_c 2 rfl)); have oc := ocj_173_46; omega) (fun h => g9.2 (by have a0 := oa7 h2 h1 ro_46_1 ((inv_F hIc26 0 1000 rfl v26_46_2)) j26_4 i108 ((in_c 2 rfl)); have oc := ocj_173_46; omega)) (by first | exact Or.inl ⟨by have a0 := oa7 h2 h1 ro_46_1 ((inv_F hIc26 0 1000 rfl v26_46_2)) j26_4 i108 ((in_c 2 rfl)); have oc := ocj_173_46; omega, by decide⟩ | exact Or.inr ⟨by have a0 := oa7 h2 h1 ro_46_1 ((inv_F hIc26 0 1000 rfl v26_46_2)) j26_4 i108 ((in_c 2 rfl)); have oc := ocj_173_46; omega, by decide⟩) rfl
            have n119c : (w26_46_2).toInt ≤ (u_46_1).toInt := by first | exact n26_0 | (have a0 := oa7 h2 h1 ro_46_1 ((inv_F hIc26 0 1000 rfl v26_46_2)) j26_4 i108 ((in_c 2 rfl)); have oc := ocj_173_46; omega)
            have n119d : ((sF (sF sc26 46 5 y26_4) 46 3 (Int32.ofInt 2)).2.2.1 46 2).toInt ≤ ((sF (sF sc26 46 5 y26_4) 46 3 (Int32.ofInt 2)).2.2.1 46 1).toInt := by have b0 : w26_46_2 = (sF (sF sc26 46 5 y26_4) 46 3 (Int32.ofInt 2)).2.2.1 46 2 := sF_ne rfl (sF_ne rfl (v26_46_2)); have b1 : u_46_1 = (sF (sF sc26 46 5 y26_4) 46 3 (Int32.ofInt 2)).2.2.1 46 1 := sF_ne rfl (sF_ne rfl (fr_F e_46_1 hFc26 rfl)); rw [← b0, ← b1]; exact n119c
            have n119e : (u_46_2).toInt + 1 ≤ (w26_46_2).toInt := by have a0 := oa7 h2 h1 ro_46_1 ((inv_F hIc26 0 1000 rfl v26_46_2)) j26_4 i108 ((in_c 2 rfl)); have oc := ocj_173_46; omega
            have n119f : (s.2.2.1 46 2).toInt + 1 ≤ ((sF (sF sc26 46 5 y26_4) 46 3 (Int32.ofInt 2)).2.2.1 46 2).toInt := by have b0 : w26_46_2 = (sF (sF sc26 46 5 y26_4) 46 3 (Int32.ofInt 2)).2.2.1 46 2 := sF_ne rfl (sF_ne rfl (v26_46_2)); first | (rw [← b0, ← e_46_2]; exact n119e) | (rw [← b0]; exact n119e)
            exact g_return (gd rfl) rfl (hP _ _ ⟨(sF (sF sc26 46 5 y26_4) 46 3 (Int32.ofInt 2)), hI116, (fr_sF rfl (fr_sF rfl hFc26)), n119d, n119f, rfl, rfl, n119, n119a, n119b⟩)
          · skip
            have i108 := r_lt2 7 1000 c108 h2 j26_3 rfl
            refine g_iconst 5 112 (gd rfl) rfl rfl ?_
            refine g_goto 116 (gd rfl) rfl ?_
            refine g_putI 119 (gd rfl) rfl rfl rfl rfl ?_
            have hI116 := inv_sF (q := 46) (j := 3) hI102 rfl (in_w 0 5 (in_c 5 rfl) rfl)
            have n119 : ((sF (sF sc26 46 5 y26_4) 46 3 (Int32.ofInt 5)).2.2.1 46 3).toInt ≠ 1 := by rw [← (show (Int32.ofInt 5) = (sF (sF sc26 46 5 y26_4) 46 3 (Int32.ofInt 5)).2.2.1 46 3 from sF_get)]; decide
            have n119a : (x2).toInt = 6 → ((sF (sF sc26 46 5 y26_4) 46 3 (Int32.ofInt 5)).2.2.1 46 3).toInt = 2 → ((sF (sF sc26 46 5 y26_4) 46 3 (Int32.ofInt 5)).2.2.1 46 5).toInt ≤ 999999 := by intro h6 h2; rw [← (show (Int32.ofInt 5) = (sF (sF sc26 46 5 y26_4) 46 3 (Int32.ofInt 5)).2.2.1 46 3 from sF_get)] at h2; rw [← (show y26_4 = (sF (sF sc26 46 5 y26_4) 46 3 (Int32.ofInt 5)).2.2.1 46 5 from sF_ne rfl (sF_get))]; first | (exfalso; revert h2; decide) | exact dg_6 (by have a0 := h2; unfold In at a0; have a1 := oa6 h1 ro_46_1 ((inv_F hIc26 0 1000 rfl v26_46_2)) j26_4 i108 ((in_c 5 rfl)); have oc := ocj_173_46; omega) (by have a0 := h2; unfold In at a0; have a1 := oa6 h1 ro_46_1 ((inv_F hIc26 0 1000 rfl v26_46_2)) j26_4 i108 ((in_c 5 rfl)); have oc := ocj_173_46; omega) (g26_0.2.1 (by have a0 := h2; unfold In at a0; have a1 := oa6 h1 ro_46_1 ((inv_F hIc26 0 1000 rfl v26_46_2)) j26_4 i108 ((in_c 5 rfl)); have oc := ocj_173_46; omega))
            have n119b : tkG (s.1 47) (s.2.2.1 46 1).toInt.toNat ((s.2.2.1 46 2).toInt + (x1).toInt).toNat ((sF (sF sc26 46 5 y26_4) 46 3 (Int32.ofInt 5)).2.2.1 46 2).toInt.toNat ∧ ((((sF (sF sc26 46 5 y26_4) 46 3 (Int32.ofInt 5)).2.2.1 46 2).toInt.toNat - ((s.2.2.1 46 2).toInt + (x1).toInt).toNat ≤ 6 ∧ ((sF (sF sc26 46 5 y26_4) 46 3 (Int32.ofInt 5)).2.2.1 46 3).toInt = 2 ∧ ((sF (sF sc26 46 5 y26_4) 46 3 (Int32.ofInt 5)).2.2.1 46 5).toInt = tkN (s.1 47) ((s.2.2.1 46 2).toInt + (x1).toInt).toNat (((sF (sF sc26 46 5 y26_4) 46 3 (Int32.ofInt 5)).2.2.1 46 2).toInt.toNat - ((s.2.2.1 46 2).toInt + (x1).toInt).toNat)) ∨ (6 < ((sF (sF sc26 46 5 y26_4) 46 3 (Int32.ofInt 5)).2.2.1 46 2).toInt.toNat - ((s.2.2.1 46 2).toInt + (x1).toInt).toNat ∧ ((sF (sF sc26 46 5 y26_4) 46 3 (Int32.ofInt 5)).2.2.1 46 3).toInt = 5)) := by have g9 := g26_1; rw [← e_46_2] at g9; have hw : w26_46_2.toNatClampNeg = w26_46_2.toInt.toNat := rfl; rw [← (show w26_46_2 = (sF (sF sc26 46 5 y26_4) 46 3 (Int32.ofInt 5)).2.2.1 46 2 from sF_ne rfl (sF_ne rfl (v26_46_2))), ← (show (Int32.ofInt 5) = (sF (sF sc26 46 5 y26_4) 46 3 (Int32.ofInt 5)).2.2.1 46 3 from sF_get), ← (show y26_4 = (sF (sF sc26 46 5 y26_4) 46 3 (Int32.ofInt 5)).2.2.1 46 5 from sF_ne rfl (sF_get)), ← e_46_1, ← e_46_2]; exact rdp_i (d := (y26_3).toInt) (y := (y26_4).toInt) (by have a0 := oa7 h2 h1 ro_46_1 ((inv_F hIc26 0 1000 rfl v26_46_2)) j26_4 i108 ((in_c 5 rfl)); have oc := ocj_173_46; omega) (by have a0 := oa7 h2 h1 ro_46_1 ((inv_F hIc26 0 1000 rfl v26_46_2)) j26_4 i108 ((in_c 5 rfl)); have oc := ocj_173_46; omega) (fun i a b => g9.1 i a (by have a0 := oa7 h2 h1 ro_46_1 ((inv_F hIc26 0 1000 rfl v26_46_2)) j26_4 i108 ((in_c 5 rfl)); have oc := ocj_173_46; omega)) (fun h => absurd h (by have a0 := oa7 h2 h1 ro_46_1 ((inv_F hIc26 0 1000 rfl v26_46_2)) j26_4 i108 ((in_c 5 rfl)); have oc := ocj_173_46; omega)) (by have a0 := oa7 h2 h1 ro_46_1 ((inv_F hIc26 0 1000 rfl v26_46_2)) j26_4 i108 ((in_c 5 rfl)); have oc := ocj_173_46; omega) (fun h => g9.2 (by have a0 := oa7 h2 h1 ro_46_1 ((inv_F hIc26 0 1000 rfl v26_46_2)) j26_4 i108 ((in_c 5 rfl)); have oc := ocj_173_46; omega)) (by first | exact Or.inl ⟨by have a0 := oa7 h2 h1 ro_46_1 ((inv_F hIc26 0 1000 rfl v26_46_2)) j26_4 i108 ((in_c 5 rfl)); have oc := ocj_173_46; omega, by decide⟩ | exact Or.inr ⟨by have a0 := oa7 h2 h1 ro_46_1 ((inv_F hIc26 0 1000 rfl v26_46_2)) j26_4 i108 ((in_c 5 rfl)); have oc := ocj_173_46; omega, by decide⟩) rfl
            have n119c : (w26_46_2).toInt ≤ (u_46_1).toInt := by first | exact n26_0 | (have a0 := oa7 h2 h1 ro_46_1 ((inv_F hIc26 0 1000 rfl v26_46_2)) j26_4 i108 ((in_c 5 rfl)); have oc := ocj_173_46; omega)
            have n119d : ((sF (sF sc26 46 5 y26_4) 46 3 (Int32.ofInt 5)).2.2.1 46 2).toInt ≤ ((sF (sF sc26 46 5 y26_4) 46 3 (Int32.ofInt 5)).2.2.1 46 1).toInt := by have b0 : w26_46_2 = (sF (sF sc26 46 5 y26_4) 46 3 (Int32.ofInt 5)).2.2.1 46 2 := sF_ne rfl (sF_ne rfl (v26_46_2)); have b1 : u_46_1 = (sF (sF sc26 46 5 y26_4) 46 3 (Int32.ofInt 5)).2.2.1 46 1 := sF_ne rfl (sF_ne rfl (fr_F e_46_1 hFc26 rfl)); rw [← b0, ← b1]; exact n119c
            have n119e : (u_46_2).toInt + 1 ≤ (w26_46_2).toInt := by have a0 := oa7 h2 h1 ro_46_1 ((inv_F hIc26 0 1000 rfl v26_46_2)) j26_4 i108 ((in_c 5 rfl)); have oc := ocj_173_46; omega
            have n119f : (s.2.2.1 46 2).toInt + 1 ≤ ((sF (sF sc26 46 5 y26_4) 46 3 (Int32.ofInt 5)).2.2.1 46 2).toInt := by have b0 : w26_46_2 = (sF (sF sc26 46 5 y26_4) 46 3 (Int32.ofInt 5)).2.2.1 46 2 := sF_ne rfl (sF_ne rfl (v26_46_2)); first | (rw [← b0, ← e_46_2]; exact n119e) | (rw [← b0]; exact n119e)
            exact g_return (gd rfl) rfl (hP _ _ ⟨(sF (sF sc26 46 5 y26_4) 46 3 (Int32.ofInt 5)), hI116, (fr_sF rfl (fr_sF rfl hFc26)), n119d, n119f, rfl, rfl, n119, n119a, n119b⟩)
        · skip
          exact zn_ne c91 h1 rfl
      · skip
        have i34 := r_lt1 0 999 c34 (inv_F hIc26 0 1000 rfl v26_46_2) ro_46_1 rfl
        have i34a := r_lt2 1 1000 c34 (inv_F hIc26 0 1000 rfl v26_46_2) ro_46_1 rfl
        refine g_aload_n 38 (gd rfl) rfl rfl ?_
        refine g_aload_n 39 (gd rfl) rfl rfl ?_
        refine g_getI 42 (gd rfl) rfl rfl rfl (fun z39 e39 => ?_)
        have q39 : w26_46_2 = z39 := (v26_46_2).trans e39.symm
        subst q39
        refine g_callv (X := _) (As := [.int w26_46_2]) (r := []) (b := A 46) (q := 46) 45 (gd rfl) rfl rfl rfl rfl rfl (ww_o rfl) (Nat.le_of_ble_eq_true rfl) (mc := 0) (ms := 0) (Nat.zero_le _) (Nat.zero_le _) (P := fun v u => _) ?_ (fun e u h => h) (fun v u h => h)
        intro po42 xx42 hp42 hx42
        refine g_enter2 (k := 172) (N := 300) (by first | exact dq1 hd rfl | exact dq0 hd rfl | exact dq2 hd rfl | exact dq3 hd rfl | omega) rfl (Nat.le_of_ble_eq_true rfl) ?_
        refine g_iload_n 1 (gd rfl) rfl rfl ?_
        refine g_aload_n 2 (gd rfl) rfl rfl ?_
        refine g_getI 5 (gd rfl) rfl rfl rfl (fun z42x2 e42x2 => ?_)
        have q42x2 : u_46_1 = z42x2 := (fr_F e_46_1 hFc26 rfl).trans e42x2.symm
        subst q42x2
        refine g_cmp_ge 8 34 (gd rfl) rfl rfl (fun c42x5 => ?_) (fun c42x5 => ?_)
        · skip
          have i42x5 := r_le1 1 999 c42x5 i34a i34 rfl
          have i42x5a := r_le2 1 999 c42x5 i34a i34 rfl
          refine g_iconst 0 35 (gd rfl) rfl rfl ?_
          refine g_ireturn (gd rfl) rfl (nb01 (in_w 0 1 (in_c 0 rfl) rfl)) (hp42 _ _ ?_)
          show GG _ _ _ _ _ _ _ _ [.int (Int32.ofInt 0)] _ _ _
          refine g_if_eq 48 89 (gd rfl) rfl rfl (fun c45 => ?_) (fun c45 => ?_)
          · skip
            have hq89 : (u_46_2).toInt + 1 ≤ (w26_46_2).toInt := (by have a0 := oa6 h2 h1 i42x5 i42x5a j26_4 j26_3; have oc := ocj_173_46; omega)
            refine g_aload_n 90 (gd rfl) rfl rfl ?_
            refine g_iload_n 91 (gd rfl) rfl rfl ?_
            refine g_if_eq 94 100 (gd rfl) rfl rfl (fun c91 => ?_) (fun c91 => ?_)
            · skip
              refine g_iload 102 (gd rfl) rfl rfl ?_
              refine g_putI 105 (gd rfl) rfl rfl rfl rfl ?_
              have hI102 := inv_sF (q := 46) (j := 5) hIc26 rfl (in_w (-2147483648) 2147483647 j26_4 rfl)
              refine g_aload_n 106 (gd rfl) rfl rfl ?_
              refine g_iload_n 107 (gd rfl) rfl rfl ?_
              refine g_iload_n 108 (gd rfl) rfl rfl ?_
              refine g_cmp_le 111 115 (gd rfl) rfl rfl (fun c108 => ?_) (fun c108 => ?_)
              · skip
                have i108 := r_le1 0 6 c108 j26_3 h2 rfl
                refine g_iconst 2 116 (gd rfl) rfl rfl ?_
                refine g_putI 119 (gd rfl) rfl rfl rfl rfl ?_
                have hI116 := inv_sF (q := 46) (j := 3) hI102 rfl (in_w 0 5 (in_c 2 rfl) rfl)
                have n119 : ((sF (sF sc26 46 5 y26_4) 46 3 (Int32.ofInt 2)).2.2.1 46 3).toInt ≠ 1 := by rw [← (show (Int32.ofInt 2) = (sF (sF sc26 46 5 y26_4) 46 3 (Int32.ofInt 2)).2.2.1 46 3 from sF_get)]; decide
                have n119a : (x2).toInt = 6 → ((sF (sF sc26 46 5 y26_4) 46 3 (Int32.ofInt 2)).2.2.1 46 3).toInt = 2 → ((sF (sF sc26 46 5 y26_4) 46 3 (Int32.ofInt 2)).2.2.1 46 5).toInt ≤ 999999 := by intro h6 h2; rw [← (show (Int32.ofInt 2) = (sF (sF sc26 46 5 y26_4) 46 3 (Int32.ofInt 2)).2.2.1 46 3 from sF_get)] at h2; rw [← (show y26_4 = (sF (sF sc26 46 5 y26_4) 46 3 (Int32.ofInt 2)).2.2.1 46 5 from sF_ne rfl (sF_get))]; first | (exfalso; revert h2; decide) | exact dg_6 (by have a0 := h2; unfold In at a0; have a1 := oa6 h1 i42x5 i42x5a j26_4 i108 ((in_c 2 rfl)); have oc := ocj_173_46; omega) (by have a0 := h2; unfold In at a0; have a1 := oa6 h1 i42x5 i42x5a j26_4 i108 ((in_c 2 rfl)); have oc := ocj_173_46; omega) (g26_0.2.1 (by have a0 := h2; unfold In at a0; have a1 := oa6 h1 i42x5 i42x5a j26_4 i108 ((in_c 2 rfl)); have oc := ocj_173_46; omega))
                have n119b : tkG (s.1 47) (s.2.2.1 46 1).toInt.toNat ((s.2.2.1 46 2).toInt + (x1).toInt).toNat ((sF (sF sc26 46 5 y26_4) 46 3 (Int32.ofInt 2)).2.2.1 46 2).toInt.toNat ∧ ((((sF (sF sc26 46 5 y26_4) 46 3 (Int32.ofInt 2)).2.2.1 46 2).toInt.toNat - ((s.2.2.1 46 2).toInt + (x1).toInt).toNat ≤ 6 ∧ ((sF (sF sc26 46 5 y26_4) 46 3 (Int32.ofInt 2)).2.2.1 46 3).toInt = 2 ∧ ((sF (sF sc26 46 5 y26_4) 46 3 (Int32.ofInt 2)).2.2.1 46 5).toInt = tkN (s.1 47) ((s.2.2.1 46 2).toInt + (x1).toInt).toNat (((sF (sF sc26 46 5 y26_4) 46 3 (Int32.ofInt 2)).2.2.1 46 2).toInt.toNat - ((s.2.2.1 46 2).toInt + (x1).toInt).toNat)) ∨ (6 < ((sF (sF sc26 46 5 y26_4) 46 3 (Int32.ofInt 2)).2.2.1 46 2).toInt.toNat - ((s.2.2.1 46 2).toInt + (x1).toInt).toNat ∧ ((sF (sF sc26 46 5 y26_4) 46 3 (Int32.ofInt 2)).2.2.1 46 3).toInt = 5)) := by have g9 := g26_1; rw [← e_46_2] at g9; have hw : w26_46_2.toNatClampNeg = w26_46_2.toInt.toNat := rfl; rw [← (show w26_46_2 = (sF (sF sc26 46 5 y26_4) 46 3 (Int32.ofInt 2)).2.2.1 46 2 from sF_ne rfl (sF_ne rfl (v26_46_2))), ← (show (Int32.ofInt 2) = (sF (sF sc26 46 5 y26_4) 46 3 (Int32.ofInt 2)).2.2.1 46 3 from sF_get), ← (show y26_4 = (sF (sF sc26 46 5 y26_4) 46 3 (Int32.ofInt 2)).2.2.1 46 5 from sF_ne rfl (sF_get)), ← e_46_1, ← e_46_2]; exact rdp_i (d := (y26_3).toInt) (y := (y26_4).toInt) (by have a0 := oa7 h2 h1 i42x5 i42x5a j26_4 i108 ((in_c 2 rfl)); have oc := ocj_173_46; omega) (by have a0 := oa7 h2 h1 i42x5 i42x5a j26_4 i108 ((in_c 2 rfl)); have oc := ocj_173_46; omega) (fun i a b => g9.1 i a (by have a0 := oa7 h2 h1 i42x5 i42x5a j26_4 i108 ((in_c 2 rfl)); have oc := ocj_173_46; omega)) (fun h => absurd h (by have a0 := oa7 h2 h1 i42x5 i42x5a j26_4 i108 ((in_c 2 rfl)); have oc := ocj_173_46; omega)) (by have a0 := oa7 h2 h1 i42x5 i42x5a j26_4 i108 ((in_c 2 rfl)); have oc := ocj_173_46; omega) (fun h => g9.2 (by have a0 := oa7 h2 h1 i42x5 i42x5a j26_4 i108 ((in_c 2 rfl)); have oc := ocj_173_46; omega)) (by first | exact Or.inl ⟨by have a0 := oa7 h2 h1 i42x5 i42x5a j26_4 i108 ((in_c 2 rfl)); have oc := ocj_173_46; omega, by decide⟩ | exact Or.inr ⟨by have a0 := oa7 h2 h1 i42x5 i42x5a j26_4 i108 ((in_c 2 rfl)); have oc := ocj_173_46; omega, by decide⟩) rfl
                have n119c : (w26_46_2).toInt ≤ (u_46_1).toInt := by first | exact n26_0 | (have a0 := oa7 h2 h1 i42x5 i42x5a j26_4 i108 ((in_c 2 rfl)); have oc := ocj_173_46; omega)
                have n119d : ((sF (sF sc26 46 5 y26_4) 46 3 (Int32.ofInt 2)).2.2.1 46 2).toInt ≤ ((sF (sF sc26 46 5 y26_4) 46 3 (Int32.ofInt 2)).2.2.1 46 1).toInt := by have b0 : w26_46_2 = (sF (sF sc26 46 5 y26_4) 46 3 (Int32.ofInt 2)).2.2.1 46 2 := sF_ne rfl (sF_ne rfl (v26_46_2)); have b1 : u_46_1 = (sF (sF sc26 46 5 y26_4) 46 3 (Int32.ofInt 2)).2.2.1 46 1 := sF_ne rfl (sF_ne rfl (fr_F e_46_1 hFc26 rfl)); rw [← b0, ← b1]; exact n119c
                have n119e : (u_46_2).toInt + 1 ≤ (w26_46_2).toInt := by have a0 := oa7 h2 h1 i42x5 i42x5a j26_4 i108 ((in_c 2 rfl)); have oc := ocj_173_46; omega
                have n119f : (s.2.2.1 46 2).toInt + 1 ≤ ((sF (sF sc26 46 5 y26_4) 46 3 (Int32.ofInt 2)).2.2.1 46 2).toInt := by have b0 : w26_46_2 = (sF (sF sc26 46 5 y26_4) 46 3 (Int32.ofInt 2)).2.2.1 46 2 := sF_ne rfl (sF_ne rfl (v26_46_2)); first | (rw [← b0, ← e_46_2]; exact n119e) | (rw [← b0]; exact n119e)
                exact g_return (gd rfl) rfl (hP _ _ ⟨(sF (sF sc26 46 5 y26_4) 46 3 (Int32.ofInt 2)), hI116, (fr_sF rfl (fr_sF rfl hFc26)), n119d, n119f, rfl, rfl, n119, n119a, n119b⟩)
              · skip
                have i108 := r_lt2 7 1000 c108 h2 j26_3 rfl
                refine g_iconst 5 112 (gd rfl) rfl rfl ?_
                refine g_goto 116 (gd rfl) rfl ?_
                refine g_putI 119 (gd rfl) rfl rfl rfl rfl ?_
                have hI116 := inv_sF (q := 46) (j := 3) hI102 rfl (in_w 0 5 (in_c 5 rfl) rfl)
                have n119 : ((sF (sF sc26 46 5 y26_4) 46 3 (Int32.ofInt 5)).2.2.1 46 3).toInt ≠ 1 := by rw [← (show (Int32.ofInt 5) = (sF (sF sc26 46 5 y26_4) 46 3 (Int32.ofInt 5)).2.2.1 46 3 from sF_get)]; decide
                have n119a : (x2).toInt = 6 → ((sF (sF sc26 46 5 y26_4) 46 3 (Int32.ofInt 5)).2.2.1 46 3).toInt = 2 → ((sF (sF sc26 46 5 y26_4) 46 3 (Int32.ofInt 5)).2.2.1 46 5).toInt ≤ 999999 := by intro h6 h2; rw [← (show (Int32.ofInt 5) = (sF (sF sc26 46 5 y26_4) 46 3 (Int32.ofInt 5)).2.2.1 46 3 from sF_get)] at h2; rw [← (show y26_4 = (sF (sF sc26 46 5 y26_4) 46 3 (Int32.ofInt 5)).2.2.1 46 5 from sF_ne rfl (sF_get))]; first | (exfalso; revert h2; decide) | exact dg_6 (by have a0 := h2; unfold In at a0; have a1 := oa6 h1 i42x5 i42x5a j26_4 i108 ((in_c 5 rfl)); have oc := ocj_173_46; omega) (by have a0 := h2; unfold In at a0; have a1 := oa6 h1 i42x5 i42x5a j26_4 i108 ((in_c 5 rfl)); have oc := ocj_173_46; omega) (g26_0.2.1 (by have a0 := h2; unfold In at a0; have a1 := oa6 h1 i42x5 i42x5a j26_4 i108 ((in_c 5 rfl)); have oc := ocj_173_46; omega))
                have n119b : tkG (s.1 47) (s.2.2.1 46 1).toInt.toNat ((s.2.2.1 46 2).toInt + (x1).toInt).toNat ((sF (sF sc26 46 5 y26_4) 46 3 (Int32.ofInt 5)).2.2.1 46 2).toInt.toNat ∧ ((((sF (sF sc26 46 5 y26_4) 46 3 (Int32.ofInt 5)).2.2.1 46 2).toInt.toNat - ((s.2.2.1 46 2).toInt + (x1).toInt).toNat ≤ 6 ∧ ((sF (sF sc26 46 5 y26_4) 46 3 (Int32.ofInt 5)).2.2.1 46 3).toInt = 2 ∧ ((sF (sF sc26 46 5 y26_4) 46 3 (Int32.ofInt 5)).2.2.1 46 5).toInt = tkN (s.1 47) ((s.2.2.1 46 2).toInt + (x1).toInt).toNat (((sF (sF sc26 46 5 y26_4) 46 3 (Int32.ofInt 5)).2.2.1 46 2).toInt.toNat - ((s.2.2.1 46 2).toInt + (x1).toInt).toNat)) ∨ (6 < ((sF (sF sc26 46 5 y26_4) 46 3 (Int32.ofInt 5)).2.2.1 46 2).toInt.toNat - ((s.2.2.1 46 2).toInt + (x1).toInt).toNat ∧ ((sF (sF sc26 46 5 y26_4) 46 3 (Int32.ofInt 5)).2.2.1 46 3).toInt = 5)) := by have g9 := g26_1; rw [← e_46_2] at g9; have hw : w26_46_2.toNatClampNeg = w26_46_2.toInt.toNat := rfl; rw [← (show w26_46_2 = (sF (sF sc26 46 5 y26_4) 46 3 (Int32.ofInt 5)).2.2.1 46 2 from sF_ne rfl (sF_ne rfl (v26_46_2))), ← (show (Int32.ofInt 5) = (sF (sF sc26 46 5 y26_4) 46 3 (Int32.ofInt 5)).2.2.1 46 3 from sF_get), ← (show y26_4 = (sF (sF sc26 46 5 y26_4) 46 3 (Int32.ofInt 5)).2.2.1 46 5 from sF_ne rfl (sF_get)), ← e_46_1, ← e_46_2]; exact rdp_i (d := (y26_3).toInt) (y := (y26_4).toInt) (by have a0 := oa7 h2 h1 i42x5 i42x5a j26_4 i108 ((in_c 5 rfl)); have oc := ocj_173_46; omega) (by have a0 := oa7 h2 h1 i42x5 i42x5a j26_4 i108 ((in_c 5 rfl)); have oc := ocj_173_46; omega) (fun i a b => g9.1 i a (by have a0 := oa7 h2 h1 i42x5 i42x5a j26_4 i108 ((in_c 5 rfl)); have oc := ocj_173_46; omega)) (fun h => absurd h (by have a0 := oa7 h2 h1 i42x5 i42x5a j26_4 i108 ((in_c 5 rfl)); have oc := ocj_173_46; omega)) (by have a0 := oa7 h2 h1 i42x5 i42x5a j26_4 i108 ((in_c 5 rfl)); have oc := ocj_173_46; omega) (fun h => g9.2 (by have a0 := oa7 h2 h1 i42x5 i42x5a j26_4 i108 ((in_c 5 rfl)); have oc := ocj_173_46; omega)) (by first | exact Or.inl ⟨by have a0 := oa7 h2 h1 i42x5 i42x5a j26_4 i108 ((in_c 5 rfl)); have oc := ocj_173_46; omega, by decide⟩ | exact Or.inr ⟨by have a0 := oa7 h2 h1 i42x5 i42x5a j26_4 i108 ((in_c 5 rfl)); have oc := ocj_173_46; omega, by decide⟩) rfl
                have n119c : (w26_46_2).toInt ≤ (u_46_1).toInt := by first | exact n26_0 | (have a0 := oa7 h2 h1 i42x5 i42x5a j26_4 i108 ((in_c 5 rfl)); have oc := ocj_173_46; omega)
                have n119d : ((sF (sF sc26 46 5 y26_4) 46 3 (Int32.ofInt 5)).2.2.1 46 2).toInt ≤ ((sF (sF sc26 46 5 y26_4) 46 3 (Int32.ofInt 5)).2.2.1 46 1).toInt := by have b0 : w26_46_2 = (sF (sF sc26 46 5 y26_4) 46 3 (Int32.ofInt 5)).2.2.1 46 2 := sF_ne rfl (sF_ne rfl (v26_46_2)); have b1 : u_46_1 = (sF (sF sc26 46 5 y26_4) 46 3 (Int32.ofInt 5)).2.2.1 46 1 := sF_ne rfl (sF_ne rfl (fr_F e_46_1 hFc26 rfl)); rw [← b0, ← b1]; exact n119c
                have n119e : (u_46_2).toInt + 1 ≤ (w26_46_2).toInt := by have a0 := oa7 h2 h1 i42x5 i42x5a j26_4 i108 ((in_c 5 rfl)); have oc := ocj_173_46; omega
                have n119f : (s.2.2.1 46 2).toInt + 1 ≤ ((sF (sF sc26 46 5 y26_4) 46 3 (Int32.ofInt 5)).2.2.1 46 2).toInt := by have b0 : w26_46_2 = (sF (sF sc26 46 5 y26_4) 46 3 (Int32.ofInt 5)).2.2.1 46 2 := sF_ne rfl (sF_ne rfl (v26_46_2)); first | (rw [← b0, ← e_46_2]; exact n119e) | (rw [← b0]; exact n119e)
                exact g_return (gd rfl) rfl (hP _ _ ⟨(sF (sF sc26 46 5 y26_4) 46 3 (Int32.ofInt 5)), hI116, (fr_sF rfl (fr_sF rfl hFc26)), n119d, n119f, rfl, rfl, n119, n119a, n119b⟩)
            · skip
              exact zn_ne c91 h1 rfl
          · skip
            exact zn_ne c45 (in_c 0 rfl) rfl
        · skip
          refine g_aload_n 9 (gd rfl) rfl rfl ?_
          refine g_getA (q2 := 47) 12 (gd rfl) rfl rfl rfl rfl ?_
          refine g_iload_n 13 (gd rfl) rfl rfl ?_
          refine g_caload 14 (gd rfl) rfl (n := 1000) rfl (in_ix i34 rfl) (fun z42x13 e42x13 => ?_)
          have i42x13 := inv_I hIc26 (n := 1000) (t := 2) 0 65535 rfl (in_ix i34 rfl) rfl e42x13
          refine g_bipush 48 16 (gd rfl) rfl rfl ?_
          refine g_cmp_lt 19 34 (gd rfl) rfl rfl (fun c42x16 => ?_) (fun c42x16 => ?_)
          · skip
            have i42x16 := r_lt1 0 47 c42x16 i42x13 (in_c 48 rfl) rfl
            refine g_iconst 0 35 (gd rfl) rfl rfl ?_
            refine g_ireturn (gd rfl) rfl (nb01 (in_w 0 1 (in_c 0 rfl) rfl)) (hp42 _ _ ?_)
            show GG _ _ _ _ _ _ _ _ [.int (Int32.ofInt 0)] _ _ _
            refine g_if_eq 48 89 (gd rfl) rfl rfl (fun c45 => ?_) (fun c45 => ?_)
            · skip
              have hq89 : (u_46_2).toInt + 1 ≤ (w26_46_2).toInt := (by have c48 : (Int32.ofInt 48).toInt = 48 := (by decide); have c57 : (Int32.ofInt 57).toInt = 57 := (by decide); have hd : w26_46_2.toInt = u_46_2.toInt + x1.toInt → 48 ≤ (z42x13).toInt ∧ (z42x13).toInt ≤ 57 := (fun h => by have e0 : (w26_46_2).toNatClampNeg = ((s.2.2.1 46 2).toInt + x1.toInt).toNat := (by rw [← e_46_2]; show (w26_46_2).toInt.toNat = _; omega); rw [e42x13, e0, hFc26.1 47 rfl]; exact q_0); have a0 := oa6 h2 h1 i34a i34 j26_4 j26_3; have oc := ocj_173_46; omega)
              refine g_aload_n 90 (gd rfl) rfl rfl ?_
              refine g_iload_n 91 (gd rfl) rfl rfl ?_
              refine g_if_eq 94 100 (gd rfl) rfl rfl (fun c91 => ?_) (fun c91 => ?_)
              · skip
                refine g_iload 102 (gd rfl) rfl rfl ?_
                refine g_putI 105 (gd rfl) rfl rfl rfl rfl ?_
                have hI102 := inv_sF (q := 46) (j := 5) hIc26 rfl (in_w (-2147483648) 2147483647 j26_4 rfl)
                refine g_aload_n 106 (gd rfl) rfl rfl ?_
                refine g_iload_n 107 (gd rfl) rfl rfl ?_
                refine g_iload_n 108 (gd rfl) rfl rfl ?_
                refine g_cmp_le 111 115 (gd rfl) rfl rfl (fun c108 => ?_) (fun c108 => ?_)
                · skip
                  have i108 := r_le1 0 6 c108 j26_3 h2 rfl
                  refine g_iconst 2 116 (gd rfl) rfl rfl ?_
                  refine g_putI 119 (gd rfl) rfl rfl rfl rfl ?_
                  have hI116 := inv_sF (q := 46) (j := 3) hI102 rfl (in_w 0 5 (in_c 2 rfl) rfl)
                  have n119 : ((sF (sF sc26 46 5 y26_4) 46 3 (Int32.ofInt 2)).2.2.1 46 3).toInt ≠ 1 := by rw [← (show (Int32.ofInt 2) = (sF (sF sc26 46 5 y26_4) 46 3 (Int32.ofInt 2)).2.2.1 46 3 from sF_get)]; decide
                  have n119a : (x2).toInt = 6 → ((sF (sF sc26 46 5 y26_4) 46 3 (Int32.ofInt 2)).2.2.1 46 3).toInt = 2 → ((sF (sF sc26 46 5 y26_4) 46 3 (Int32.ofInt 2)).2.2.1 46 5).toInt ≤ 999999 := by intro h6 h2; rw [← (show (Int32.ofInt 2) = (sF (sF sc26 46 5 y26_4) 46 3 (Int32.ofInt 2)).2.2.1 46 3 from sF_get)] at h2; rw [← (show y26_4 = (sF (sF sc26 46 5 y26_4) 46 3 (Int32.ofInt 2)).2.2.1 46 5 from sF_ne rfl (sF_get))]; first | (exfalso; revert h2; decide) | exact dg_6 (by have a0 := h2; unfold In at a0; have a1 := oa6 h1 i34a i34 j26_4 i108 ((in_c 2 rfl)); have oc := ocj_173_46; omega) (by have a0 := h2; unfold In at a0; have a1 := oa6 h1 i34a i34 j26_4 i108 ((in_c 2 rfl)); have oc := ocj_173_46; omega) (g26_0.2.1 (by have a0 := h2; unfold In at a0; have a1 := oa6 h1 i34a i34 j26_4 i108 ((in_c 2 rfl)); have oc := ocj_173_46; omega))
                  have n119b : tkG (s.1 47) (s.2.2.1 46 1).toInt.toNat ((s.2.2.1 46 2).toInt + (x1).toInt).toNat ((sF (sF sc26 46 5 y26_4) 46 3 (Int32.ofInt 2)).2.2.1 46 2).toInt.toNat ∧ ((((sF (sF sc26 46 5 y26_4) 46 3 (Int32.ofInt 2)).2.2.1 46 2).toInt.toNat - ((s.2.2.1 46 2).toInt + (x1).toInt).toNat ≤ 6 ∧ ((sF (sF sc26 46 5 y26_4) 46 3 (Int32.ofInt 2)).2.2.1 46 3).toInt = 2 ∧ ((sF (sF sc26 46 5 y26_4) 46 3 (Int32.ofInt 2)).2.2.1 46 5).toInt = tkN (s.1 47) ((s.2.2.1 46 2).toInt + (x1).toInt).toNat (((sF (sF sc26 46 5 y26_4) 46 3 (Int32.ofInt 2)).2.2.1 46 2).toInt.toNat - ((s.2.2.1 46 2).toInt + (x1).toInt).toNat)) ∨ (6 < ((sF (sF sc26 46 5 y26_4) 46 3 (Int32.ofInt 2)).2.2.1 46 2).toInt.toNat - ((s.2.2.1 46 2).toInt + (x1).toInt).toNat ∧ ((sF (sF sc26 46 5 y26_4) 46 3 (Int32.ofInt 2)).2.2.1 46 3).toInt = 5)) := by have g9 := g26_1; rw [← e_46_2] at g9; have hw : w26_46_2.toNatClampNeg = w26_46_2.toInt.toNat := rfl; rw [← (show w26_46_2 = (sF (sF sc26 46 5 y26_4) 46 3 (Int32.ofInt 2)).2.2.1 46 2 from sF_ne rfl (sF_ne rfl (v26_46_2))), ← (show (Int32.ofInt 2) = (sF (sF sc26 46 5 y26_4) 46 3 (Int32.ofInt 2)).2.2.1 46 3 from sF_get), ← (show y26_4 = (sF (sF sc26 46 5 y26_4) 46 3 (Int32.ofInt 2)).2.2.1 46 5 from sF_ne rfl (sF_get)), ← e_46_1, ← e_46_2]; exact rdp_i (d := (y26_3).toInt) (y := (y26_4).toInt) (by have a0 := oa7 h2 h1 i34a i34 j26_4 i108 ((in_c 2 rfl)); have oc := ocj_173_46; omega) (by have a0 := oa7 h2 h1 i34a i34 j26_4 i108 ((in_c 2 rfl)); have oc := ocj_173_46; omega) (fun i a b => g9.1 i a (by have a0 := oa7 h2 h1 i34a i34 j26_4 i108 ((in_c 2 rfl)); have oc := ocj_173_46; omega)) (fun _ => by rw [show s.1 47 w26_46_2.toInt.toNat = z42x13 from (by rw [e42x13, hFc26.1 47 rfl]; rfl)]; unfold tkD; have a0 := oa7 h2 h1 i34a i34 j26_4 i108 ((in_c 2 rfl)); have oc := ocj_173_46; omega) (by have a0 := oa7 h2 h1 i34a i34 j26_4 i108 ((in_c 2 rfl)); have oc := ocj_173_46; omega) (fun h => g9.2 (by have a0 := oa7 h2 h1 i34a i34 j26_4 i108 ((in_c 2 rfl)); have oc := ocj_173_46; omega)) (by first | exact Or.inl ⟨by have a0 := oa7 h2 h1 i34a i34 j26_4 i108 ((in_c 2 rfl)); have oc := ocj_173_46; omega, by decide⟩ | exact Or.inr ⟨by have a0 := oa7 h2 h1 i34a i34 j26_4 i108 ((in_c 2 rfl)); have oc := ocj_173_46; omega, by decide⟩) rfl
                  have n119c : (w26_46_2).toInt ≤ (u_46_1).toInt := by first | exact n26_0 | (have a0 := oa7 h2 h1 i34a i34 j26_4 i108 ((in_c 2 rfl)); have oc := ocj_173_46; omega)
                  have n119d : ((sF (sF sc26 46 5 y26_4) 46 3 (Int32.ofInt 2)).2.2.1 46 2).toInt ≤ ((sF (sF sc26 46 5 y26_4) 46 3 (Int32.ofInt 2)).2.2.1 46 1).toInt := by have b0 : w26_46_2 = (sF (sF sc26 46 5 y26_4) 46 3 (Int32.ofInt 2)).2.2.1 46 2 := sF_ne rfl (sF_ne rfl (v26_46_2)); have b1 : u_46_1 = (sF (sF sc26 46 5 y26_4) 46 3 (Int32.ofInt 2)).2.2.1 46 1 := sF_ne rfl (sF_ne rfl (fr_F e_46_1 hFc26 rfl)); rw [← b0, ← b1]; exact n119c
                  have n119e : (u_46_2).toInt + 1 ≤ (w26_46_2).toInt := by have a0 := oa7 h2 h1 i34a i34 j26_4 i108 ((in_c 2 rfl)); have oc := ocj_173_46; omega
                  have n119f : (s.2.2.1 46 2).toInt + 1 ≤ ((sF (sF sc26 46 5 y26_4) 46 3 (Int32.ofInt 2)).2.2.1 46 2).toInt := by have b0 : w26_46_2 = (sF (sF sc26 46 5 y26_4) 46 3 (Int32.ofInt 2)).2.2.1 46 2 := sF_ne rfl (sF_ne rfl (v26_46_2)); first | (rw [← b0, ← e_46_2]; exact n119e) | (rw [← b0]; exact n119e)
                  exact g_return (gd rfl) rfl (hP _ _ ⟨(sF (sF sc26 46 5 y26_4) 46 3 (Int32.ofInt 2)), hI116, (fr_sF rfl (fr_sF rfl hFc26)), n119d, n119f, rfl, rfl, n119, n119a, n119b⟩)
                · skip
                  have i108 := r_lt2 7 1000 c108 h2 j26_3 rfl
                  refine g_iconst 5 112 (gd rfl) rfl rfl ?_
                  refine g_goto 116 (gd rfl) rfl ?_
                  refine g_putI 119 (gd rfl) rfl rfl rfl rfl ?_
                  have hI116 := inv_sF (q := 46) (j := 3) hI102 rfl (in_w 0 5 (in_c 5 rfl) rfl)
                  have n119 : ((sF (sF sc26 46 5 y26_4) 46 3 (Int32.ofInt 5)).2.2.1 46 3).toInt ≠ 1 := by rw [← (show (Int32.ofInt 5) = (sF (sF sc26 46 5 y26_4) 46 3 (Int32.ofInt 5)).2.2.1 46 3 from sF_get)]; decide
                  have n119a : (x2).toInt = 6 → ((sF (sF sc26 46 5 y26_4) 46 3 (Int32.ofInt 5)).2.2.1 46 3).toInt = 2 → ((sF (sF sc26 46 5 y26_4) 46 3 (Int32.ofInt 5)).2.2.1 46 5).toInt ≤ 999999 := by intro h6 h2; rw [← (show (Int32.ofInt 5) = (sF (sF sc26 46 5 y26_4) 46 3 (Int32.ofInt 5)).2.2.1 46 3 from sF_get)] at h2; rw [← (show y26_4 = (sF (sF sc26 46 5 y26_4) 46 3 (Int32.ofInt 5)).2.2.1 46 5 from sF_ne rfl (sF_get))]; first | (exfalso; revert h2; decide) | exact dg_6 (by have a0 := h2; unfold In at a0; have a1 := oa6 h1 i34a i34 j26_4 i108 ((in_c 5 rfl)); have oc := ocj_173_46; omega) (by have a0 := h2; unfold In at a0; have a1 := oa6 h1 i34a i34 j26_4 i108 ((in_c 5 rfl)); have oc := ocj_173_46; omega) (g26_0.2.1 (by have a0 := h2; unfold In at a0; have a1 := oa6 h1 i34a i34 j26_4 i108 ((in_c 5 rfl)); have oc := ocj_173_46; omega))
                  have n119b : tkG (s.1 47) (s.2.2.1 46 1).toInt.toNat ((s.2.2.1 46 2).toInt + (x1).toInt).toNat ((sF (sF sc26 46 5 y26_4) 46 3 (Int32.ofInt 5)).2.2.1 46 2).toInt.toNat ∧ ((((sF (sF sc26 46 5 y26_4) 46 3 (Int32.ofInt 5)).2.2.1 46 2).toInt.toNat - ((s.2.2.1 46 2).toInt + (x1).toInt).toNat ≤ 6 ∧ ((sF (sF sc26 46 5 y26_4) 46 3 (Int32.ofInt 5)).2.2.1 46 3).toInt = 2 ∧ ((sF (sF sc26 46 5 y26_4) 46 3 (Int32.ofInt 5)).2.2.1 46 5).toInt = tkN (s.1 47) ((s.2.2.1 46 2).toInt + (x1).toInt).toNat (((sF (sF sc26 46 5 y26_4) 46 3 (Int32.ofInt 5)).2.2.1 46 2).toInt.toNat - ((s.2.2.1 46 2).toInt + (x1).toInt).toNat)) ∨ (6 < ((sF (sF sc26 46 5 y26_4) 46 3 (Int32.ofInt 5)).2.2.1 46 2).toInt.toNat - ((s.2.2.1 46 2).toInt + (x1).toInt).toNat ∧ ((sF (sF sc26 46 5 y26_4) 46 3 (Int32.ofInt 5)).2.2.1 46 3).toInt = 5)) := by have g9 := g26_1; rw [← e_46_2] at g9; have hw : w26_46_2.toNatClampNeg = w26_46_2.toInt.toNat := rfl; rw [← (show w26_46_2 = (sF (sF sc26 46 5 y26_4) 46 3 (Int32.ofInt 5)).2.2.1 46 2 from sF_ne rfl (sF_ne rfl (v26_46_2))), ← (show (Int32.ofInt 5) = (sF (sF sc26 46 5 y26_4) 46 3 (Int32.ofInt 5)).2.2.1 46 3 from sF_get), ← (show y26_4 = (sF (sF sc26 46 5 y26_4) 46 3 (Int32.ofInt 5)).2.2.1 46 5 from sF_ne rfl (sF_get)), ← e_46_1, ← e_46_2]; exact rdp_i (d := (y26_3).toInt) (y := (y26_4).toInt) (by have a0 := oa7 h2 h1 i34a i34 j26_4 i108 ((in_c 5 rfl)); have oc := ocj_173_46; omega) (by have a0 := oa7 h2 h1 i34a i34 j26_4 i108 ((in_c 5 rfl)); have oc := ocj_173_46; omega) (fun i a b => g9.1 i a (by have a0 := oa7 h2 h1 i34a i34 j26_4 i108 ((in_c 5 rfl)); have oc := ocj_173_46; omega)) (fun _ => by rw [show s.1 47 w26_46_2.toInt.toNat = z42x13 from (by rw [e42x13, hFc26.1 47 rfl]; rfl)]; unfold tkD; have a0 := oa7 h2 h1 i34a i34 j26_4 i108 ((in_c 5 rfl)); have oc := ocj_173_46; omega) (by have a0 := oa7 h2 h1 i34a i34 j26_4 i108 ((in_c 5 rfl)); have oc := ocj_173_46; omega) (fun h => g9.2 (by have a0 := oa7 h2 h1 i34a i34 j26_4 i108 ((in_c 5 rfl)); have oc := ocj_173_46; omega)) (by first | exact Or.inl ⟨by have a0 := oa7 h2 h1 i34a i34 j26_4 i108 ((in_c 5 rfl)); have oc := ocj_173_46; omega, by decide⟩ | exact Or.inr ⟨by have a0 := oa7 h2 h1 i34a i34 j26_4 i108 ((in_c 5 rfl)); have oc := ocj_173_46; omega, by decide⟩) rfl
                  have n119c : (w26_46_2).toInt ≤ (u_46_1).toInt := by first | exact n26_0 | (have a0 := oa7 h2 h1 i34a i34 j26_4 i108 ((in_c 5 rfl)); have oc := ocj_173_46; omega)
                  have n119d : ((sF (sF sc26 46 5 y26_4) 46 3 (Int32.ofInt 5)).2.2.1 46 2).toInt ≤ ((sF (sF sc26 46 5 y26_4) 46 3 (Int32.ofInt 5)).2.2.1 46 1).toInt := by have b0 : w26_46_2 = (sF (sF sc26 46 5 y26_4) 46 3 (Int32.ofInt 5)).2.2.1 46 2 := sF_ne rfl (sF_ne rfl (v26_46_2)); have b1 : u_46_1 = (sF (sF sc26 46 5 y26_4) 46 3 (Int32.ofInt 5)).2.2.1 46 1 := sF_ne rfl (sF_ne rfl (fr_F e_46_1 hFc26 rfl)); rw [← b0, ← b1]; exact n119c
                  have n119e : (u_46_2).toInt + 1 ≤ (w26_46_2).toInt := by have a0 := oa7 h2 h1 i34a i34 j26_4 i108 ((in_c 5 rfl)); have oc := ocj_173_46; omega
                  have n119f : (s.2.2.1 46 2).toInt + 1 ≤ ((sF (sF sc26 46 5 y26_4) 46 3 (Int32.ofInt 5)).2.2.1 46 2).toInt := by have b0 : w26_46_2 = (sF (sF sc26 46 5 y26_4) 46 3 (Int32.ofInt 5)).2.2.1 46 2 := sF_ne rfl (sF_ne rfl (v26_46_2)); first | (rw [← b0, ← e_46_2]; exact n119e) | (rw [← b0]; exact n119e)
                  exact g_return (gd rfl) rfl (hP _ _ ⟨(sF (sF sc26 46 5 y26_4) 46 3 (Int32.ofInt 5)), hI116, (fr_sF rfl (fr_sF rfl hFc26)), n119d, n119f, rfl, rfl, n119, n119a, n119b⟩)
              · skip
                exact zn_ne c91 h1 rfl
            · skip
              exact zn_ne c45 (in_c 0 rfl) rfl
          · skip
            have i42x16 := r_le2 48 65535 c42x16 (in_c 48 rfl) i42x13 rfl
            refine g_aload_n 20 (gd rfl) rfl rfl ?_
            refine g_getA (q2 := 47) 23 (gd rfl) rfl rfl rfl rfl ?_
            refine g_iload_n 24 (gd rfl) rfl rfl ?_
            refine g_caload 25 (gd rfl) rfl (n := 1000) rfl (in_ix i34 rfl) (fun z42x24 e42x24 => ?_)
            have q42x24 : z42x13 = z42x24 := (e42x13).trans e42x24.symm
            subst q42x24
            refine g_bipush 57 27 (gd rfl) rfl rfl ?_
            refine g_cmp_gt 30 34 (gd rfl) rfl rfl (fun c42x27 => ?_) (fun c42x27 => ?_)
            · skip
              have i42x27 := r_lt2 58 65535 c42x27 (in_c 57 rfl) i42x16 rfl
              refine g_iconst 0 35 (gd rfl) rfl rfl ?_
              refine g_ireturn (gd rfl) rfl (nb01 (in_w 0 1 (in_c 0 rfl) rfl)) (hp42 _ _ ?_)
              show GG _ _ _ _ _ _ _ _ [.int (Int32.ofInt 0)] _ _ _
              refine g_if_eq 48 89 (gd rfl) rfl rfl (fun c45 => ?_) (fun c45 => ?_)
              · skip
                have hq89 : (u_46_2).toInt + 1 ≤ (w26_46_2).toInt := (by have c48 : (Int32.ofInt 48).toInt = 48 := (by decide); have c57 : (Int32.ofInt 57).toInt = 57 := (by decide); have hd : w26_46_2.toInt = u_46_2.toInt + x1.toInt → 48 ≤ (z42x13).toInt ∧ (z42x13).toInt ≤ 57 := (fun h => by have e0 : (w26_46_2).toNatClampNeg = ((s.2.2.1 46 2).toInt + x1.toInt).toNat := (by rw [← e_46_2]; show (w26_46_2).toInt.toNat = _; omega); rw [e42x13, e0, hFc26.1 47 rfl]; exact q_0); have a0 := oa6 h2 h1 i34a i34 j26_4 j26_3; have oc := ocj_173_46; omega)
                refine g_aload_n 90 (gd rfl) rfl rfl ?_
                refine g_iload_n 91 (gd rfl) rfl rfl ?_
                refine g_if_eq 94 100 (gd rfl) rfl rfl (fun c91 => ?_) (fun c91 => ?_)
                · skip
                  refine g_iload 102 (gd rfl) rfl rfl ?_
                  refine g_putI 105 (gd rfl) rfl rfl rfl rfl ?_
                  have hI102 := inv_sF (q := 46) (j := 5) hIc26 rfl (in_w (-2147483648) 2147483647 j26_4 rfl)
                  refine g_aload_n 106 (gd rfl) rfl rfl ?_
                  refine g_iload_n 107 (gd rfl) rfl rfl ?_
                  refine g_iload_n 108 (gd rfl) rfl rfl ?_
                  refine g_cmp_le 111 115 (gd rfl) rfl rfl (fun c108 => ?_) (fun c108 => ?_)
                  · skip
                    have i108 := r_le1 0 6 c108 j26_3 h2 rfl
                    refine g_iconst 2 116 (gd rfl) rfl rfl ?_
                    refine g_putI 119 (gd rfl) rfl rfl rfl rfl ?_
                    have hI116 := inv_sF (q := 46) (j := 3) hI102 rfl (in_w 0 5 (in_c 2 rfl) rfl)
                    have n119 : ((sF (sF sc26 46 5 y26_4) 46 3 (Int32.ofInt 2)).2.2.1 46 3).toInt ≠ 1 := by rw [← (show (Int32.ofInt 2) = (sF (sF sc26 46 5 y26_4) 46 3 (Int32.ofInt 2)).2.2.1 46 3 from sF_get)]; decide
                    have n119a : (x2).toInt = 6 → ((sF (sF sc26 46 5 y26_4) 46 3 (Int32.ofInt 2)).2.2.1 46 3).toInt = 2 → ((sF (sF sc26 46 5 y26_4) 46 3 (Int32.ofInt 2)).2.2.1 46 5).toInt ≤ 999999 := by intro h6 h2; rw [← (show (Int32.ofInt 2) = (sF (sF sc26 46 5 y26_4) 46 3 (Int32.ofInt 2)).2.2.1 46 3 from sF_get)] at h2; rw [← (show y26_4 = (sF (sF sc26 46 5 y26_4) 46 3 (Int32.ofInt 2)).2.2.1 46 5 from sF_ne rfl (sF_get))]; first | (exfalso; revert h2; decide) | exact dg_6 (by have a0 := h2; unfold In at a0; have a1 := oa6 h1 i34a i34 j26_4 i108 ((in_c 2 rfl)); have oc := ocj_173_46; omega) (by have a0 := h2; unfold In at a0; have a1 := oa6 h1 i34a i34 j26_4 i108 ((in_c 2 rfl)); have oc := ocj_173_46; omega) (g26_0.2.1 (by have a0 := h2; unfold In at a0; have a1 := oa6 h1 i34a i34 j26_4 i108 ((in_c 2 rfl)); have oc := ocj_173_46; omega))
                    have n119b : tkG (s.1 47) (s.2.2.1 46 1).toInt.toNat ((s.2.2.1 46 2).toInt + (x1).toInt).toNat ((sF (sF sc26 46 5 y26_4) 46 3 (Int32.ofInt 2)).2.2.1 46 2).toInt.toNat ∧ ((((sF (sF sc26 46 5 y26_4) 46 3 (Int32.ofInt 2)).2.2.1 46 2).toInt.toNat - ((s.2.2.1 46 2).toInt + (x1).toInt).toNat ≤ 6 ∧ ((sF (sF sc26 46 5 y26_4) 46 3 (Int32.ofInt 2)).2.2.1 46 3).toInt = 2 ∧ ((sF (sF sc26 46 5 y26_4) 46 3 (Int32.ofInt 2)).2.2.1 46 5).toInt = tkN (s.1 47) ((s.2.2.1 46 2).toInt + (x1).toInt).toNat (((sF (sF sc26 46 5 y26_4) 46 3 (Int32.ofInt 2)).2.2.1 46 2).toInt.toNat - ((s.2.2.1 46 2).toInt + (x1).toInt).toNat)) ∨ (6 < ((sF (sF sc26 46 5 y26_4) 46 3 (Int32.ofInt 2)).2.2.1 46 2).toInt.toNat - ((s.2.2.1 46 2).toInt + (x1).toInt).toNat ∧ ((sF (sF sc26 46 5 y26_4) 46 3 (Int32.ofInt 2)).2.2.1 46 3).toInt = 5)) := by have g9 := g26_1; rw [← e_46_2] at g9; have hw : w26_46_2.toNatClampNeg = w26_46_2.toInt.toNat := rfl; rw [← (show w26_46_2 = (sF (sF sc26 46 5 y26_4) 46 3 (Int32.ofInt 2)).2.2.1 46 2 from sF_ne rfl (sF_ne rfl (v26_46_2))), ← (show (Int32.ofInt 2) = (sF (sF sc26 46 5 y26_4) 46 3 (Int32.ofInt 2)).2.2.1 46 3 from sF_get), ← (show y26_4 = (sF (sF sc26 46 5 y26_4) 46 3 (Int32.ofInt 2)).2.2.1 46 5 from sF_ne rfl (sF_get)), ← e_46_1, ← e_46_2]; exact rdp_i (d := (y26_3).toInt) (y := (y26_4).toInt) (by have a0 := oa7 h2 h1 i34a i34 j26_4 i108 ((in_c 2 rfl)); have oc := ocj_173_46; omega) (by have a0 := oa7 h2 h1 i34a i34 j26_4 i108 ((in_c 2 rfl)); have oc := ocj_173_46; omega) (fun i a b => g9.1 i a (by have a0 := oa7 h2 h1 i34a i34 j26_4 i108 ((in_c 2 rfl)); have oc := ocj_173_46; omega)) (fun _ => by rw [show s.1 47 w26_46_2.toInt.toNat = z42x13 from (by rw [e42x13, hFc26.1 47 rfl]; rfl)]; unfold tkD; have a0 := oa7 h2 h1 i34a i34 j26_4 i108 ((in_c 2 rfl)); have oc := ocj_173_46; omega) (by have a0 := oa7 h2 h1 i34a i34 j26_4 i108 ((in_c 2 rfl)); have oc := ocj_173_46; omega) (fun h => g9.2 (by have a0 := oa7 h2 h1 i34a i34 j26_4 i108 ((in_c 2 rfl)); have oc := ocj_173_46; omega)) (by first | exact Or.inl ⟨by have a0 := oa7 h2 h1 i34a i34 j26_4 i108 ((in_c 2 rfl)); have oc := ocj_173_46; omega, by decide⟩ | exact Or.inr ⟨by have a0 := oa7 h2 h1 i34a i34 j26_4 i108 ((in_c 2 rfl)); have oc := ocj_173_46; omega, by decide⟩) rfl
                    have n119c : (w26_46_2).toInt ≤ (u_46_1).toInt := by first | exact n26_0 | (have a0 := oa7 h2 h1 i34a i34 j26_4 i108 ((in_c 2 rfl)); have oc := ocj_173_46; omega)
                    have n119d : ((sF (sF sc26 46 5 y26_4) 46 3 (Int32.ofInt 2)).2.2.1 46 2).toInt ≤ ((sF (sF sc26 46 5 y26_4) 46 3 (Int32.ofInt 2)).2.2.1 46 1).toInt := by have b0 : w26_46_2 = (sF (sF sc26 46 5 y26_4) 46 3 (Int32.ofInt 2)).2.2.1 46 2 := sF_ne rfl (sF_ne rfl (v26_46_2)); have b1 : u_46_1 = (sF (sF sc26 46 5 y26_4) 46 3 (Int32.ofInt 2)).2.2.1 46 1 := sF_ne rfl (sF_ne rfl (fr_F e_46_1 hFc26 rfl)); rw [← b0, ← b1]; exact n119c
                    have n119e : (u_46_2).toInt + 1 ≤ (w26_46_2).toInt := by have a0 := oa7 h2 h1 i34a i34 j26_4 i108 ((in_c 2 rfl)); have oc := ocj_173_46; omega
                    have n119f : (s.2.2.1 46 2).toInt + 1 ≤ ((sF (sF sc26 46 5 y26_4) 46 3 (Int32.ofInt 2)).2.2.1 46 2).toInt := by have b0 : w26_46_2 = (sF (sF sc26 46 5 y26_4) 46 3 (Int32.ofInt 2)).2.2.1 46 2 := sF_ne rfl (sF_ne rfl (v26_46_2)); first | (rw [← b0, ← e_46_2]; exact n119e) | (rw [← b0]; exact n119e)
                    exact g_return (gd rfl) rfl (hP _ _ ⟨(sF (sF sc26 46 5 y26_4) 46 3 (Int32.ofInt 2)), hI116, (fr_sF rfl (fr_sF rfl hFc26)), n119d, n119f, rfl, rfl, n119, n119a, n119b⟩)
                  · skip
                    have i108 := r_lt2 7 1000 c108 h2 j26_3 rfl
                    refine g_iconst 5 112 (gd rfl) rfl rfl ?_
                    refine g_goto 116 (gd rfl) rfl ?_
                    refine g_putI 119 (gd rfl) rfl rfl rfl rfl ?_
                    have hI116 := inv_sF (q := 46) (j := 3) hI102 rfl (in_w 0 5 (in_c 5 rfl) rfl)
                    have n119 : ((sF (sF sc26 46 5 y26_4) 46 3 (Int32.ofInt 5)).2.2.1 46 3).toInt ≠ 1 := by rw [← (show (Int32.ofInt 5) = (sF (sF sc26 46 5 y26_4) 46 3 (Int32.ofInt 5)).2.2.1 46 3 from sF_get)]; decide
                    have n119a : (x2).toInt = 6 → ((sF (sF sc26 46 5 y26_4) 46 3 (Int32.ofInt 5)).2.2.1 46 3).toInt = 2 → ((sF (sF sc26 46 5 y26_4) 46 3 (Int32.ofInt 5)).2.2.1 46 5).toInt ≤ 999999 := by intro h6 h2; rw [← (show (Int32.ofInt 5) = (sF (sF sc26 46 5 y26_4) 46 3 (Int32.ofInt 5)).2.2.1 46 3 from sF_get)] at h2; rw [← (show y26_4 = (sF (sF sc26 46 5 y26_4) 46 3 (Int32.ofInt 5)).2.2.1 46 5 from sF_ne rfl (sF_get))]; first | (exfalso; revert h2; decide) | exact dg_6 (by have a0 := h2; unfold In at a0; have a1 := oa6 h1 i34a i34 j26_4 i108 ((in_c 5 rfl)); have oc := ocj_173_46; omega) (by have a0 := h2; unfold In at a0; have a1 := oa6 h1 i34a i34 j26_4 i108 ((in_c 5 rfl)); have oc := ocj_173_46; omega) (g26_0.2.1 (by have a0 := h2; unfold In at a0; have a1 := oa6 h1 i34a i34 j26_4 i108 ((in_c 5 rfl)); have oc := ocj_173_46; omega))
                    have n119b : tkG (s.1 47) (s.2.2.1 46 1).toInt.toNat ((s.2.2.1 46 2).toInt + (x1).toInt).toNat ((sF (sF sc26 46 5 y26_4) 46 3 (Int32.ofInt 5)).2.2.1 46 2).toInt.toNat ∧ ((((sF (sF sc26 46 5 y26_4) 46 3 (Int32.ofInt 5)).2.2.1 46 2).toInt.toNat - ((s.2.2.1 46 2).toInt + (x1).toInt).toNat ≤ 6 ∧ ((sF (sF sc26 46 5 y26_4) 46 3 (Int32.ofInt 5)).2.2.1 46 3).toInt = 2 ∧ ((sF (sF sc26 46 5 y26_4) 46 3 (Int32.ofInt 5)).2.2.1 46 5).toInt = tkN (s.1 47) ((s.2.2.1 46 2).toInt + (x1).toInt).toNat (((sF (sF sc26 46 5 y26_4) 46 3 (Int32.ofInt 5)).2.2.1 46 2).toInt.toNat - ((s.2.2.1 46 2).toInt + (x1).toInt).toNat)) ∨ (6 < ((sF (sF sc26 46 5 y26_4) 46 3 (Int32.ofInt 5)).2.2.1 46 2).toInt.toNat - ((s.2.2.1 46 2).toInt + (x1).toInt).toNat ∧ ((sF (sF sc26 46 5 y26_4) 46 3 (Int32.ofInt 5)).2.2.1 46 3).toInt = 5)) := by have g9 := g26_1; rw [← e_46_2] at g9; have hw : w26_46_2.toNatClampNeg = w26_46_2.toInt.toNat := rfl; rw [← (show w26_46_2 = (sF (sF sc26 46 5 y26_4) 46 3 (Int32.ofInt 5)).2.2.1 46 2 from sF_ne rfl (sF_ne rfl (v26_46_2))), ← (show (Int32.ofInt 5) = (sF (sF sc26 46 5 y26_4) 46 3 (Int32.ofInt 5)).2.2.1 46 3 from sF_get), ← (show y26_4 = (sF (sF sc26 46 5 y26_4) 46 3 (Int32.ofInt 5)).2.2.1 46 5 from sF_ne rfl (sF_get)), ← e_46_1, ← e_46_2]; exact rdp_i (d := (y26_3).toInt) (y := (y26_4).toInt) (by have a0 := oa7 h2 h1 i34a i34 j26_4 i108 ((in_c 5 rfl)); have oc := ocj_173_46; omega) (by have a0 := oa7 h2 h1 i34a i34 j26_4 i108 ((in_c 5 rfl)); have oc := ocj_173_46; omega) (fun i a b => g9.1 i a (by have a0 := oa7 h2 h1 i34a i34 j26_4 i108 ((in_c 5 rfl)); have oc := ocj_173_46; omega)) (fun _ => by rw [show s.1 47 w26_46_2.toInt.toNat = z42x13 from (by rw [e42x13, hFc26.1 47 rfl]; rfl)]; unfold tkD; have a0 := oa7 h2 h1 i34a i34 j26_4 i108 ((in_c 5 rfl)); have oc := ocj_173_46; omega) (by have a0 := oa7 h2 h1 i34a i34 j26_4 i108 ((in_c 5 rfl)); have oc := ocj_173_46; omega) (fun h => g9.2 (by have a0 := oa7 h2 h1 i34a i34 j26_4 i108 ((in_c 5 rfl)); have oc := ocj_173_46; omega)) (by first | exact Or.inl ⟨by have a0 := oa7 h2 h1 i34a i34 j26_4 i108 ((in_c 5 rfl)); have oc := ocj_173_46; omega, by decide⟩ | exact Or.inr ⟨by have a0 := oa7 h2 h1 i34a i34 j26_4 i108 ((in_c 5 rfl)); have oc := ocj_173_46; omega, by decide⟩) rfl
                    have n119c : (w26_46_2).toInt ≤ (u_46_1).toInt := by first | exact n26_0 | (have a0 := oa7 h2 h1 i34a i34 j26_4 i108 ((in_c 5 rfl)); have oc := ocj_173_46; omega)
                    have n119d : ((sF (sF sc26 46 5 y26_4) 46 3 (Int32.ofInt 5)).2.2.1 46 2).toInt ≤ ((sF (sF sc26 46 5 y26_4) 46 3 (Int32.ofInt 5)).2.2.1 46 1).toInt := by have b0 : w26_46_2 = (sF (sF sc26 46 5 y26_4) 46 3 (Int32.ofInt 5)).2.2.1 46 2 := sF_ne rfl (sF_ne rfl (v26_46_2)); have b1 : u_46_1 = (sF (sF sc26 46 5 y26_4) 46 3 (Int32.ofInt 5)).2.2.1 46 1 := sF_ne rfl (sF_ne rfl (fr_F e_46_1 hFc26 rfl)); rw [← b0, ← b1]; exact n119c
                    have n119e : (u_46_2).toInt + 1 ≤ (w26_46_2).toInt := by have a0 := oa7 h2 h1 i34a i34 j26_4 i108 ((in_c 5 rfl)); have oc := ocj_173_46; omega
                    have n119f : (s.2.2.1 46 2).toInt + 1 ≤ ((sF (sF sc26 46 5 y26_4) 46 3 (Int32.ofInt 5)).2.2.1 46 2).toInt := by have b0 : w26_46_2 = (sF (sF sc26 46 5 y26_4) 46 3 (Int32.ofInt 5)).2.2.1 46 2 := sF_ne rfl (sF_ne rfl (v26_46_2)); first | (rw [← b0, ← e_46_2]; exact n119e) | (rw [← b0]; exact n119e)
                    exact g_return (gd rfl) rfl (hP _ _ ⟨(sF (sF sc26 46 5 y26_4) 46 3 (Int32.ofInt 5)), hI116, (fr_sF rfl (fr_sF rfl hFc26)), n119d, n119f, rfl, rfl, n119, n119a, n119b⟩)
                · skip
                  exact zn_ne c91 h1 rfl
              · skip
                exact zn_ne c45 (in_c 0 rfl) rfl
            · skip
              have i42x27 := r_le1 48 57 c42x27 i42x16 (in_c 57 rfl) rfl
              refine g_iconst 1 31 (gd rfl) rfl rfl ?_
              refine g_goto 35 (gd rfl) rfl ?_
              refine g_ireturn (gd rfl) rfl (nb01 (in_w 0 1 (in_c 1 rfl) rfl)) (hp42 _ _ ?_)
              show GG _ _ _ _ _ _ _ _ [.int (Int32.ofInt 1)] _ _ _
              refine g_if_eq 48 89 (gd rfl) rfl rfl (fun c45 => ?_) (fun c45 => ?_)
              · skip
                exact zn_eq c45 (in_c 1 rfl) rfl
              · skip
                refine g_iinc 51 (gd rfl) rfl rfl (Nat.le_of_ble_eq_true rfl) (fun z48 e48 => ?_)
                have i48 := in_add 1 1001 e48 j26_3 (in_c 1 rfl) rfl rfl
                refine g_iload_n 52 (gd rfl) rfl rfl ?_
                refine g_iload_n 53 (gd rfl) rfl rfl ?_
                refine g_cmp_gt 56 76 (gd rfl) rfl rfl (fun c53 => ?_) (fun c53 => ?_)
                · skip
                  have i53 := r_lt2 7 1001 c53 h2 i48 rfl
                  refine g_aload_n 77 (gd rfl) rfl rfl ?_
                  refine g_dup 78 (gd rfl) rfl rfl ?_
                  refine g_getI 81 (gd rfl) rfl rfl rfl (fun z78 e78 => ?_)
                  have q78 : w26_46_2 = z78 := (v26_46_2).trans e78.symm
                  subst q78
                  refine g_iconst 1 82 (gd rfl) rfl rfl ?_
                  refine g_iadd 83 (gd rfl) rfl (fun z82 e82 => ?_)
                  have i82 := in_add 1 1000 e82 i34 (in_c 1 rfl) rfl rfl
                  refine g_putI 86 (gd rfl) rfl rfl rfl rfl ?_
                  have hI83 := inv_sF (q := 46) (j := 2) hIc26 rfl (in_w 0 1000 i82 rfl)
                  refine g_goto 26 (gd rfl) rfl ?_
                  have i26 : In z48 0 1000 := by exact ⟨by have a0 := oa7 h2 h1 i34a i34 j26_4 j26_3 i53; have a7 := t_add e48 j26_3 (in_c 1 rfl) rfl; have a8 := oa2 ((in_c 1 rfl)) i82; have a10 := t_add e82 i34 (in_c 1 rfl) rfl; have oc := ocj_173_46; omega, by have a0 := oa7 h2 h1 i34a i34 j26_4 j26_3 i53; have a7 := t_add e48 j26_3 (in_c 1 rfl) rfl; have a8 := oa2 ((in_c 1 rfl)) i82; have a10 := t_add e82 i34 (in_c 1 rfl) rfl; have oc := ocj_173_46; omega⟩
                  have v26 : z82 = (sF sc26 46 2 z82).2.2.1 46 2 := sF_get
                  have n26 : (z82).toInt ≤ (u_46_1).toInt := by have a0 := oa7 h2 h1 i34a i34 j26_4 j26_3 i26; have a7 := t_add e48 j26_3 (in_c 1 rfl) rfl; have a8 := oa2 ((in_c 1 rfl)) i82; have a10 := t_add e82 i34 (in_c 1 rfl) rfl; have oc := ocj_173_46; omega
                  have n26a : (u_46_2).toInt + (x1).toInt ≤ (z82).toInt := by have a0 := oa7 h2 h1 i34a i34 j26_4 j26_3 i26; have a7 := t_add e48 j26_3 (in_c 1 rfl) rfl; have a8 := oa2 ((in_c 1 rfl)) i82; have a10 := t_add e82 i34 (in_c 1 rfl) rfl; have oc := ocj_173_46; omega
                  have n26b : (z48).toInt ≤ (z82).toInt := by have a0 := oa7 h2 h1 i34a i34 j26_4 j26_3 i26; have a7 := t_add e48 j26_3 (in_c 1 rfl) rfl; have a8 := oa2 ((in_c 1 rfl)) i82; have a10 := t_add e82 i34 (in_c 1 rfl) rfl; have oc := ocj_173_46; omega
                  have n26c : (z48).toInt = (z82).toInt - (u_46_2).toInt - (x1).toInt := by have a0 := oa7 h2 h1 i34a i34 j26_4 j26_3 i26; have a7 := t_add e48 j26_3 (in_c 1 rfl) rfl; have a8 := oa2 ((in_c 1 rfl)) i82; have a10 := t_add e82 i34 (in_c 1 rfl) rfl; have oc := ocj_173_46; omega
                  have n26d : 0 ≤ (y26_4).toInt ∧ ((z48).toInt ≤ (x2).toInt → (y26_4).toInt < (10 : Int) ^ ((z48).toInt).toNat) ∧ ((x2).toInt < (z48).toInt → (y26_4).toInt < (10 : Int) ^ ((x2).toInt).toNat) := by exact ⟨g26_0.1, fun h => absurd h (by have a0 := oa7 h2 h1 i34a i34 j26_4 j26_3 i26; have a7 := t_add e48 j26_3 (in_c 1 rfl) rfl; have a8 := oa2 ((in_c 1 rfl)) i82; have a10 := t_add e82 i34 (in_c 1 rfl) rfl; have oc := ocj_173_46; omega), fun _ => (Int.lt_or_le (x2).toInt (y26_3).toInt).elim g26_0.2.2 (fun hh => by have e7 : y26_3.toInt = x2.toInt := (by have a0 := oa7 h2 h1 i34a i34 j26_4 j26_3 i26; have a7 := t_add e48 j26_3 (in_c 1 rfl) rfl; have a8 := oa2 ((in_c 1 rfl)) i82; have a10 := t_add e82 i34 (in_c 1 rfl) rfl; have oc := ocj_173_46; omega); rw [← e7]; exact g26_0.2.1 hh)⟩
                  have n26e : (∀ i : Nat, ((s.2.2.1 46 2).toInt + (x1).toInt).toNat ≤ i → (i : Int) < (z82).toInt → tkD (s.1 47 i)) ∧ ((z48).toInt ≤ (x2).toInt → (y26_4).toInt = tkN (s.1 47) ((s.2.2.1 46 2).toInt + (x1).toInt).toNat (z48).toInt.toNat) := by have ht : z42x13 = s.1 47 w26_46_2.toNatClampNeg := (by rw [e42x13, hFc26.1 47 rfl]); have hw : w26_46_2.toNatClampNeg = w26_46_2.toInt.toNat := rfl; exact ⟨(fun i h1 h2 => by by_cases hc : (i : Int) < w26_46_2.toInt; (exact g26_1.1 i h1 hc); (rw [show i = w26_46_2.toNatClampNeg from (by have a0 := h2; unfold In at a0; have a1 := h1; unfold In at a1; have a2 := oa5 i34a i34 j26_4 j26_3 i26; have a7 := t_add e48 j26_3 (in_c 1 rfl) rfl; have a8 := oa2 ((in_c 1 rfl)) i82; have a10 := t_add e82 i34 (in_c 1 rfl) rfl; have oc := ocj_173_46; omega), ← ht]; exact ⟨by have a0 := h2; unfold In at a0; have a1 := h1; unfold In at a1; have a2 := oa5 i34a i34 j26_4 j26_3 i26; have a7 := t_add e48 j26_3 (in_c 1 rfl) rfl; have a8 := oa2 ((in_c 1 rfl)) i82; have a10 := t_add e82 i34 (in_c 1 rfl) rfl; have oc := ocj_173_46; omega, by have a0 := h2; unfold In at a0; have a1 := h1; unfold In at a1; have a2 := oa5 i34a i34 j26_4 j26_3 i26; have a7 := t_add e48 j26_3 (in_c 1 rfl) rfl; have a8 := oa2 ((in_c 1 rfl)) i82; have a10 := t_add e82 i34 (in_c 1 rfl) rfl; have oc := ocj_173_46; omega⟩)), fun h => by exfalso; have a0 := h2; unfold In at a0; have a1 := h1; unfold In at a1; have a2 := oa5 i34a i34 j26_4 j26_3 i26; have a7 := t_add e48 j26_3 (in_c 1 rfl) rfl; have a8 := oa2 ((in_c 1 rfl)) i82; have a10 := t_add e82 i34 (in_c 1 rfl) rfl; have oc := ocj_173_46; omega⟩
                  have m26 : (u_46_1).toInt - (z82).toInt < ((k26 : Nat) : Int) := by have a0 := oa7 h2 h1 i34a i34 j26_4 j26_3 i26; have a7 := t_add e48 j26_3 (in_c 1 rfl) rfl; have a8 := oa2 ((in_c 1 rfl)) i82; have a10 := t_add e82 i34 (in_c 1 rfl) rfl; have oc := ocj_173_46; omega
                  exact gg_w (by first | exact Nat.le_add_right _ _ | exact gw2 | exact gw3 | exact gwe rfl | exact gwf rfl | exact gwg rfl | exact gwh rfl | omega) (gg_f (gf_cons rfl (gf_cons rfl (gf_cons rfl (gf_cons rfl (gf_cons rfl gf_nil))))) (ih26  (sF sc26 46 2 z82) z48 y26_4 z82 hI83 (fr_sF rfl hFc26) i26 (in_w 0 9999999 j26_4 rfl) v26 n26 n26a n26b n26c n26d n26e m26))
                · skip
                  have i53 := r_le1 1 6 c53 i48 h2 rfl
                  refine g_iload 58 (gd rfl) rfl rfl ?_
                  refine g_bipush 10 60 (gd rfl) rfl rfl ?_
                  refine g_imul 61 (gd rfl) rfl (fun z60 e60 => ?_)
                  have i60 := in_mulc 10 0 99999990 (Or.inr e60) j26_4 rfl rfl
                  refine g_aload_n 62 (gd rfl) rfl rfl ?_
                  refine g_getA (q2 := 47) 65 (gd rfl) rfl rfl rfl rfl ?_
                  refine g_aload_n 66 (gd rfl) rfl rfl ?_
                  refine g_getI 69 (gd rfl) rfl rfl rfl (fun z66 e66 => ?_)
                  have q66 : w26_46_2 = z66 := (v26_46_2).trans e66.symm
                  subst q66
                  refine g_caload 70 (gd rfl) rfl (n := 1000) rfl (in_ix i34 rfl) (fun z69 e69 => ?_)
                  have q69 : z42x13 = z69 := (e42x13).trans e69.symm
                  subst q69
                  refine g_bipush 48 72 (gd rfl) rfl rfl ?_
                  refine g_isub 73 (gd rfl) rfl (fun z72 e72 => ?_)
                  have i72 := in_sub 0 9 e72 i42x27 (in_c 48 rfl) rfl rfl
                  refine g_iadd 74 (gd rfl) rfl (fun z73 e73 => ?_)
                  have i73 := in_add 0 99999999 e73 i60 i72 rfl rfl
                  have hq := dg_st (a := y26_4.toInt) (d := z72.toInt) (n := y26_3.toInt) (by have a0 := oa7 h2 h1 i34a i34 j26_4 j26_3 i53; have a7 := t_add e48 j26_3 (in_c 1 rfl) rfl; have a8 := oa2 ((in_c 1 rfl)) i73; have a10 := t_add e73 i60 i72 rfl; have a11 := in_u i72; have a12 := t_sub e72 i42x27 (in_c 48 rfl) rfl; have a13 := oa3 ((in_c 48 rfl)) i42x27 i60; have a16 := (t_mulc 10 (Or.inr e60) j26_4 rfl).1; have oc := ocj_173_46; omega) g26_0.1 (g26_0.2.1 (by have a0 := oa7 h2 h1 i34a i34 j26_4 j26_3 i53; have a7 := t_add e48 j26_3 (in_c 1 rfl) rfl; have a8 := oa2 ((in_c 1 rfl)) i73; have a10 := t_add e73 i60 i72 rfl; have a11 := in_u i72; have a12 := t_sub e72 i42x27 (in_c 48 rfl) rfl; have a13 := oa3 ((in_c 48 rfl)) i42x27 i60; have a16 := (t_mulc 10 (Or.inr e60) j26_4 rfl).1; have oc := ocj_173_46; omega)) (by have a0 := oa7 h2 h1 i34a i34 j26_4 j26_3 i53; have a7 := t_add e48 j26_3 (in_c 1 rfl) rfl; have a8 := oa2 ((in_c 1 rfl)) i73; have a10 := t_add e73 i60 i72 rfl; have a11 := in_u i72; have a12 := t_sub e72 i42x27 (in_c 48 rfl) rfl; have a13 := oa3 ((in_c 48 rfl)) i42x27 i60; have a16 := (t_mulc 10 (Or.inr e60) j26_4 rfl).1; have oc := ocj_173_46; omega)
                  have iq : In z73 0 9999999 := (by have e7 : z73.toInt = y26_4.toInt * 10 + z72.toInt := (by have a0 := oa7 h2 h1 i34a i34 j26_4 j26_3 i53; have a7 := t_add e48 j26_3 (in_c 1 rfl) rfl; have a8 := oa2 ((in_c 1 rfl)) i73; have a10 := t_add e73 i60 i72 rfl; have a11 := in_u i72; have a12 := t_sub e72 i42x27 (in_c 48 rfl) rfl; have a13 := oa3 ((in_c 48 rfl)) i42x27 i60; have a16 := (t_mulc 10 (Or.inr e60) j26_4 rfl).1; have oc := ocj_173_46; omega); have h7 := dg_7 (n := y26_3.toInt + 1) (by have a0 := oa7 h2 h1 i34a i34 j26_4 j26_3 i53; have a7 := t_add e48 j26_3 (in_c 1 rfl) rfl; have a8 := oa2 ((in_c 1 rfl)) i73; have a10 := t_add e73 i60 i72 rfl; have a11 := in_u i72; have a12 := t_sub e72 i42x27 (in_c 48 rfl) rfl; have a13 := oa3 ((in_c 48 rfl)) i42x27 i60; have a16 := (t_mulc 10 (Or.inr e60) j26_4 rfl).1; have oc := ocj_173_46; omega) (by have a0 := oa7 h2 h1 i34a i34 j26_4 j26_3 i53; have a7 := t_add e48 j26_3 (in_c 1 rfl) rfl; have a8 := oa2 ((in_c 1 rfl)) i73; have a10 := t_add e73 i60 i72 rfl; have a11 := in_u i72; have a12 := t_sub e72 i42x27 (in_c 48 rfl) rfl; have a13 := oa3 ((in_c 48 rfl)) i42x27 i60; have a16 := (t_mulc 10 (Or.inr e60) j26_4 rfl).1; have oc := ocj_173_46; omega) hq.2; exact ⟨by rw [e7]; exact hq.1, by rw [e7]; exact h7⟩)
                  have i74 : In z73 0 9999999 := by exact iq
                  refine g_istore 76 (gd rfl) rfl (Nat.le_of_ble_eq_true rfl) ?_
                  refine g_aload_n 77 (gd rfl) rfl rfl ?_
                  refine g_dup 78 (gd rfl) rfl rfl ?_
                  refine g_getI 81 (gd rfl) rfl rfl rfl (fun z78 e78 => ?_)
                  have q78 : w26_46_2 = z78 := (v26_46_2).trans e78.symm
                  subst q78
                  refine g_iconst 1 82 (gd rfl) rfl rfl ?_
                  refine g_iadd 83 (gd rfl) rfl (fun z82 e82 => ?_)
                  have i82 := in_add 1 1000 e82 i34 (in_c 1 rfl) rfl rfl
                  refine g_putI 86 (gd rfl) rfl rfl rfl rfl ?_
                  have hI83 := inv_sF (q := 46) (j := 2) hIc26 rfl (in_w 0 1000 i82 rfl)
                  refine g_goto 26 (gd rfl) rfl ?_
                  have v26 : z82 = (sF sc26 46 2 z82).2.2.1 46 2 := sF_get
                  have n26 : (z82).toInt ≤ (u_46_1).toInt := by have a0 := oa7 h2 h1 i34a i34 j26_4 j26_3 i74; have a7 := t_add e73 i60 i72 rfl; have a8 := in_u i72; have a9 := t_sub e72 i42x27 (in_c 48 rfl) rfl; have a10 := oa3 ((in_c 48 rfl)) i42x27 i60; have a13 := (t_mulc 10 (Or.inr e60) j26_4 rfl).1; have a14 := in_u i53; have a15 := t_add e48 j26_3 (in_c 1 rfl) rfl; have a16 := oa2 ((in_c 1 rfl)) i82; have a18 := t_add e82 i34 (in_c 1 rfl) rfl; have oc := ocj_173_46; omega
                  have n26a : (u_46_2).toInt + (x1).toInt ≤ (z82).toInt := by have a0 := oa7 h2 h1 i34a i34 j26_4 j26_3 i74; have a7 := t_add e73 i60 i72 rfl; have a8 := in_u i72; have a9 := t_sub e72 i42x27 (in_c 48 rfl) rfl; have a10 := oa3 ((in_c 48 rfl)) i42x27 i60; have a13 := (t_mulc 10 (Or.inr e60) j26_4 rfl).1; have a14 := in_u i53; have a15 := t_add e48 j26_3 (in_c 1 rfl) rfl; have a16 := oa2 ((in_c 1 rfl)) i82; have a18 := t_add e82 i34 (in_c 1 rfl) rfl; have oc := ocj_173_46; omega
                  have n26b : (z48).toInt ≤ (z82).toInt := by have a0 := oa7 h2 h1 i34a i34 j26_4 j26_3 i74; have a7 := t_add e73 i60 i72 rfl; have a8 := in_u i72; have a9 := t_sub e72 i42x27 (in_c 48 rfl) rfl; have a10 := oa3 ((in_c 48 rfl)) i42x27 i60; have a13 := (t_mulc 10 (Or.inr e60) j26_4 rfl).1; have a14 := in_u i53; have a15 := t_add e48 j26_3 (in_c 1 rfl) rfl; have a16 := oa2 ((in_c 1 rfl)) i82; have a18 := t_add e82 i34 (in_c 1 rfl) rfl; have oc := ocj_173_46; omega
                  have n26c : (z48).toInt = (z82).toInt - (u_46_2).toInt - (x1).toInt := by have a0 := oa7 h2 h1 i34a i34 j26_4 j26_3 i74; have a7 := t_add e73 i60 i72 rfl; have a8 := in_u i72; have a9 := t_sub e72 i42x27 (in_c 48 rfl) rfl; have a10 := oa3 ((in_c 48 rfl)) i42x27 i60; have a13 := (t_mulc 10 (Or.inr e60) j26_4 rfl).1; have a14 := in_u i53; have a15 := t_add e48 j26_3 (in_c 1 rfl) rfl; have a16 := oa2 ((in_c 1 rfl)) i82; have a18 := t_add e82 i34 (in_c 1 rfl) rfl; have oc := ocj_173_46; omega
                  have n26d : 0 ≤ (z73).toInt ∧ ((z48).toInt ≤ (x2).toInt → (z73).toInt < (10 : Int) ^ ((z48).toInt).toNat) ∧ ((x2).toInt < (z48).toInt → (z73).toInt < (10 : Int) ^ ((x2).toInt).toNat) := by have e7 : z73.toInt = y26_4.toInt * 10 + z72.toInt := (by have a0 := oa7 h2 h1 i34a i34 j26_4 j26_3 i74; have a7 := t_add e73 i60 i72 rfl; have a8 := in_u i72; have a9 := t_sub e72 i42x27 (in_c 48 rfl) rfl; have a10 := oa3 ((in_c 48 rfl)) i42x27 i60; have a13 := (t_mulc 10 (Or.inr e60) j26_4 rfl).1; have a14 := in_u i53; have a15 := t_add e48 j26_3 (in_c 1 rfl) rfl; have a16 := oa2 ((in_c 1 rfl)) i82; have a18 := t_add e82 i34 (in_c 1 rfl) rfl; have oc := ocj_173_46; omega); have e8 : z48.toInt = y26_3.toInt + 1 := (by have a0 := oa7 h2 h1 i34a i34 j26_4 j26_3 i74; have a7 := t_add e73 i60 i72 rfl; have a8 := in_u i72; have a9 := t_sub e72 i42x27 (in_c 48 rfl) rfl; have a10 := oa3 ((in_c 48 rfl)) i42x27 i60; have a13 := (t_mulc 10 (Or.inr e60) j26_4 rfl).1; have a14 := in_u i53; have a15 := t_add e48 j26_3 (in_c 1 rfl) rfl; have a16 := oa2 ((in_c 1 rfl)) i82; have a18 := t_add e82 i34 (in_c 1 rfl) rfl; have oc := ocj_173_46; omega); exact ⟨by rw [e7]; exact hq.1, fun _ => by rw [e7, e8]; exact hq.2, fun h => absurd h (by have a0 := oa7 h2 h1 i34a i34 j26_4 j26_3 i74; have a7 := t_add e73 i60 i72 rfl; have a8 := in_u i72; have a9 := t_sub e72 i42x27 (in_c 48 rfl) rfl; have a10 := oa3 ((in_c 48 rfl)) i42x27 i60; have a13 := (t_mulc 10 (Or.inr e60) j26_4 rfl).1; have a14 := in_u i53; have a15 := t_add e48 j26_3 (in_c 1 rfl) rfl; have a16 := oa2 ((in_c 1 rfl)) i82; have a18 := t_add e82 i34 (in_c 1 rfl) rfl; have oc := ocj_173_46; omega)⟩
                  have n26e : (∀ i : Nat, ((s.2.2.1 46 2).toInt + (x1).toInt).toNat ≤ i → (i : Int) < (z82).toInt → tkD (s.1 47 i)) ∧ ((z48).toInt ≤ (x2).toInt → (z73).toInt = tkN (s.1 47) ((s.2.2.1 46 2).toInt + (x1).toInt).toNat (z48).toInt.toNat) := by have ht : z42x13 = s.1 47 w26_46_2.toNatClampNeg := (by rw [e42x13, hFc26.1 47 rfl]); have hw : w26_46_2.toNatClampNeg = w26_46_2.toInt.toNat := rfl; exact ⟨(fun i h1 h2 => by by_cases hc : (i : Int) < w26_46_2.toInt; (exact g26_1.1 i h1 hc); (rw [show i = w26_46_2.toNatClampNeg from (by have a0 := h2; unfold In at a0; have a1 := h1; unfold In at a1; have a2 := oa5 i34a i34 j26_4 j26_3 i74; have a7 := t_add e73 i60 i72 rfl; have a8 := in_u i72; have a9 := t_sub e72 i42x27 (in_c 48 rfl) rfl; have a10 := oa3 ((in_c 48 rfl)) i42x27 i60; have a13 := (t_mulc 10 (Or.inr e60) j26_4 rfl).1; have a14 := in_u i53; have a15 := t_add e48 j26_3 (in_c 1 rfl) rfl; have a16 := oa2 ((in_c 1 rfl)) i82; have a18 := t_add e82 i34 (in_c 1 rfl) rfl; have oc := ocj_173_46; omega), ← ht]; exact ⟨by have a0 := h2; unfold In at a0; have a1 := h1; unfold In at a1; have a2 := oa5 i34a i34 j26_4 j26_3 i74; have a7 := t_add e73 i60 i72 rfl; have a8 := in_u i72; have a9 := t_sub e72 i42x27 (in_c 48 rfl) rfl; have a10 := oa3 ((in_c 48 rfl)) i42x27 i60; have a13 := (t_mulc 10 (Or.inr e60) j26_4 rfl).1; have a14 := in_u i53; have a15 := t_add e48 j26_3 (in_c 1 rfl) rfl; have a16 := oa2 ((in_c 1 rfl)) i82; have a18 := t_add e82 i34 (in_c 1 rfl) rfl; have oc := ocj_173_46; omega, by have a0 := h2; unfold In at a0; have a1 := h1; unfold In at a1; have a2 := oa5 i34a i34 j26_4 j26_3 i74; have a7 := t_add e73 i60 i72 rfl; have a8 := in_u i72; have a9 := t_sub e72 i42x27 (in_c 48 rfl) rfl; have a10 := oa3 ((in_c 48 rfl)) i42x27 i60; have a13 := (t_mulc 10 (Or.inr e60) j26_4 rfl).1; have a14 := in_u i53; have a15 := t_add e48 j26_3 (in_c 1 rfl) rfl; have a16 := oa2 ((in_c 1 rfl)) i82; have a18 := t_add e82 i34 (in_c 1 rfl) rfl; have oc := ocj_173_46; omega⟩)), fun h => by rw [show z48.toInt.toNat = y26_3.toInt.toNat + 1 from (by have a0 := h2; unfold In at a0; have a1 := h1; unfold In at a1; have a2 := oa5 i34a i34 j26_4 j26_3 i74; have a7 := t_add e73 i60 i72 rfl; have a8 := in_u i72; have a9 := t_sub e72 i42x27 (in_c 48 rfl) rfl; have a10 := oa3 ((in_c 48 rfl)) i42x27 i60; have a13 := (t_mulc 10 (Or.inr e60) j26_4 rfl).1; have a14 := in_u i53; have a15 := t_add e48 j26_3 (in_c 1 rfl) rfl; have a16 := oa2 ((in_c 1 rfl)) i82; have a18 := t_add e82 i34 (in_c 1 rfl) rfl; have oc := ocj_173_46; omega)]; show _ = 10 * tkN (s.1 47) ((s.2.2.1 46 2).toInt + (x1).toInt).toNat y26_3.toInt.toNat + ((s.1 47 (((s.2.2.1 46 2).toInt + (x1).toInt).toNat + y26_3.toInt.toNat)).toInt - 48); rw [← g26_1.2 (by have a0 := h2; unfold In at a0; have a1 := h1; unfold In at a1; have a2 := oa5 i34a i34 j26_4 j26_3 i74; have a7 := t_add e73 i60 i72 rfl; have a8 := in_u i72; have a9 := t_sub e72 i42x27 (in_c 48 rfl) rfl; have a10 := oa3 ((in_c 48 rfl)) i42x27 i60; have a13 := (t_mulc 10 (Or.inr e60) j26_4 rfl).1; have a14 := in_u i53; have a15 := t_add e48 j26_3 (in_c 1 rfl) rfl; have a16 := oa2 ((in_c 1 rfl)) i82; have a18 := t_add e82 i34 (in_c 1 rfl) rfl; have oc := ocj_173_46; omega), show ((s.2.2.1 46 2).toInt + (x1).toInt).toNat + y26_3.toInt.toNat = w26_46_2.toNatClampNeg from (by rw [← e_46_2]; have a0 := h2; unfold In at a0; have a1 := h1; unfold In at a1; have a2 := oa5 i34a i34 j26_4 j26_3 i74; have a7 := t_add e73 i60 i72 rfl; have a8 := in_u i72; have a9 := t_sub e72 i42x27 (in_c 48 rfl) rfl; have a10 := oa3 ((in_c 48 rfl)) i42x27 i60; have a13 := (t_mulc 10 (Or.inr e60) j26_4 rfl).1; have a14 := in_u i53; have a15 := t_add e48 j26_3 (in_c 1 rfl) rfl; have a16 := oa2 ((in_c 1 rfl)) i82; have a18 := t_add e82 i34 (in_c 1 rfl) rfl; have oc := ocj_173_46; omega), ← ht]; have a0 := h2; unfold In at a0; have a1 := h1; unfold In at a1; have a2 := oa5 i34a i34 j26_4 j26_3 i74; have a7 := t_add e73 i60 i72 rfl; have a8 := in_u i72; have a9 := t_sub e72 i42x27 (in_c 48 rfl) rfl; have a10 := oa3 ((in_c 48 rfl)) i42x27 i60; have a13 := (t_mulc 10 (Or.inr e60) j26_4 rfl).1; have a14 := in_u i53; have a15 := t_add e48 j26_3 (in_c 1 rfl) rfl; have a16 := oa2 ((in_c 1 rfl)) i82; have a18 := t_add e82 i34 (in_c 1 rfl) rfl; have oc := ocj_173_46; omega⟩
                  have m26 : (u_46_1).toInt - (z82).toInt < ((k26 : Nat) : Int) := by have a0 := oa7 h2 h1 i34a i34 j26_4 j26_3 i74; have a7 := t_add e73 i60 i72 rfl; have a8 := in_u i72; have a9 := t_sub e72 i42x27 (in_c 48 rfl) rfl; have a10 := oa3 ((in_c 48 rfl)) i42x27 i60; have a13 := (t_mulc 10 (Or.inr e60) j26_4 rfl).1; have a14 := in_u i53; have a15 := t_add e48 j26_3 (in_c 1 rfl) rfl; have a16 := oa2 ((in_c 1 rfl)) i82; have a18 := t_add e82 i34 (in_c 1 rfl) rfl; have oc := ocj_173_46; omega
                  exact gg_w (by first | exact Nat.le_add_right _ _ | exact gw2 | exact gw3 | exact gwe rfl | exact gwf rfl | exact gwg rfl | exact gwh rfl | omega) (gg_f (gf_cons rfl (gf_cons rfl (gf_cons rfl (gf_cons rfl (gf_cons rfl gf_nil))))) (ih26  (sF sc26 46 2 z82) z48 z73 z82 hI83 (fr_sF rfl hFc26) (in_w 0 1000 i53 rfl) (in_w 0 9999999 i74 rfl) v26 n26 n26a n26b n26c n26d n26e m26))
  refine g_enter2 (k := 173) (N := 901801) (by first | exact dq1 hd rfl | exact dq0 hd rfl | exact dq2 hd rfl | exact dq3 hd rfl | omega) rfl (Nat.le_of_ble_eq_true rfl) ?_
  refine g_iconst 0 1 (gd rfl) rfl rfl ?_
  refine g_istore_n 2 (gd rfl) rfl (Nat.le_of_ble_eq_true rfl) ?_
  refine g_iconst 0 3 (gd rfl) rfl rfl ?_
  refine g_istore 5 (gd rfl) rfl (Nat.le_of_ble_eq_true rfl) ?_
  refine g_aload_n 6 (gd rfl) rfl rfl ?_
  refine g_iload_n 7 (gd rfl) rfl rfl ?_
  refine g_if_eq 10 19 (gd rfl) rfl rfl (fun c7 => ?_) (fun c7 => ?_)
  · skip
    refine g_aload_n 20 (gd rfl) rfl rfl ?_
    refine g_getI 23 (gd rfl) rfl rfl rfl (fun z20 e20 => ?_)
    have q20 : u_46_2 = z20 := (e_46_2).trans e20.symm
    subst q20
    refine g_putI 26 (gd rfl) rfl rfl rfl rfl ?_
    have hI23 := inv_sF (q := 46) (j := 2) hI rfl (in_w 0 1000 (inv_F hI 0 1000 rfl e_46_2) rfl)
    have v26 : u_46_2 = (sF s 46 2 u_46_2).2.2.1 46 2 := sF_get
    have n26 : (u_46_2).toInt ≤ (u_46_1).toInt := by have a0 := oa5 ((inv_F hI 0 1000 rfl e_46_1)) ((inv_F hI 0 1000 rfl e_46_2)) h2 h1 ((in_c 0 rfl)); have oc := ocj_173_46; omega
    have n26a : (u_46_2).toInt + (x1).toInt ≤ (u_46_2).toInt := by have a0 := oa5 ((inv_F hI 0 1000 rfl e_46_1)) ((inv_F hI 0 1000 rfl e_46_2)) h2 h1 ((in_c 0 rfl)); have oc := ocj_173_46; omega
    have n26b : ((Int32.ofInt 0)).toInt ≤ (u_46_2).toInt := by have a0 := oa5 ((inv_F hI 0 1000 rfl e_46_1)) ((inv_F hI 0 1000 rfl e_46_2)) h2 h1 ((in_c 0 rfl)); have oc := ocj_173_46; omega
    have n26c : ((Int32.ofInt 0)).toInt = (u_46_2).toInt - (u_46_2).toInt - (x1).toInt := by have a0 := oa5 ((inv_F hI 0 1000 rfl e_46_1)) ((inv_F hI 0 1000 rfl e_46_2)) h2 h1 ((in_c 0 rfl)); have oc := ocj_173_46; omega
    have n26d : 0 ≤ ((Int32.ofInt 0)).toInt ∧ (((Int32.ofInt 0)).toInt ≤ (x2).toInt → ((Int32.ofInt 0)).toInt < (10 : Int) ^ (((Int32.ofInt 0)).toInt).toNat) ∧ ((x2).toInt < ((Int32.ofInt 0)).toInt → ((Int32.ofInt 0)).toInt < (10 : Int) ^ ((x2).toInt).toNat) := by exact ⟨by decide, fun _ => by decide, fun h => absurd h (by have h9 : (Int32.ofInt 0).toInt = 0 := rfl; have a0 := oa5 ((inv_F hI 0 1000 rfl e_46_1)) ((inv_F hI 0 1000 rfl e_46_2)) h2 h1 ((in_c 0 rfl)); have oc := ocj_173_46; omega)⟩
    have n26e : (∀ i : Nat, ((s.2.2.1 46 2).toInt + (x1).toInt).toNat ≤ i → (i : Int) < (u_46_2).toInt → tkD (s.1 47 i)) ∧ (((Int32.ofInt 0)).toInt ≤ (x2).toInt → ((Int32.ofInt 0)).toInt = tkN (s.1 47) ((s.2.2.1 46 2).toInt + (x1).toInt).toNat ((Int32.ofInt 0)).toInt.toNat) := by exact ⟨fun i a b => by exfalso; rw [← e_46_2] at a; have a0 := oa5 ((inv_F hI 0 1000 rfl e_46_1)) ((inv_F hI 0 1000 rfl e_46_2)) h2 h1 ((in_c 0 rfl)); have oc := ocj_173_46; omega, fun _ => rfl⟩
    have m26 : (u_46_1).toInt - (u_46_2).toInt < ((1001 : Nat) : Int) := by have a0 := oa5 ((inv_F hI 0 1000 rfl e_46_1)) ((inv_F hI 0 1000 rfl e_46_2)) h2 h1 ((in_c 0 rfl)); have oc := ocj_173_46; omega
    exact gg_w (by first | exact Nat.le_of_ble_eq_true rfl | omega) (gg_f (gf_cons rfl (gf_cons rfl (gf_cons rfl (gf_cons rfl (gf_cons rfl gf_nil))))) (ct26 1001 (sF s 46 2 u_46_2) (Int32.ofInt 0) (Int32.ofInt 0) u_46_2 hI23 (fr_sF rfl fr_rf) (in_w 0 1000 (in_c 0 rfl) rfl) (in_w 0 9999999 (in_c 0 rfl) rfl) v26 n26 n26a n26b n26c n26d n26e m26))
  · skip
    exact zn_ne c7 h1 rfl
end
