/-! methods, by vc.py -/
/-- GraphHouseModel.isFirstSort -/
theorem k_359 {Z : AmZ} {A : Nat → Nat} {s : GS} {ex : va_W} {d : Nat} {X : AmX} {x1 : Int32} (hd : 1 ≤ d) (hI : Inv s) (h1 : In x1 0 31) : GC Z d 359 [.ref (A 109), .int x1] (WW Z A s ++ ex) 0 0 (fun v u => ∃ z : Int32, v = some (.int z) ∧ u = WW Z A s ++ ex ∧ In z 0 1 ∧ (((z).toInt ≠ 0 ↔ FSQ s (x1).toNatClampNeg))) X := by
  intro post xp hP hX
  obtain ⟨u_109_18, e_109_18⟩ : ∃ w, w = s.2.2.1 109 18 := ⟨_, rfl⟩
  have ro_109_18 := inv_F hI 0 1 rfl e_109_18
  refine g_enter2 (k := 359) (N := 900) (by omega) rfl (Nat.le_of_ble_eq_true rfl) ?_
  refine g_aload_n 1 (gd rfl) rfl rfl ?_
  refine g_getA (q2 := 111) 4 (gd rfl) rfl rfl rfl rfl ?_
  refine g_bipush 32 6 (gd rfl) rfl rfl ?_
  refine g_aload_n 7 (gd rfl) rfl rfl ?_
  refine g_getI 10 (gd rfl) rfl rfl rfl (fun z7 e7 => ?_)
  have q7 : u_109_18 = z7 := (e_109_18).trans e7.symm
  subst q7
  refine g_imul 11 (gd rfl) rfl (fun z10 e10 => ?_)
  have i10 := in_mulc 32 0 32 (Or.inl e10) ro_109_18 rfl rfl
  refine g_iload_n 12 (gd rfl) rfl rfl ?_
  refine g_iadd 13 (gd rfl) rfl (fun z12 e12 => ?_)
  have i12 := in_add 0 63 e12 i10 h1 rfl rfl
  refine g_iaload 14 (gd rfl) rfl (n := 96) rfl (in_ix i12 rfl) (fun z13 e13 => ?_)
  have i13 := inv_I hI (n := 96) (t := 0) 0 25 rfl (in_ix i12 rfl) rfl e13
  refine g_bipush 13 16 (gd rfl) rfl rfl ?_
  refine g_cmp_ge 19 23 (gd rfl) rfl rfl (fun c16 => ?_) (fun c16 => ?_)
  · skip
    have i16 := r_le2 13 25 c16 (in_c 13 rfl) i13 rfl
    refine g_iconst 0 24 (gd rfl) rfl rfl ?_
    have n24 : (((Int32.ofInt 0)).toInt ≠ 0 ↔ FSQ s (x1).toNatClampNeg) := by have hx : 32 * (s.2.2.1 109 18).toNatClampNeg + x1.toNatClampNeg = z12.toNatClampNeg := (by rw [← (show u_109_18 = s.2.2.1 109 18 from e_109_18)]; show 32 * u_109_18.toInt.toNat + x1.toInt.toNat = z12.toInt.toNat; have a0 := ro_109_18; unfold In at a0; have a1 := h1; unfold In at a1; have a2 := i12; unfold In at a2; have a3 := t_add e12 i10 h1 rfl; have a4 := i10; unfold In at a4; have a5 := (t_mulc 32 (Or.inl e10) ro_109_18 rfl).1; omega); unfold FSQ; rw [hx, ← e13]; have h13 : (Int32.ofInt 13).toInt = 13 := rfl; have h := c16; first | exact ⟨fun _ => by omega, fun _ => by decide⟩ | exact ⟨fun q => absurd (by decide) q, fun q => by omega⟩
    exact g_ireturn (gd rfl) rfl (nb01 (in_w 0 1 (in_c 0 rfl) rfl)) (hP _ _ ⟨(Int32.ofInt 0), rfl, rfl, in_w 0 1 (in_c 0 rfl) rfl, n24⟩)
  · skip
    have i16 := r_lt1 0 12 c16 i13 (in_c 13 rfl) rfl
    refine g_iconst 1 20 (gd rfl) rfl rfl ?_
    refine g_goto 24 (gd rfl) rfl ?_
    have n24 : (((Int32.ofInt 1)).toInt ≠ 0 ↔ FSQ s (x1).toNatClampNeg) := by have hx : 32 * (s.2.2.1 109 18).toNatClampNeg + x1.toNatClampNeg = z12.toNatClampNeg := (by rw [← (show u_109_18 = s.2.2.1 109 18 from e_109_18)]; show 32 * u_109_18.toInt.toNat + x1.toInt.toNat = z12.toInt.toNat; have a0 := ro_109_18; unfold In at a0; have a1 := h1; unfold In at a1; have a2 := i12; unfold In at a2; have a3 := t_add e12 i10 h1 rfl; have a4 := i10; unfold In at a4; have a5 := (t_mulc 32 (Or.inl e10) ro_109_18 rfl).1; omega); unfold FSQ; rw [hx, ← e13]; have h13 : (Int32.ofInt 13).toInt = 13 := rfl; have h := c16; first | exact ⟨fun _ => by omega, fun _ => by decide⟩ | exact ⟨fun q => absurd (by decide) q, fun q => by omega⟩
    exact g_ireturn (gd rfl) rfl (nb01 (in_w 0 1 (in_c 1 rfl) rfl)) (hP _ _ ⟨(Int32.ofInt 1), rfl, rfl, in_w 0 1 (in_c 1 rfl) rfl, n24⟩)

def fm_361 : FM := ([148], [149], [], [])
/-- GraphHouseModel.cheapestPair -/
theorem k_361 {Z : AmZ} {A : Nat → Nat} {s : GS} {ex : va_W} {d : Nat} {X : AmX}  (hd : 2 ≤ d) (hI : Inv s) (q_0 : PP s) : GC Z d 361 [.ref (A 109)] (WW Z A s ++ ex) 0 0 (fun v u => ∃ t : GS, Inv t ∧ Fr fm_361 s t ∧ ∃ z : Int32, v = some (.int z) ∧ u = WW Z A t ++ ex ∧ In z (-1) 31 ∧ (∃ n, n ≤ 32 ∧ FLP t (z).toInt n) ∧ (0 ≤ (z).toInt → (t.1 151 (z).toNatClampNeg).toInt < 0)) X := by
  intro post xp hP hX
  obtain ⟨u_109_20, e_109_20⟩ : ∃ w, w = s.2.2.1 109 20 := ⟨_, rfl⟩
  have ro_109_20 := inv_F hI 0 32 rfl e_109_20
  have ct233 : ∀ (k233 : Nat) (sc233 : GS) (y233_1 : Int32) (y233_2 : Int32) (y233_3 : Int32), Inv sc233 → Fr fm_361 s sc233 → (In y233_1 0 0) → (In y233_2 (-1) 31) → (In y233_3 0 32) → (CIP s sc233) → (CLP s sc233 1024) → ((y233_2).toInt < 0 ∨ (In (y233_2) 0 31 ∧ (y233_2).toInt < nnq s ∧ ¬ FSQ s (y233_2).toNatClampNeg ∧ (s.1 151 (y233_2).toNatClampNeg).toInt < 0 ∧ (sc233.2.1 149 (y233_2).toNatClampNeg).toInt < 9000000000000000)) → 32 - (y233_3).toInt < (k233 : Int) → GG Z (d - 1) 361 post (gx xp) (1 + k233 * 900) 233 (fun j => xlook j [(0, .ref (A 109)), (1, .int y233_1), (2, .int y233_2), (3, .int y233_3)]) [] (WW Z A sc233 ++ ex) 0 0 := by
    intro k233
    induction k233 with
    | zero => intro sc233 y233_1 y233_2 y233_3 hIc233 hFc233 j233_1 j233_2 j233_3 g233_0 g233_1 g233_2 mm233; exact m_no mm233 j233_3 rfl
    | succ k233 ih233 =>
      intro sc233 y233_1 y233_2 y233_3 hIc233 hFc233 j233_1 j233_2 j233_3 g233_0 g233_1 g233_2 mm233
      refine gg_w (M := 1 + k233 * 900 + 900) (by omega) ?_
      refine g_iload_n 234 (gd rfl) rfl rfl ?_
      refine g_aload_n 235 (gd rfl) rfl rfl ?_
      refine g_getI 238 (gd rfl) rfl rfl rfl (fun z235 e235 => ?_)
      have q235 : u_109_20 = z235 := (fr_F e_109_20 hFc233 rfl).trans e235.symm
      subst q235
      refine g_cmp_ge 241 315 (gd rfl) rfl rfl (fun c238 => ?_) (fun c238 => ?_)
      · skip
        refine g_iload_n 316 (gd rfl) rfl rfl ?_
        have n316 : ∃ n, n ≤ 32 ∧ FLP sc233 (y233_2).toInt n := by exact flp_0 q_0 (hFc233.1 111 rfl) (hFc233.1 151 rfl) (hFc233.2.1 152 rfl) (hFc233.2.2.1 109 18 rfl) (hFc233.2.2.1 109 20 rfl) g233_0 g233_1 g233_2
        have n316a : 0 ≤ (y233_2).toInt → (sc233.1 151 (y233_2).toNatClampNeg).toInt < 0 := by intro h0; rcases g233_2 with h | h; (exfalso; omega); (rw [hFc233.1 151 rfl]; exact h.2.2.2.1)
        exact g_ireturn (gd rfl) rfl rfl (hP _ _ ⟨sc233, hIc233, hFc233, y233_2, rfl, rfl, in_w (-1) 31 j233_2 rfl, n316, n316a⟩)
      · skip
        have i238 := r_lt1 0 31 c238 j233_3 ro_109_20 rfl
        have i238a := r_lt2 1 32 c238 j233_3 ro_109_20 rfl
        refine g_aload_n 242 (gd rfl) rfl rfl ?_
        refine g_iload_n 243 (gd rfl) rfl rfl ?_
        refine g_callv (X := _) (As := [.int y233_3]) (r := []) (b := A 109) (q := 109) 246 (gd rfl) rfl rfl rfl rfl rfl (ww_o rfl) (Nat.le_of_ble_eq_true rfl) (Nat.zero_le _) (Nat.zero_le _) (k_359 (by omega) hIc233 (in_w 0 31 i238 rfl)) (fun e u h => h) (fun v u h => ?_)
        obtain ⟨z243, rfl, rfl, i243, p243⟩ := h
        show GG _ _ _ _ _ _ _ _ [.int z243] _ _ _
        refine g_if_ne 249 275 (gd rfl) rfl rfl (fun c246 => ?_) (fun c246 => ?_)
        · skip
          have i246 := z_ne 1 1 c246 i243 rfl
          refine g_iconst 0 276 (gd rfl) rfl rfl ?_
          refine g_istore 278 (gd rfl) rfl (Nat.le_of_ble_eq_true rfl) ?_
          refine g_iload 280 (gd rfl) rfl rfl ?_
          refine g_if_eq 283 307 (gd rfl) rfl rfl (fun c280 => ?_) (fun c280 => ?_)
          · skip
            refine g_iload_n 308 (gd rfl) rfl rfl ?_
            refine g_istore_n 309 (gd rfl) rfl (Nat.le_of_ble_eq_true rfl) ?_
            refine g_iinc 312 (gd rfl) rfl rfl (Nat.le_of_ble_eq_true rfl) (fun z309 e309 => ?_)
            have i309 := in_add 1 32 e309 i238 (in_c 1 rfl) rfl rfl
            refine g_goto 233 (gd rfl) rfl ?_
            have n233 : CIP s sc233 := by first | exact g55_0 | exact g233_0
            have n233a : CLP s sc233 1024 := by first | exact g233_1 | exact g55_1 c56
            have n233b : (y233_2).toInt < 0 ∨ (In (y233_2) 0 31 ∧ (y233_2).toInt < nnq s ∧ ¬ FSQ s (y233_2).toNatClampNeg ∧ (s.1 151 (y233_2).toNatClampNeg).toInt < 0 ∧ (sc233.2.1 149 (y233_2).toNatClampNeg).toInt < 9000000000000000) := by first | exact g233_2 | exact Or.inl (by decide) | exact Or.inr ⟨i238, by unfold nnq; rw [← e_109_20]; have a0 := i238a; unfold In at a0; have a1 := i238; unfold In at a1; have a2 := j233_2; unfold In at a2; have a3 := j233_1; unfold In at a3; have a4 := (in_c 0 rfl); unfold In at a4; have a5 := i309; unfold In at a5; have a6 := t_add e309 i238 (in_c 1 rfl) rfl; have a7 := (in_c 1 rfl); unfold In at a7; omega, fun h => absurd (p243.mpr ((fs_cg (hFc233.1 111 rfl) (hFc233.2.2.1 109 18 rfl)).mpr h)) (by have h2 := c246; omega), by rw [← hFc233.1 151 rfl, ← e254]; exact c255, by rw [← e263]; have h := i268a.2; omega⟩
            exact gg_w (by omega) (gg_f (gf_cons rfl (gf_cons rfl (gf_cons rfl (gf_cons rfl gf_nil)))) (ih233 sc233 y233_1 y233_2 z309 hIc233 hFc233 (in_w 0 0 j233_1 rfl) (in_w (-1) 31 j233_2 rfl) (in_w 0 32 i309 rfl) n233 n233a n233b (m_up mm233 (t_add e309 i238 (in_c 1 rfl) rfl) (in_w 1 1 (in_c 1 rfl) rfl))))
          · skip
            exact zn_ne c280 (in_c 0 rfl) rfl
        · skip
          have i246 := z_eq 0 0 c246 i243 rfl
          refine g_aload_n 250 (gd rfl) rfl rfl ?_
          refine g_getA (q2 := 151) 253 (gd rfl) rfl rfl rfl rfl ?_
          refine g_iload_n 254 (gd rfl) rfl rfl ?_
          refine g_iaload 255 (gd rfl) rfl (n := 32) rfl (in_ix i238 rfl) (fun z254 e254 => ?_)
          have i254 := inv_I hIc233 (n := 32) (t := 0) (-1) 31 rfl (in_ix i238 rfl) rfl e254
          refine g_if_ge 258 275 (gd rfl) rfl rfl (fun c255 => ?_) (fun c255 => ?_)
          · skip
            have i255 := z_ge 0 31 c255 i254 rfl
            refine g_iconst 0 276 (gd rfl) rfl rfl ?_
            refine g_istore 278 (gd rfl) rfl (Nat.le_of_ble_eq_true rfl) ?_
            refine g_iload 280 (gd rfl) rfl rfl ?_
            refine g_if_eq 283 307 (gd rfl) rfl rfl (fun c280 => ?_) (fun c280 => ?_)
            · skip
              refine g_iload_n 308 (gd rfl) rfl rfl ?_
              refine g_istore_n 309 (gd rfl) rfl (Nat.le_of_ble_eq_true rfl) ?_
              refine g_iinc 312 (gd rfl) rfl rfl (Nat.le_of_ble_eq_true rfl) (fun z309 e309 => ?_)
              have i309 := in_add 1 32 e309 i238 (in_c 1 rfl) rfl rfl
              refine g_goto 233 (gd rfl) rfl ?_
              have n233 : CIP s sc233 := by first | exact g55_0 | exact g233_0
              have n233a : CLP s sc233 1024 := by first | exact g233_1 | exact g55_1 c56
              have n233b : (y233_2).toInt < 0 ∨ (In (y233_2) 0 31 ∧ (y233_2).toInt < nnq s ∧ ¬ FSQ s (y233_2).toNatClampNeg ∧ (s.1 151 (y233_2).toNatClampNeg).toInt < 0 ∧ (sc233.2.1 149 (y233_2).toNatClampNeg).toInt < 9000000000000000) := by first | exact g233_2 | exact Or.inl (by decide) | exact Or.inr ⟨i238, by unfold nnq; rw [← e_109_20]; have a0 := i238a; unfold In at a0; have a1 := i238; unfold In at a1; have a2 := j233_2; unfold In at a2; have a3 := j233_1; unfold In at a3; have a4 := (in_c 0 rfl); unfold In at a4; have a5 := i309; unfold In at a5; have a6 := t_add e309 i238 (in_c 1 rfl) rfl; have a7 := (in_c 1 rfl); unfold In at a7; omega, fun h => absurd (p243.mpr ((fs_cg (hFc233.1 111 rfl) (hFc233.2.2.1 109 18 rfl)).mpr h)) (by have h2 := c246; omega), by rw [← hFc233.1 151 rfl, ← e254]; exact c255, by rw [← e263]; have h := i268a.2; omega⟩
              exact gg_w (by omega) (gg_f (gf_cons rfl (gf_cons rfl (gf_cons rfl (gf_cons rfl gf_nil)))) (ih233 sc233 y233_1 y233_2 z309 hIc233 hFc233 (in_w 0 0 j233_1 rfl) (in_w (-1) 31 j233_2 rfl) (in_w 0 32 i309 rfl) n233 n233a n233b (m_up mm233 (t_add e309 i238 (in_c 1 rfl) rfl) (in_w 1 1 (in_c 1 rfl) rfl))))
            · skip
              exact zn_ne c280 (in_c 0 rfl) rfl
          · skip
            have i255 := z_lt (-1) (-1) c255 i254 rfl
            refine g_aload_n 259 (gd rfl) rfl rfl ?_
            refine g_getA (q2 := 149) 262 (gd rfl) rfl rfl rfl rfl ?_
            refine g_iload_n 263 (gd rfl) rfl rfl ?_
            refine g_laload 264 (gd rfl) rfl (n := 34) rfl (in_ix i238 rfl) (fun z263 e263 => ?_)
            refine g_ldc2_w 9000000000000000 267 (gd rfl) rfl rfl ?_
            refine g_lcmp 268 (gd rfl) rfl (fun z267 e267 => ?_)
            have i267 := lc_in e267
            refine g_if_ge 271 275 (gd rfl) rfl rfl (fun c268 => ?_) (fun c268 => ?_)
            · skip
              have i268 := z_ge 0 1 c268 i267 rfl
              have c268a := lc_ge e267 c268
              have i268a := lr_le2 9000000000000000 9223372036854775807 c268a (l_c 9000000000000000 rfl) (l_rng z263) rfl
              refine g_iconst 0 276 (gd rfl) rfl rfl ?_
              refine g_istore 278 (gd rfl) rfl (Nat.le_of_ble_eq_true rfl) ?_
              refine g_iload 280 (gd rfl) rfl rfl ?_
              refine g_if_eq 283 307 (gd rfl) rfl rfl (fun c280 => ?_) (fun c280 => ?_)
              · skip
                refine g_iload_n 308 (gd rfl) rfl rfl ?_
                refine g_istore_n 309 (gd rfl) rfl (Nat.le_of_ble_eq_true rfl) ?_
                refine g_iinc 312 (gd rfl) rfl rfl (Nat.le_of_ble_eq_true rfl) (fun z309 e309 => ?_)
                have i309 := in_add 1 32 e309 i238 (in_c 1 rfl) rfl rfl
                refine g_goto 233 (gd rfl) rfl ?_
                have n233 : CIP s sc233 := by first | exact g55_0 | exact g233_0
                have n233a : CLP s sc233 1024 := by first | exact g233_1 | exact g55_1 c56
                have n233b : (y233_2).toInt < 0 ∨ (In (y233_2) 0 31 ∧ (y233_2).toInt < nnq s ∧ ¬ FSQ s (y233_2).toNatClampNeg ∧ (s.1 151 (y233_2).toNatClampNeg).toInt < 0 ∧ (sc233.2.1 149 (y233_2).toNatClampNeg).toInt < 9000000000000000) := by first | exact g233_2 | exact Or.inl (by decide) | exact Or.inr ⟨i238, by unfold nnq; rw [← e_109_20]; have a0 := i238a; unfold In at a0; have a1 := i238; unfold In at a1; have a2 := j233_2; unfold In at a2; have a3 := j233_1; unfold In at a3; have a4 := (in_c 0 rfl); unfold In at a4; have a5 := i309; unfold In at a5; have a6 := t_add e309 i238 (in_c 1 rfl) rfl; have a7 := (in_c 1 rfl); unfold In at a7; omega, fun h => absurd (p243.mpr ((fs_cg (hFc233.1 111 rfl) (hFc233.2.2.1 109 18 rfl)).mpr h)) (by have h2 := c246; omega), by rw [← hFc233.1 151 rfl, ← e254]; exact c255, by rw [← e263]; have h := i268a.2; omega⟩
                exact gg_w (by omega) (gg_f (gf_cons rfl (gf_cons rfl (gf_cons rfl (gf_cons rfl gf_nil)))) (ih233 sc233 y233_1 y233_2 z309 hIc233 hFc233 (in_w 0 0 j233_1 rfl) (in_w (-1) 31 j233_2 rfl) (in_w 0 32 i309 rfl) n233 n233a n233b (m_up mm233 (t_add e309 i238 (in_c 1 rfl) rfl) (in_w 1 1 (in_c 1 rfl) rfl))))
              · skip
                exact zn_ne c280 (in_c 0 rfl) rfl
            · skip
              have i268 := z_lt (-1) (-1) c268 i267 rfl
              have c268a := lc_lt e267 c268
              have i268a := lr_lt1 (-9223372036854775808) 8999999999999999 c268a (l_rng z263) (l_c 9000000000000000 rfl) rfl
              refine g_iconst 1 272 (gd rfl) rfl rfl ?_
              refine g_goto 276 (gd rfl) rfl ?_
              refine g_istore 278 (gd rfl) rfl (Nat.le_of_ble_eq_true rfl) ?_
              refine g_iload 280 (gd rfl) rfl rfl ?_
              refine g_if_eq 283 307 (gd rfl) rfl rfl (fun c280 => ?_) (fun c280 => ?_)
              · skip
                exact zn_eq c280 (in_c 1 rfl) rfl
              · skip
                refine g_iload_n 284 (gd rfl) rfl rfl ?_
                refine g_if_lt 287 303 (gd rfl) rfl rfl (fun c284 => ?_) (fun c284 => ?_)
                · skip
                  have i284 := z_lt (-1) (-1) c284 j233_2 rfl
                  refine g_iload_n 304 (gd rfl) rfl rfl ?_
                  refine g_goto 308 (gd rfl) rfl ?_
                  refine g_istore_n 309 (gd rfl) rfl (Nat.le_of_ble_eq_true rfl) ?_
                  refine g_iinc 312 (gd rfl) rfl rfl (Nat.le_of_ble_eq_true rfl) (fun z309 e309 => ?_)
                  have i309 := in_add 1 32 e309 i238 (in_c 1 rfl) rfl rfl
                  refine g_goto 233 (gd rfl) rfl ?_
                  have n233 : CIP s sc233 := by first | exact g55_0 | exact g233_0
                  have n233a : CLP s sc233 1024 := by first | exact g233_1 | exact g55_1 c56
                  have n233b : (y233_3).toInt < 0 ∨ (In (y233_3) 0 31 ∧ (y233_3).toInt < nnq s ∧ ¬ FSQ s (y233_3).toNatClampNeg ∧ (s.1 151 (y233_3).toNatClampNeg).toInt < 0 ∧ (sc233.2.1 149 (y233_3).toNatClampNeg).toInt < 9000000000000000) := by first | exact g233_2 | exact Or.inl (by decide) | exact Or.inr ⟨i238, by unfold nnq; rw [← e_109_20]; have a0 := i238a; unfold In at a0; have a1 := i238; unfold In at a1; have a2 := i284; unfold In at a2; have a3 := j233_1; unfold In at a3; have a4 := (in_c 1 rfl); unfold In at a4; have a5 := i309; unfold In at a5; have a6 := t_add e309 i238 (in_c 1 rfl) rfl; omega, fun h => absurd (p243.mpr ((fs_cg (hFc233.1 111 rfl) (hFc233.2.2.1 109 18 rfl)).mpr h)) (by have h2 := c246; omega), by rw [← hFc233.1 151 rfl, ← e254]; exact c255, by rw [← e263]; have h := i268a.2; omega⟩
                  exact gg_w (by omega) (gg_f (gf_cons rfl (gf_cons rfl (gf_cons rfl (gf_cons rfl gf_nil)))) (ih233 sc233 y233_1 y233_3 z309 hIc233 hFc233 (in_w 0 0 j233_1 rfl) (in_w (-1) 31 i238 rfl) (in_w 0 32 i309 rfl) n233 n233a n233b (m_up mm233 (t_add e309 i238 (in_c 1 rfl) rfl) (in_w 1 1 (in_c 1 rfl) rfl))))
                · skip
                  have i284 := z_ge 0 31 c284 j233_2 rfl
                  refine g_aload_n 288 (gd rfl) rfl rfl ?_
                  refine g_getA (q2 := 149) 291 (gd rfl) rfl rfl rfl rfl ?_
                  refine g_iload_n 292 (gd rfl) rfl rfl ?_
                  refine g_laload 293 (gd rfl) rfl (n := 34) rfl (in_ix i238 rfl) (fun z292 e292 => ?_)
                  refine g_aload_n 294 (gd rfl) rfl rfl ?_
                  refine g_getA (q2 := 149) 297 (gd rfl) rfl rfl rfl rfl ?_
                  refine g_iload_n 298 (gd rfl) rfl rfl ?_
                  refine g_laload 299 (gd rfl) rfl (n := 34) rfl (in_ix i284 rfl) (fun z298 e298 => ?_)
                  refine g_lcmp 300 (gd rfl) rfl (fun z299 e299 => ?_)
                  have i299 := lc_in e299
                  refine g_if_ge 303 307 (gd rfl) rfl rfl (fun c300 => ?_) (fun c300 => ?_)
                  · skip
                    have i300 := z_ge 0 1 c300 i299 rfl
                    have c300a := lc_ge e299 c300
                    refine g_iload_n 308 (gd rfl) rfl rfl ?_
                    refine g_istore_n 309 (gd rfl) rfl (Nat.le_of_ble_eq_true rfl) ?_
                    refine g_iinc 312 (gd rfl) rfl rfl (Nat.le_of_ble_eq_true rfl) (fun z309 e309 => ?_)
                    have i309 := in_add 1 32 e309 i238 (in_c 1 rfl) rfl rfl
                    refine g_goto 233 (gd rfl) rfl ?_
                    have n233 : CIP s sc233 := by first | exact g55_0 | exact g233_0
                    have n233a : CLP s sc233 1024 := by first | exact g233_1 | exact g55_1 c56
                    have n233b : (y233_2).toInt < 0 ∨ (In (y233_2) 0 31 ∧ (y233_2).toInt < nnq s ∧ ¬ FSQ s (y233_2).toNatClampNeg ∧ (s.1 151 (y233_2).toNatClampNeg).toInt < 0 ∧ (sc233.2.1 149 (y233_2).toNatClampNeg).toInt < 9000000000000000) := by first | exact g233_2 | exact Or.inl (by decide) | exact Or.inr ⟨i238, by unfold nnq; rw [← e_109_20]; have a0 := i238a; unfold In at a0; have a1 := i238; unfold In at a1; have a2 := i284; unfold In at a2; have a3 := j233_1; unfold In at a3; have a4 := (in_c 1 rfl); unfold In at a4; have a5 := i309; unfold In at a5; have a6 := t_add e309 i238 (in_c 1 rfl) rfl; omega, fun h => absurd (p243.mpr ((fs_cg (hFc233.1 111 rfl) (hFc233.2.2.1 109 18 rfl)).mpr h)) (by have h2 := c246; omega), by rw [← hFc233.1 151 rfl, ← e254]; exact c255, by rw [← e263]; have h := i268a.2; omega⟩
                    exact gg_w (by omega) (gg_f (gf_cons rfl (gf_cons rfl (gf_cons rfl (gf_cons rfl gf_nil)))) (ih233 sc233 y233_1 y233_2 z309 hIc233 hFc233 (in_w 0 0 j233_1 rfl) (in_w (-1) 31 i284 rfl) (in_w 0 32 i309 rfl) n233 n233a n233b (m_up mm233 (t_add e309 i238 (in_c 1 rfl) rfl) (in_w 1 1 (in_c 1 rfl) rfl))))
                  · skip
                    have i300 := z_lt (-1) (-1) c300 i299 rfl
                    have c300a := lc_lt e299 c300
                    have i300a := lr_lt1 (-9223372036854775808) 9223372036854775806 c300a (l_rng z292) (l_rng z298) rfl
                    have i300b := lr_lt2 (-9223372036854775807) 9223372036854775807 c300a (l_rng z292) (l_rng z298) rfl
                    refine g_iload_n 304 (gd rfl) rfl rfl ?_
                    refine g_goto 308 (gd rfl) rfl ?_
                    refine g_istore_n 309 (gd rfl) rfl (Nat.le_of_ble_eq_true rfl) ?_
                    refine g_iinc 312 (gd rfl) rfl rfl (Nat.le_of_ble_eq_true rfl) (fun z309 e309 => ?_)
                    have i309 := in_add 1 32 e309 i238 (in_c 1 rfl) rfl rfl
                    refine g_goto 233 (gd rfl) rfl ?_
                    have n233 : CIP s sc233 := by first | exact g55_0 | exact g233_0
                    have n233a : CLP s sc233 1024 := by first | exact g233_1 | exact g55_1 c56
                    have n233b : (y233_3).toInt < 0 ∨ (In (y233_3) 0 31 ∧ (y233_3).toInt < nnq s ∧ ¬ FSQ s (y233_3).toNatClampNeg ∧ (s.1 151 (y233_3).toNatClampNeg).toInt < 0 ∧ (sc233.2.1 149 (y233_3).toNatClampNeg).toInt < 9000000000000000) := by first | exact g233_2 | exact Or.inl (by decide) | exact Or.inr ⟨i238, by unfold nnq; rw [← e_109_20]; have a0 := i238a; unfold In at a0; have a1 := i238; unfold In at a1; have a2 := i284; unfold In at a2; have a3 := j233_1; unfold In at a3; have a4 := (in_c 1 rfl); unfold In at a4; have a5 := i309; unfold In at a5; have a6 := t_add e309 i238 (in_c 1 rfl) rfl; omega, fun h => absurd (p243.mpr ((fs_cg (hFc233.1 111 rfl) (hFc233.2.2.1 109 18 rfl)).mpr h)) (by have h2 := c246; omega), by rw [← hFc233.1 151 rfl, ← e254]; exact c255, by rw [← e263]; have h := i268a.2; omega⟩
                    exact gg_w (by omega) (gg_f (gf_cons rfl (gf_cons rfl (gf_cons rfl (gf_cons rfl gf_nil)))) (ih233 sc233 y233_1 y233_3 z309 hIc233 hFc233 (in_w 0 0 j233_1 rfl) (in_w (-1) 31 i238 rfl) (in_w 0 32 i309 rfl) n233 n233a n233b (m_up mm233 (t_add e309 i238 (in_c 1 rfl) rfl) (in_w 1 1 (in_c 1 rfl) rfl))))
  have ct55 : ∀ (k55 : Nat) (sc55 : GS) (y55_1 : Int32), Inv sc55 → Fr fm_361 s sc55 → (In y55_1 0 1) → (CIP s sc55) → ((y55_1).toInt = 0 → CLP s sc55 1024) → 2 * mqp s sc55 + (y55_1).toInt.toNat < k55 → GG Z (d - 1) 361 post (gx xp) (29702 + k55 * 925201) 55 (fun j => xlook j [(0, .ref (A 109)), (1, .int y55_1)]) [] (WW Z A sc55 ++ ex) 0 0 := by
    intro k55
    induction k55 with
    | zero => intro sc55 y55_1 hIc55 hFc55 j55_1 g55_0 g55_1 mm55; exact absurd mm55 (Nat.not_lt_zero _)
    | succ k55 ih55 =>
      intro sc55 y55_1 hIc55 hFc55 j55_1 g55_0 g55_1 mm55
      refine gg_w (M := 29702 + k55 * 925201 + 925201) (by omega) ?_
      have ct63 : ∀ (k63 : Nat) (sc63 : GS) (y63_1 : Int32) (y63_2 : Int32), Inv sc63 → Fr fm_361 s sc63 → (In y63_1 0 1) → (In y63_2 0 1024) → (WKP s (mqp s sc55) sc63 (y63_1).toInt (y63_2).toNatClampNeg) → (y55_1.toInt = 1) → 1024 - (y63_2).toInt < (k63 : Int) → GG Z (d - 1) 361 post (gx xp) (29702 + k55 * 925201 + 1 + k63 * 900) 63 (fun j => xlook j [(0, .ref (A 109)), (1, .int y63_1), (2, .int y63_2)]) [] (WW Z A sc63 ++ ex) 0 0 := by
        intro k63
        induction k63 with
        | zero => intro sc63 y63_1 y63_2 hIc63 hFc63 j63_1 j63_2 g63_0 g63_1 mm63; exact m_no mm63 j63_2 rfl
        | succ k63 ih63 =>
          intro sc63 y63_1 y63_2 hIc63 hFc63 j63_1 j63_2 g63_0 g63_1 mm63
          refine gg_w (M := 29702 + k55 * 925201 + 1 + k63 * 900 + 900) (by omega) ?_
          refine g_iload_n 64 (gd rfl) rfl rfl ?_
          refine g_sipush 1024 67 (gd rfl) rfl rfl ?_
          refine g_cmp_ge 70 226 (gd rfl) rfl rfl (fun c67 => ?_) (fun c67 => ?_)
          · skip
            have i67 := r_le2 1024 1024 c67 (in_c 1024 rfl) j63_2 rfl
            refine g_goto 55 (gd rfl) rfl ?_
            have n55 : CIP s sc63 := by first | exact g63_0.1 | exact cip_0 q_0 (hFc2.2.2.1 109 20 rfl) (fun k hk => g2_0 k (by unfold nnq at hk; rw [← e_109_20] at hk; have a0 := ro_109_20; unfold In at a0; have a1 := i67; unfold In at a1; have a2 := j63_1; unfold In at a2; omega))
            have n55a : (y63_1).toInt = 0 → CLP s sc63 1024 := by first | (intro hz; exfalso; have h0 : (Int32.ofInt 1).toInt = 1 := rfl; omega) | (intro hz; have hc := g63_0.2.2.2 hz; rw [show y63_2.toNatClampNeg = 1024 from (by show y63_2.toInt.toNat = 1024; have a0 := ro_109_20; unfold In at a0; have a1 := i67; unfold In at a1; have a2 := j63_1; unfold In at a2; omega)] at hc; exact hc)
            have m55 : 2 * mqp s sc63 + (y63_1).toInt.toNat < k55 := by have hm := mm55; have hj := g63_1; have hm1 := g63_0.2.1; have hm2 := g63_0.2.2.1; by_cases hz : y63_1.toInt = 0; (have a0 := ro_109_20; unfold In at a0; have a1 := i67; unfold In at a1; have a2 := j63_1; unfold In at a2; omega); (have hm3 := hm2 hz; have hjj := j63_1; unfold In at hjj; have a0 := ro_109_20; unfold In at a0; have a1 := i67; unfold In at a1; have a2 := j63_1; unfold In at a2; omega)
            exact gg_w (by omega) (gg_f (gf_cons rfl (gf_cons rfl gf_nil)) (ih55  sc63 y63_1 hIc63 hFc63 (in_w 0 1 j63_1 rfl) n55 n55a m55))
          · skip
            have i67 := r_lt1 0 1023 c67 j63_2 (in_c 1024 rfl) rfl
            refine g_iload_n 71 (gd rfl) rfl rfl ?_
            refine g_bipush 32 73 (gd rfl) rfl rfl ?_
            refine g_idiv 74 (gd rfl) rfl (by decide) (fun z73 e73 => ?_)
            have i73 := in_div 0 31 e73 i67 rfl rfl
            refine g_istore_n 75 (gd rfl) rfl (Nat.le_of_ble_eq_true rfl) ?_
            refine g_iload_n 76 (gd rfl) rfl rfl ?_
            refine g_bipush 32 78 (gd rfl) rfl rfl ?_
            refine g_irem 79 (gd rfl) rfl (by decide) (fun z78 e78 => ?_)
            have i78 := in_rem 31 e78 i67 rfl rfl
            refine g_istore 81 (gd rfl) rfl (Nat.le_of_ble_eq_true rfl) ?_
            refine g_aload_n 82 (gd rfl) rfl rfl ?_
            refine g_getA (q2 := 152) 85 (gd rfl) rfl rfl rfl rfl ?_
            refine g_iload_n 86 (gd rfl) rfl rfl ?_
            refine g_laload 87 (gd rfl) rfl (n := 1024) rfl (in_ix i67 rfl) (fun z86 e86 => ?_)
            refine g_ldc2_w 9000000000000000 90 (gd rfl) rfl rfl ?_
            refine g_lcmp 91 (gd rfl) rfl (fun z90 e90 => ?_)
            have i90 := lc_in e90
            refine g_if_ge 94 220 (gd rfl) rfl rfl (fun c91 => ?_) (fun c91 => ?_)
            · skip
              have i91 := z_ge 0 1 c91 i90 rfl
              have c91a := lc_ge e90 c91
              have i91a := lr_le2 9000000000000000 9223372036854775807 c91a (l_c 9000000000000000 rfl) (l_rng z86) rfl
              refine g_iinc 223 (gd rfl) rfl rfl (Nat.le_of_ble_eq_true rfl) (fun z220 e220 => ?_)
              have i220 := in_add 1 1024 e220 i67 (in_c 1 rfl) rfl rfl
              refine g_goto 63 (gd rfl) rfl ?_
              have n63 : WKP s (mqp s sc55) sc63 (y63_1).toInt (z220).toNatClampNeg := by rw [show (z220).toNatClampNeg = y63_2.toNatClampNeg + 1 from (by show z220.toInt.toNat = y63_2.toInt.toNat + 1; have a0 := ro_109_20; unfold In at a0; have a1 := i67; unfold In at a1; have a2 := j63_1; unfold In at a2; have a3 := i78; unfold In at a3; have a4 := i73; unfold In at a4; have a5 := t_div e73 i67 rfl; have a6 := i220; unfold In at a6; have a7 := t_add e220 i67 (in_c 1 rfl) rfl; have a8 := (in_c 1 rfl); unfold In at a8; omega)]; exact wkp_s g63_0 i73 i78 (kp32 i67 e73 e78) (fun h1 _ _ => by exfalso; rw [← hFc63.2.1 152 rfl, ← e86] at h1; have h := i91a.1; omega)
              have n63a : y55_1.toInt = 1 := by first | exact g63_1 | (have hj := j55_1; unfold In at hj; have hc := c56; omega)
              exact gg_w (by omega) (gg_f (gf_cons rfl (gf_cons rfl (gf_cons rfl gf_nil))) (ih63 sc63 y63_1 z220 hIc63 hFc63 (in_w 0 1 j63_1 rfl) (in_w 0 1024 i220 rfl) n63 n63a (m_up mm63 (t_add e220 i67 (in_c 1 rfl) rfl) (in_w 1 1 (in_c 1 rfl) rfl))))
            · skip
              have i91 := z_lt (-1) (-1) c91 i90 rfl
              have c91a := lc_lt e90 c91
              have i91a := lr_lt1 (-9223372036854775808) 8999999999999999 c91a (l_rng z86) (l_c 9000000000000000 rfl) rfl
              refine g_aload_n 95 (gd rfl) rfl rfl ?_
              refine g_getA (q2 := 149) 98 (gd rfl) rfl rfl rfl rfl ?_
              refine g_iload_n 99 (gd rfl) rfl rfl ?_
              refine g_laload 100 (gd rfl) rfl (n := 34) rfl (in_ix i73 rfl) (fun z99 e99 => ?_)
              refine g_ldc2_w 9000000000000000 103 (gd rfl) rfl rfl ?_
              refine g_lcmp 104 (gd rfl) rfl (fun z103 e103 => ?_)
              have i103 := lc_in e103
              refine g_if_ge 107 220 (gd rfl) rfl rfl (fun c104 => ?_) (fun c104 => ?_)
              · skip
                have i104 := z_ge 0 1 c104 i103 rfl
                have c104a := lc_ge e103 c104
                have i104a := lr_le2 9000000000000000 9223372036854775807 c104a (l_c 9000000000000000 rfl) (l_rng z99) rfl
                refine g_iinc 223 (gd rfl) rfl rfl (Nat.le_of_ble_eq_true rfl) (fun z220 e220 => ?_)
                have i220 := in_add 1 1024 e220 i67 (in_c 1 rfl) rfl rfl
                refine g_goto 63 (gd rfl) rfl ?_
                have n63 : WKP s (mqp s sc55) sc63 (y63_1).toInt (z220).toNatClampNeg := by rw [show (z220).toNatClampNeg = y63_2.toNatClampNeg + 1 from (by show z220.toInt.toNat = y63_2.toInt.toNat + 1; have a0 := ro_109_20; unfold In at a0; have a1 := i67; unfold In at a1; have a2 := j63_1; unfold In at a2; have a3 := i78; unfold In at a3; have a4 := i73; unfold In at a4; have a5 := t_div e73 i67 rfl; have a6 := i220; unfold In at a6; have a7 := t_add e220 i67 (in_c 1 rfl) rfl; have a8 := (in_c 1 rfl); unfold In at a8; omega)]; exact wkp_s g63_0 i73 i78 (kp32 i67 e73 e78) (fun _ h2 _ => by exfalso; rw [← e99] at h2; have h := i104a.1; omega)
                have n63a : y55_1.toInt = 1 := by first | exact g63_1 | (have hj := j55_1; unfold In at hj; have hc := c56; omega)
                exact gg_w (by omega) (gg_f (gf_cons rfl (gf_cons rfl (gf_cons rfl gf_nil))) (ih63 sc63 y63_1 z220 hIc63 hFc63 (in_w 0 1 j63_1 rfl) (in_w 0 1024 i220 rfl) n63 n63a (m_up mm63 (t_add e220 i67 (in_c 1 rfl) rfl) (in_w 1 1 (in_c 1 rfl) rfl))))
              · skip
                have i104 := z_lt (-1) (-1) c104 i103 rfl
                have c104a := lc_lt e103 c104
                have i104a := lr_lt1 (-9223372036854775808) 8999999999999999 c104a (l_rng z99) (l_c 9000000000000000 rfl) rfl
                refine g_aload_n 108 (gd rfl) rfl rfl ?_
                refine g_getA (q2 := 151) 111 (gd rfl) rfl rfl rfl rfl ?_
                refine g_iload_n 112 (gd rfl) rfl rfl ?_
                refine g_iaload 113 (gd rfl) rfl (n := 32) rfl (in_ix i73 rfl) (fun z112 e112 => ?_)
                have i112 := inv_I hIc63 (n := 32) (t := 0) (-1) 31 rfl (in_ix i73 rfl) rfl e112
                refine g_iload 115 (gd rfl) rfl rfl ?_
                refine g_cmp_eq 118 220 (gd rfl) rfl rfl (fun c115 => ?_) (fun c115 => ?_)
                · skip
                  have i115 := r_eq1 0 31 c115 i112 i78 rfl
                  refine g_iinc 223 (gd rfl) rfl rfl (Nat.le_of_ble_eq_true rfl) (fun z220 e220 => ?_)
                  have i220 := in_add 1 1024 e220 i67 (in_c 1 rfl) rfl rfl
                  refine g_goto 63 (gd rfl) rfl ?_
                  have n63 : WKP s (mqp s sc55) sc63 (y63_1).toInt (z220).toNatClampNeg := by rw [show (z220).toNatClampNeg = y63_2.toNatClampNeg + 1 from (by show z220.toInt.toNat = y63_2.toInt.toNat + 1; have a0 := ro_109_20; unfold In at a0; have a1 := i67; unfold In at a1; have a2 := j63_1; unfold In at a2; have a3 := i78; unfold In at a3; have a4 := i73; unfold In at a4; have a5 := t_div e73 i67 rfl; have a6 := i220; unfold In at a6; have a7 := t_add e220 i67 (in_c 1 rfl) rfl; have a8 := (in_c 1 rfl); unfold In at a8; omega)]; exact wkp_s g63_0 i73 i78 (kp32 i67 e73 e78) (fun _ _ h3 => absurd (by rw [← hFc63.1 151 rfl, ← e112]; exact c115) h3)
                  have n63a : y55_1.toInt = 1 := by first | exact g63_1 | (have hj := j55_1; unfold In at hj; have hc := c56; omega)
                  exact gg_w (by omega) (gg_f (gf_cons rfl (gf_cons rfl (gf_cons rfl gf_nil))) (ih63 sc63 y63_1 z220 hIc63 hFc63 (in_w 0 1 j63_1 rfl) (in_w 0 1024 i220 rfl) n63 n63a (m_up mm63 (t_add e220 i67 (in_c 1 rfl) rfl) (in_w 1 1 (in_c 1 rfl) rfl))))
                · skip
                  refine g_aload_n 119 (gd rfl) rfl rfl ?_
                  refine g_getA (q2 := 149) 122 (gd rfl) rfl rfl rfl rfl ?_
                  refine g_iload_n 123 (gd rfl) rfl rfl ?_
                  refine g_laload 124 (gd rfl) rfl (n := 34) rfl (in_ix i73 rfl) (fun z123 e123 => ?_)
                  refine g_aload_n 125 (gd rfl) rfl rfl ?_
                  refine g_getA (q2 := 152) 128 (gd rfl) rfl rfl rfl rfl ?_
                  refine g_iload_n 129 (gd rfl) rfl rfl ?_
                  refine g_laload 130 (gd rfl) rfl (n := 1024) rfl (in_ix i67 rfl) (fun z129 e129 => ?_)
                  refine g_ladd 131 (gd rfl) rfl (fun z130 e130 => ?_)
                  refine g_aload_n 132 (gd rfl) rfl rfl ?_
                  refine g_getA (q2 := 149) 135 (gd rfl) rfl rfl rfl rfl ?_
                  refine g_iload 137 (gd rfl) rfl rfl ?_
                  refine g_laload 138 (gd rfl) rfl (n := 34) rfl (in_ix i78 rfl) (fun z137 e137 => ?_)
                  refine g_lcmp 139 (gd rfl) rfl (fun z138 e138 => ?_)
                  have i138 := lc_in e138
                  refine g_if_ge 142 220 (gd rfl) rfl rfl (fun c139 => ?_) (fun c139 => ?_)
                  · skip
                    have i139 := z_ge 0 1 c139 i138 rfl
                    have c139a := lc_ge e138 c139
                    refine g_iinc 223 (gd rfl) rfl rfl (Nat.le_of_ble_eq_true rfl) (fun z220 e220 => ?_)
                    have i220 := in_add 1 1024 e220 i67 (in_c 1 rfl) rfl rfl
                    refine g_goto 63 (gd rfl) rfl ?_
                    have n63 : WKP s (mqp s sc55) sc63 (y63_1).toInt (z220).toNatClampNeg := by rw [show (z220).toNatClampNeg = y63_2.toNatClampNeg + 1 from (by show z220.toInt.toNat = y63_2.toInt.toNat + 1; have a0 := ro_109_20; unfold In at a0; have a1 := i67; unfold In at a1; have a2 := j63_1; unfold In at a2; have a3 := i78; unfold In at a3; have a4 := i73; unfold In at a4; have a5 := t_div e73 i67 rfl; have a6 := i220; unfold In at a6; have a7 := t_add e220 i67 (in_c 1 rfl) rfl; have a8 := (in_c 1 rfl); unfold In at a8; omega)]; exact wkp_s g63_0 i73 i78 (kp32 i67 e73 e78) (fun _ _ _ => cip_add q_0 (hFc63.2.2.1 109 20 rfl) g63_0.1 i73 i78 (kp32 i67 e73 e78) (by rw [← hFc63.2.1 152 rfl]; exact e129) (by rw [e129, ← e86]; have h := i91a.2; omega) e123 (by rw [e123, ← e99]; have h := i104a.2; omega) e130 e137 c139a)
                    have n63a : y55_1.toInt = 1 := by first | exact g63_1 | (have hj := j55_1; unfold In at hj; have hc := c56; omega)
                    exact gg_w (by omega) (gg_f (gf_cons rfl (gf_cons rfl (gf_cons rfl gf_nil))) (ih63 sc63 y63_1 z220 hIc63 hFc63 (in_w 0 1 j63_1 rfl) (in_w 0 1024 i220 rfl) n63 n63a (m_up mm63 (t_add e220 i67 (in_c 1 rfl) rfl) (in_w 1 1 (in_c 1 rfl) rfl))))
                  · skip
                    have i139 := z_lt (-1) (-1) c139 i138 rfl
                    have c139a := lc_lt e138 c139
                    have i139a := lr_lt1 (-9223372036854775808) 9223372036854775806 c139a (l_rng z130) (l_rng z137) rfl
                    have i139b := lr_lt2 (-9223372036854775807) 9223372036854775807 c139a (l_rng z130) (l_rng z137) rfl
                    refine g_aload_n 143 (gd rfl) rfl rfl ?_
                    refine g_getA (q2 := 149) 146 (gd rfl) rfl rfl rfl rfl ?_
                    refine g_iload 148 (gd rfl) rfl rfl ?_
                    refine g_aload_n 149 (gd rfl) rfl rfl ?_
                    refine g_getA (q2 := 149) 152 (gd rfl) rfl rfl rfl rfl ?_
                    refine g_iload_n 153 (gd rfl) rfl rfl ?_
                    refine g_laload 154 (gd rfl) rfl (n := 34) rfl (in_ix i73 rfl) (fun z153 e153 => ?_)
                    refine g_aload_n 155 (gd rfl) rfl rfl ?_
                    refine g_getA (q2 := 152) 158 (gd rfl) rfl rfl rfl rfl ?_
                    refine g_iload_n 159 (gd rfl) rfl rfl ?_
                    refine g_laload 160 (gd rfl) rfl (n := 1024) rfl (in_ix i67 rfl) (fun z159 e159 => ?_)
                    refine g_ladd 161 (gd rfl) rfl (fun z160 e160 => ?_)
                    refine g_lastore 162 (gd rfl) rfl (n := 34) rfl (in_ix i78 rfl) ?_
                    have hI161 := inv_sL (q := 149) (j := z78.toNatClampNeg) (x := z160) hIc63 rfl (l_rng z160)
                    refine g_aload_n 163 (gd rfl) rfl rfl ?_
                    refine g_getA (q2 := 148) 166 (gd rfl) rfl rfl rfl rfl ?_
                    refine g_iload 168 (gd rfl) rfl rfl ?_
                    refine g_iload_n 169 (gd rfl) rfl rfl ?_
                    refine g_iastore 170 (gd rfl) rfl (n := 34) rfl (in_ix i78 rfl) ?_
                    have hI169 := inv_sI (q := 148) (j := z78.toNatClampNeg) hI161 rfl (in_w (-1) 1000 i73 rfl)
                    refine g_iconst 1 171 (gd rfl) rfl rfl ?_
                    refine g_istore_n 172 (gd rfl) rfl (Nat.le_of_ble_eq_true rfl) ?_
                    refine g_aload_n 173 (gd rfl) rfl rfl ?_
                    refine g_getA (q2 := 151) 176 (gd rfl) rfl rfl rfl rfl ?_
                    refine g_iload 178 (gd rfl) rfl rfl ?_
                    refine g_iaload 179 (gd rfl) rfl (n := 32) rfl (in_ix i78 rfl) (fun z178 e178 => ?_)
                    have i178 := inv_I hI169 (n := 32) (t := 0) (-1) 31 rfl (in_ix i78 rfl) rfl e178
                    refine g_if_lt 182 220 (gd rfl) rfl rfl (fun c179 => ?_) (fun c179 => ?_)
                    · skip
                      have i179 := z_lt (-1) (-1) c179 i178 rfl
                      refine g_iinc 223 (gd rfl) rfl rfl (Nat.le_of_ble_eq_true rfl) (fun z220 e220 => ?_)
                      have i220 := in_add 1 1024 e220 i67 (in_c 1 rfl) rfl rfl
                      refine g_goto 63 (gd rfl) rfl ?_
                      have n63 : WKP s (mqp s sc55) (sI (sL sc63 149 z78.toNatClampNeg z160) 148 z78.toNatClampNeg z73) ((Int32.ofInt 1)).toInt (z220).toNatClampNeg := by rw [show (z220).toNatClampNeg = y63_2.toNatClampNeg + 1 from (by show z220.toInt.toNat = y63_2.toInt.toNat + 1; have a0 := ro_109_20; unfold In at a0; have a1 := i67; unfold In at a1; have a2 := j63_1; unfold In at a2; have a3 := i78; unfold In at a3; have a4 := i73; unfold In at a4; have a5 := t_div e73 i67 rfl; have a6 := i220; unfold In at a6; have a7 := t_add e220 i67 (in_c 1 rfl) rfl; have a8 := (in_c 1 rfl); unfold In at a8; omega)]; exact (wkp_ch g63_0 (cip_1 q_0 (hFc63.2.2.1 109 20 rfl) g63_0.1 i73 i78 (kp32 i67 e73 e78) (by rw [← hFc63.2.1 152 rfl]; exact e159) (by rw [e159, ← e86]; have h := i91a.2; omega) e153 (by rw [e153, ← e99]; have h := i104a.2; omega) e160 (by rw [show z160 = z130 from (by rw [e160, e130, e153, e123, e159, e129]), ← e137]; exact c139a) (by rw [← hFc63.1 151 rfl, show sc63.1 151 z78.toNatClampNeg = z178 from (by rw [e178, sI_p rfl]; rfl)]; exact c179)) _)
                      have n63a : y55_1.toInt = 1 := by first | exact g63_1 | (have hj := j55_1; unfold In at hj; have hc := c56; omega)
                      exact gg_w (by omega) (gg_f (gf_cons rfl (gf_cons rfl (gf_cons rfl gf_nil))) (ih63 (sI (sL sc63 149 z78.toNatClampNeg z160) 148 z78.toNatClampNeg z73) (Int32.ofInt 1) z220 hI169 (fr_sI rfl (fr_sL rfl hFc63)) (in_w 0 1 (in_c 1 rfl) rfl) (in_w 0 1024 i220 rfl) n63 n63a (m_up mm63 (t_add e220 i67 (in_c 1 rfl) rfl) (in_w 1 1 (in_c 1 rfl) rfl))))
                    · skip
                      have i179 := z_ge 0 31 c179 i178 rfl
                      refine g_aload_n 183 (gd rfl) rfl rfl ?_
                      refine g_getA (q2 := 149) 186 (gd rfl) rfl rfl rfl rfl ?_
                      refine g_aload_n 187 (gd rfl) rfl rfl ?_
                      refine g_getA (q2 := 151) 190 (gd rfl) rfl rfl rfl rfl ?_
                      refine g_iload 192 (gd rfl) rfl rfl ?_
                      refine g_iaload 193 (gd rfl) rfl (n := 32) rfl (in_ix i78 rfl) (fun z192 e192 => ?_)
                      have q192 : z178 = z192 := (e178).trans e192.symm
                      subst q192
                      refine g_aload_n 194 (gd rfl) rfl rfl ?_
                      refine g_getA (q2 := 149) 197 (gd rfl) rfl rfl rfl rfl ?_
                      refine g_iload 199 (gd rfl) rfl rfl ?_
                      refine g_laload 200 (gd rfl) rfl (n := 34) rfl (in_ix i78 rfl) (fun z199 e199 => ?_)
                      refine g_aload_n 201 (gd rfl) rfl rfl ?_
                      refine g_getA (q2 := 152) 204 (gd rfl) rfl rfl rfl rfl ?_
                      refine g_bipush 32 206 (gd rfl) rfl rfl ?_
                      refine g_aload_n 207 (gd rfl) rfl rfl ?_
                      refine g_getA (q2 := 151) 210 (gd rfl) rfl rfl rfl rfl ?_
                      refine g_iload 212 (gd rfl) rfl rfl ?_
                      refine g_iaload 213 (gd rfl) rfl (n := 32) rfl (in_ix i78 rfl) (fun z212 e212 => ?_)
                      have q212 : z178 = z212 := (e178).trans e212.symm
                      subst q212
                      refine g_imul 214 (gd rfl) rfl (fun z213 e213 => ?_)
                      have i213 := in_mulc 32 0 992 (Or.inl e213) i179 rfl rfl
                      refine g_iload 216 (gd rfl) rfl rfl ?_
                      refine g_iadd 217 (gd rfl) rfl (fun z216 e216 => ?_)
                      have i216 := in_add 0 1023 e216 i213 i78 rfl rfl
                      refine g_laload 218 (gd rfl) rfl (n := 1024) rfl (in_ix i216 rfl) (fun z217 e217 => ?_)
                      refine g_lsub 219 (gd rfl) rfl (fun z218 e218 => ?_)
                      refine g_lastore 220 (gd rfl) rfl (n := 34) rfl (in_ix i179 rfl) ?_
                      have hI219 := inv_sL (q := 149) (j := z178.toNatClampNeg) (x := z218) hI169 rfl (l_rng z218)
                      refine g_iinc 223 (gd rfl) rfl rfl (Nat.le_of_ble_eq_true rfl) (fun z220 e220 => ?_)
                      have i220 := in_add 1 1024 e220 i67 (in_c 1 rfl) rfl rfl
                      refine g_goto 63 (gd rfl) rfl ?_
                      have n63 : WKP s (mqp s sc55) (sL (sI (sL sc63 149 z78.toNatClampNeg z160) 148 z78.toNatClampNeg z73) 149 z178.toNatClampNeg z218) ((Int32.ofInt 1)).toInt (z220).toNatClampNeg := by rw [show (z220).toNatClampNeg = y63_2.toNatClampNeg + 1 from (by show z220.toInt.toNat = y63_2.toInt.toNat + 1; have a0 := ro_109_20; unfold In at a0; have a1 := i67; unfold In at a1; have a2 := j63_1; unfold In at a2; have a3 := i78; unfold In at a3; have a4 := i73; unfold In at a4; have a5 := t_div e73 i67 rfl; have a6 := i220; unfold In at a6; have a7 := t_add e220 i67 (in_c 1 rfl) rfl; have a8 := (in_c 1 rfl); unfold In at a8; have a9 := i216; unfold In at a9; have a10 := t_add e216 i213 i78 rfl; have a11 := i213; unfold In at a11; have a12 := (t_mulc 32 (Or.inl e213) i179 rfl).1; have a13 := i179; unfold In at a13; omega)]; exact (wkp_ch g63_0 (cip_2 (w2 := z217) q_0 (hFc63.2.2.1 109 20 rfl) g63_0.1 i73 i78 (kp32 i67 e73 e78) (by rw [← hFc63.2.1 152 rfl]; exact e159) (by rw [e159, ← e86]; have h := i91a.2; omega) e153 (by rw [e153, ← e99]; have h := i104a.2; omega) e160 (by rw [show z160 = z130 from (by rw [e160, e130, e153, e123, e159, e129]), ← e137]; exact c139a) (by rw [← hFc63.1 151 rfl, show sc63.1 151 z78.toNatClampNeg = z178 from (by rw [e178, sI_p rfl]; rfl)]; have h := c179; omega) (by rw [← hFc63.1 151 rfl, show sc63.1 151 z78.toNatClampNeg = z178 from (by rw [e178, sI_p rfl]; rfl)]) (by rw [show 32 * z178.toNatClampNeg + z78.toNatClampNeg = z216.toNatClampNeg from (by show 32 * z178.toInt.toNat + z78.toInt.toNat = z216.toInt.toNat; have a0 := ro_109_20; unfold In at a0; have a1 := i67; unfold In at a1; have a2 := j63_1; unfold In at a2; have a3 := i78; unfold In at a3; have a4 := i73; unfold In at a4; have a5 := t_div e73 i67 rfl; have a6 := i220; unfold In at a6; have a7 := t_add e220 i67 (in_c 1 rfl) rfl; have a8 := (in_c 1 rfl); unfold In at a8; have a9 := i216; unfold In at a9; have a10 := t_add e216 i213 i78 rfl; have a11 := i213; unfold In at a11; have a12 := (t_mulc 32 (Or.inl e213) i179 rfl).1; have a13 := i179; unfold In at a13; omega), ← hFc63.2.1 152 rfl, e217]; simp [sI, sL]) (by rw [e218, show z199 = z160 from (by rw [e199]; simp [sI, sL, vp_updL])])) _)
                      have n63a : y55_1.toInt = 1 := by first | exact g63_1 | (have hj := j55_1; unfold In at hj; have hc := c56; omega)
                      exact gg_w (by omega) (gg_f (gf_cons rfl (gf_cons rfl (gf_cons rfl gf_nil))) (ih63 (sL (sI (sL sc63 149 z78.toNatClampNeg z160) 148 z78.toNatClampNeg z73) 149 z178.toNatClampNeg z218) (Int32.ofInt 1) z220 hI219 (fr_sL rfl (fr_sI rfl (fr_sL rfl hFc63))) (in_w 0 1 (in_c 1 rfl) rfl) (in_w 0 1024 i220 rfl) n63 n63a (m_up mm63 (t_add e220 i67 (in_c 1 rfl) rfl) (in_w 1 1 (in_c 1 rfl) rfl))))
      refine g_iload_n 56 (gd rfl) rfl rfl ?_
      refine g_if_eq 59 229 (gd rfl) rfl rfl (fun c56 => ?_) (fun c56 => ?_)
      · skip
        have i56 := z_eq 0 0 c56 j55_1 rfl
        refine g_iconst (-1) 230 (gd rfl) rfl rfl ?_
        refine g_istore_n 231 (gd rfl) rfl (Nat.le_of_ble_eq_true rfl) ?_
        refine g_iconst 0 232 (gd rfl) rfl rfl ?_
        refine g_istore_n 233 (gd rfl) rfl (Nat.le_of_ble_eq_true rfl) ?_
        have n233 : CIP s sc55 := by first | exact g55_0 | exact g233_0
        have n233a : CLP s sc55 1024 := by first | exact g233_1 | exact g55_1 c56
        have n233b : ((Int32.ofInt (-1))).toInt < 0 ∨ (In ((Int32.ofInt (-1))) 0 31 ∧ ((Int32.ofInt (-1))).toInt < nnq s ∧ ¬ FSQ s ((Int32.ofInt (-1))).toNatClampNeg ∧ (s.1 151 ((Int32.ofInt (-1))).toNatClampNeg).toInt < 0 ∧ (sc55.2.1 149 ((Int32.ofInt (-1))).toNatClampNeg).toInt < 9000000000000000) := by first | exact g233_2 | exact Or.inl (by decide) | exact Or.inr ⟨i238, by unfold nnq; rw [← e_109_20]; have a0 := ro_109_20; unfold In at a0; have a1 := i56; unfold In at a1; have a2 := (in_c 0 rfl); unfold In at a2; have a3 := (in_c (-1) rfl); unfold In at a3; omega, fun h => absurd (p243.mpr ((fs_cg (hFc233.1 111 rfl) (hFc233.2.2.1 109 18 rfl)).mpr h)) (by have h2 := c246; omega), by rw [← hFc233.1 151 rfl, ← e254]; exact c255, by rw [← e263]; have h := i268a.2; omega⟩
        exact gg_w (by omega) (gg_f (gf_cons rfl (gf_cons rfl (gf_cons rfl (gf_cons rfl gf_nil)))) (ct233 33 sc55 y55_1 (Int32.ofInt (-1)) (Int32.ofInt 0) hIc55 hFc55 (in_w 0 0 i56 rfl) (in_w (-1) 31 (in_c (-1) rfl) rfl) (in_w 0 32 (in_c 0 rfl) rfl) n233 n233a n233b (m_in 33 (in_w 0 32 (in_c 0 rfl) rfl) rfl)))
      · skip
        have i56 := z_ne 1 1 c56 j55_1 rfl
        refine g_iconst 0 60 (gd rfl) rfl rfl ?_
        refine g_istore_n 61 (gd rfl) rfl (Nat.le_of_ble_eq_true rfl) ?_
        refine g_iconst 0 62 (gd rfl) rfl rfl ?_
        refine g_istore_n 63 (gd rfl) rfl (Nat.le_of_ble_eq_true rfl) ?_
        have n63 : WKP s (mqp s sc55) sc55 ((Int32.ofInt 0)).toInt ((Int32.ofInt 0)).toNatClampNeg := by exact wkp_0 g55_0
        have n63a : y55_1.toInt = 1 := by first | exact g63_1 | (have hj := j55_1; unfold In at hj; have hc := c56; omega)
        exact gg_w (by omega) (gg_f (gf_cons rfl (gf_cons rfl (gf_cons rfl gf_nil))) (ct63 1025 sc55 (Int32.ofInt 0) (Int32.ofInt 0) hIc55 hFc55 (in_w 0 1 (in_c 0 rfl) rfl) (in_w 0 1024 (in_c 0 rfl) rfl) n63 n63a (m_in 1025 (in_w 0 1024 (in_c 0 rfl) rfl) rfl)))
  have ct2 : ∀ (k2 : Nat) (sc2 : GS) (y2_1 : Int32), Inv sc2 → Fr fm_361 s sc2 → (In y2_1 0 32) → (∀ k : Nat, (k : Int) < (y2_1).toInt → (spq s k → (sc2.2.1 149 k).toInt = 0) ∧ (¬ spq s k → (sc2.2.1 149 k).toInt = 9000000000000000)) → 32 - (y2_1).toInt < (k2 : Int) → GG Z (d - 1) 361 post (gx xp) (5921286401880105 + k2 * 900) 2 (fun j => xlook j [(0, .ref (A 109)), (1, .int y2_1)]) [] (WW Z A sc2 ++ ex) 0 0 := by
    intro k2
    induction k2 with
    | zero => intro sc2 y2_1 hIc2 hFc2 j2_1 g2_0 mm2; exact m_no mm2 j2_1 rfl
    | succ k2 ih2 =>
      intro sc2 y2_1 hIc2 hFc2 j2_1 g2_0 mm2
      refine gg_w (M := 5921286401880105 + k2 * 900 + 900) (by omega) ?_
      refine g_iload_n 3 (gd rfl) rfl rfl ?_
      refine g_aload_n 4 (gd rfl) rfl rfl ?_
      refine g_getI 7 (gd rfl) rfl rfl rfl (fun z4 e4 => ?_)
      have q4 : u_109_20 = z4 := (fr_F e_109_20 hFc2 rfl).trans e4.symm
      subst q4
      refine g_cmp_ge 10 53 (gd rfl) rfl rfl (fun c7 => ?_) (fun c7 => ?_)
      · skip
        refine g_iconst 1 54 (gd rfl) rfl rfl ?_
        refine g_istore_n 55 (gd rfl) rfl (Nat.le_of_ble_eq_true rfl) ?_
        have n55 : CIP s sc2 := by first | exact g63_0.1 | exact cip_0 q_0 (hFc2.2.2.1 109 20 rfl) (fun k hk => g2_0 k (by unfold nnq at hk; rw [← e_109_20] at hk; have a0 := ro_109_20; unfold In at a0; have a1 := j2_1; unfold In at a1; have a2 := (in_c 1 rfl); unfold In at a2; omega))
        have n55a : ((Int32.ofInt 1)).toInt = 0 → CLP s sc2 1024 := by first | (intro hz; exfalso; have h0 : (Int32.ofInt 1).toInt = 1 := rfl; omega) | (intro hz; have hc := g63_0.2.2.2 hz; rw [show y63_2.toNatClampNeg = 1024 from (by show y63_2.toInt.toNat = 1024; have a0 := ro_109_20; unfold In at a0; have a1 := j2_1; unfold In at a1; have a2 := (in_c 1 rfl); unfold In at a2; omega)] at hc; exact hc)
        have m55 : 2 * mqp s sc2 + ((Int32.ofInt 1)).toInt.toNat < 6400000002 := by have hm := cip_m n55; have h1 : (Int32.ofInt 1).toInt.toNat = 1 := rfl; omega
        exact gg_w (by omega) (gg_f (gf_cons rfl (gf_cons rfl gf_nil)) (ct55 (6400000002) sc2 (Int32.ofInt 1) hIc2 hFc2 (in_w 0 1 (in_c 1 rfl) rfl) n55 n55a m55))
      · skip
        have i7 := r_lt1 0 31 c7 j2_1 ro_109_20 rfl
        have i7a := r_lt2 1 32 c7 j2_1 ro_109_20 rfl
        refine g_aload_n 11 (gd rfl) rfl rfl ?_
        refine g_getA (q2 := 149) 14 (gd rfl) rfl rfl rfl rfl ?_
        refine g_iload_n 15 (gd rfl) rfl rfl ?_
        refine g_aload_n 16 (gd rfl) rfl rfl ?_
        refine g_iload_n 17 (gd rfl) rfl rfl ?_
        refine g_callv (X := _) (As := [.int y2_1]) (r := [.int y2_1, .ref (A 149)]) (b := A 109) (q := 109) 20 (gd rfl) rfl rfl rfl rfl rfl (ww_o rfl) (Nat.le_of_ble_eq_true rfl) (Nat.zero_le _) (Nat.zero_le _) (k_359 (by omega) hIc2 (in_w 0 31 i7 rfl)) (fun e u h => h) (fun v u h => ?_)
        obtain ⟨z17, rfl, rfl, i17, p17⟩ := h
        show GG _ _ _ _ _ _ _ _ [.int z17, .int y2_1, .ref (A 149)] _ _ _
        refine g_if_eq 23 36 (gd rfl) rfl rfl (fun c20 => ?_) (fun c20 => ?_)
        · skip
          have i20 := z_eq 0 0 c20 i17 rfl
          refine g_ldc2_w 9000000000000000 39 (gd rfl) rfl rfl ?_
          refine g_lastore 40 (gd rfl) rfl (n := 34) rfl (in_ix i7 rfl) ?_
          have hI39 := inv_sL (q := 149) (j := y2_1.toNatClampNeg) (x := (Int64.ofInt 9000000000000000)) hIc2 rfl (l_rng (Int64.ofInt 9000000000000000))
          refine g_aload_n 41 (gd rfl) rfl rfl ?_
          refine g_getA (q2 := 148) 44 (gd rfl) rfl rfl rfl rfl ?_
          refine g_iload_n 45 (gd rfl) rfl rfl ?_
          refine g_iconst (-1) 46 (gd rfl) rfl rfl ?_
          refine g_iastore 47 (gd rfl) rfl (n := 34) rfl (in_ix i7 rfl) ?_
          have hI46 := inv_sI (q := 148) (j := y2_1.toNatClampNeg) hI39 rfl (in_w (-1) 1000 (in_c (-1) rfl) rfl)
          refine g_iinc 50 (gd rfl) rfl rfl (Nat.le_of_ble_eq_true rfl) (fun z47 e47 => ?_)
          have i47 := in_add 1 32 e47 i7 (in_c 1 rfl) rfl rfl
          refine g_goto 2 (gd rfl) rfl ?_
          have n2 : ∀ k : Nat, (k : Int) < (z47).toInt → (spq s k → ((sI (sL sc2 149 y2_1.toNatClampNeg (Int64.ofInt 9000000000000000)) 148 y2_1.toNatClampNeg (Int32.ofInt (-1))).2.1 149 k).toInt = 0) ∧ (¬ spq s k → ((sI (sL sc2 149 y2_1.toNatClampNeg (Int64.ofInt 9000000000000000)) 148 y2_1.toNatClampNeg (Int32.ofInt (-1))).2.1 149 k).toInt = 9000000000000000) := by exact inp_s (w := Int64.ofInt 9000000000000000) g2_0 (by simp [sI, sL]) (by have a0 := i7a; unfold In at a0; have a1 := i7; unfold In at a1; have a2 := i47; unfold In at a2; have a3 := t_add e47 i7 (in_c 1 rfl) rfl; have a4 := (in_c 1 rfl); unfold In at a4; omega) (by have a0 := i7a; unfold In at a0; have a1 := i7; unfold In at a1; have a2 := i47; unfold In at a2; have a3 := t_add e47 i7 (in_c 1 rfl) rfl; have a4 := (in_c 1 rfl); unfold In at a4; omega) ⟨fun h => absurd (p17.mpr ((fs_cg (hFc2.1 111 rfl) (hFc2.2.2.1 109 18 rfl)).mpr h.1)) (by have h2 := c20; omega), fun _ => (by have hl : InL (Int64.ofInt 9000000000000000) 9000000000000000 9000000000000000 := l_c 9000000000000000 rfl; exact Int.le_antisymm hl.2 hl.1)⟩
          exact gg_w (by omega) (gg_f (gf_cons rfl (gf_cons rfl gf_nil)) (ih2 (sI (sL sc2 149 y2_1.toNatClampNeg (Int64.ofInt 9000000000000000)) 148 y2_1.toNatClampNeg (Int32.ofInt (-1))) z47 hI46 (fr_sI rfl (fr_sL rfl hFc2)) (in_w 0 32 i47 rfl) n2 (m_up mm2 (t_add e47 i7 (in_c 1 rfl) rfl) (in_w 1 1 (in_c 1 rfl) rfl))))
        · skip
          have i20 := z_ne 1 1 c20 i17 rfl
          refine g_aload_n 24 (gd rfl) rfl rfl ?_
          refine g_getA (q2 := 151) 27 (gd rfl) rfl rfl rfl rfl ?_
          refine g_iload_n 28 (gd rfl) rfl rfl ?_
          refine g_iaload 29 (gd rfl) rfl (n := 32) rfl (in_ix i7 rfl) (fun z28 e28 => ?_)
          have i28 := inv_I hIc2 (n := 32) (t := 0) (-1) 31 rfl (in_ix i7 rfl) rfl e28
          refine g_if_ge 32 36 (gd rfl) rfl rfl (fun c29 => ?_) (fun c29 => ?_)
          · skip
            have i29 := z_ge 0 31 c29 i28 rfl
            refine g_ldc2_w 9000000000000000 39 (gd rfl) rfl rfl ?_
            refine g_lastore 40 (gd rfl) rfl (n := 34) rfl (in_ix i7 rfl) ?_
            have hI39 := inv_sL (q := 149) (j := y2_1.toNatClampNeg) (x := (Int64.ofInt 9000000000000000)) hIc2 rfl (l_rng (Int64.ofInt 9000000000000000))
            refine g_aload_n 41 (gd rfl) rfl rfl ?_
            refine g_getA (q2 := 148) 44 (gd rfl) rfl rfl rfl rfl ?_
            refine g_iload_n 45 (gd rfl) rfl rfl ?_
            refine g_iconst (-1) 46 (gd rfl) rfl rfl ?_
            refine g_iastore 47 (gd rfl) rfl (n := 34) rfl (in_ix i7 rfl) ?_
            have hI46 := inv_sI (q := 148) (j := y2_1.toNatClampNeg) hI39 rfl (in_w (-1) 1000 (in_c (-1) rfl) rfl)
            refine g_iinc 50 (gd rfl) rfl rfl (Nat.le_of_ble_eq_true rfl) (fun z47 e47 => ?_)
            have i47 := in_add 1 32 e47 i7 (in_c 1 rfl) rfl rfl
            refine g_goto 2 (gd rfl) rfl ?_
            have n2 : ∀ k : Nat, (k : Int) < (z47).toInt → (spq s k → ((sI (sL sc2 149 y2_1.toNatClampNeg (Int64.ofInt 9000000000000000)) 148 y2_1.toNatClampNeg (Int32.ofInt (-1))).2.1 149 k).toInt = 0) ∧ (¬ spq s k → ((sI (sL sc2 149 y2_1.toNatClampNeg (Int64.ofInt 9000000000000000)) 148 y2_1.toNatClampNeg (Int32.ofInt (-1))).2.1 149 k).toInt = 9000000000000000) := by first | (exact inp_s (w := Int64.ofInt 0) g2_0 (by simp [sI, sL]) (by have a0 := i7a; unfold In at a0; have a1 := i7; unfold In at a1; have a2 := i47; unfold In at a2; have a3 := t_add e47 i7 (in_c 1 rfl) rfl; have a4 := (in_c 1 rfl); unfold In at a4; omega) (by have a0 := i7a; unfold In at a0; have a1 := i7; unfold In at a1; have a2 := i47; unfold In at a2; have a3 := t_add e47 i7 (in_c 1 rfl) rfl; have a4 := (in_c 1 rfl); unfold In at a4; omega) ⟨fun _ => by decide, fun h => absurd ⟨(fs_cg (hFc2.1 111 rfl) (hFc2.2.2.1 109 18 rfl)).mp (p17.mp c20), by rw [← hFc2.1 151 rfl, ← e28]; exact c29⟩ h⟩) | (exact inp_s (w := Int64.ofInt 9000000000000000) g2_0 (by simp [sI, sL]) (by have a0 := i7a; unfold In at a0; have a1 := i7; unfold In at a1; have a2 := i47; unfold In at a2; have a3 := t_add e47 i7 (in_c 1 rfl) rfl; have a4 := (in_c 1 rfl); unfold In at a4; omega) (by have a0 := i7a; unfold In at a0; have a1 := i7; unfold In at a1; have a2 := i47; unfold In at a2; have a3 := t_add e47 i7 (in_c 1 rfl) rfl; have a4 := (in_c 1 rfl); unfold In at a4; omega) ⟨fun h => by exfalso; have h2 := h.2; rw [← hFc2.1 151 rfl, ← e28] at h2; have h3 := c29; omega, fun _ => (by have hl : InL (Int64.ofInt 9000000000000000) 9000000000000000 9000000000000000 := l_c 9000000000000000 rfl; exact Int.le_antisymm hl.2 hl.1)⟩)
            exact gg_w (by omega) (gg_f (gf_cons rfl (gf_cons rfl gf_nil)) (ih2 (sI (sL sc2 149 y2_1.toNatClampNeg (Int64.ofInt 9000000000000000)) 148 y2_1.toNatClampNeg (Int32.ofInt (-1))) z47 hI46 (fr_sI rfl (fr_sL rfl hFc2)) (in_w 0 32 i47 rfl) n2 (m_up mm2 (t_add e47 i7 (in_c 1 rfl) rfl) (in_w 1 1 (in_c 1 rfl) rfl))))
          · skip
            have i29 := z_lt (-1) (-1) c29 i28 rfl
            refine g_lconst 0 33 (gd rfl) rfl rfl ?_
            refine g_goto 39 (gd rfl) rfl ?_
            refine g_lastore 40 (gd rfl) rfl (n := 34) rfl (in_ix i7 rfl) ?_
            have hI39 := inv_sL (q := 149) (j := y2_1.toNatClampNeg) (x := (Int64.ofInt 0)) hIc2 rfl (l_rng (Int64.ofInt 0))
            refine g_aload_n 41 (gd rfl) rfl rfl ?_
            refine g_getA (q2 := 148) 44 (gd rfl) rfl rfl rfl rfl ?_
            refine g_iload_n 45 (gd rfl) rfl rfl ?_
            refine g_iconst (-1) 46 (gd rfl) rfl rfl ?_
            refine g_iastore 47 (gd rfl) rfl (n := 34) rfl (in_ix i7 rfl) ?_
            have hI46 := inv_sI (q := 148) (j := y2_1.toNatClampNeg) hI39 rfl (in_w (-1) 1000 (in_c (-1) rfl) rfl)
            refine g_iinc 50 (gd rfl) rfl rfl (Nat.le_of_ble_eq_true rfl) (fun z47 e47 => ?_)
            have i47 := in_add 1 32 e47 i7 (in_c 1 rfl) rfl rfl
            refine g_goto 2 (gd rfl) rfl ?_
            have n2 : ∀ k : Nat, (k : Int) < (z47).toInt → (spq s k → ((sI (sL sc2 149 y2_1.toNatClampNeg (Int64.ofInt 0)) 148 y2_1.toNatClampNeg (Int32.ofInt (-1))).2.1 149 k).toInt = 0) ∧ (¬ spq s k → ((sI (sL sc2 149 y2_1.toNatClampNeg (Int64.ofInt 0)) 148 y2_1.toNatClampNeg (Int32.ofInt (-1))).2.1 149 k).toInt = 9000000000000000) := by first | (exact inp_s (w := Int64.ofInt 0) g2_0 (by simp [sI, sL]) (by have a0 := i7a; unfold In at a0; have a1 := i7; unfold In at a1; have a2 := i47; unfold In at a2; have a3 := t_add e47 i7 (in_c 1 rfl) rfl; have a4 := (in_c 1 rfl); unfold In at a4; omega) (by have a0 := i7a; unfold In at a0; have a1 := i7; unfold In at a1; have a2 := i47; unfold In at a2; have a3 := t_add e47 i7 (in_c 1 rfl) rfl; have a4 := (in_c 1 rfl); unfold In at a4; omega) ⟨fun _ => by decide, fun h => absurd ⟨(fs_cg (hFc2.1 111 rfl) (hFc2.2.2.1 109 18 rfl)).mp (p17.mp c20), by rw [← hFc2.1 151 rfl, ← e28]; exact c29⟩ h⟩) | (exact inp_s (w := Int64.ofInt 9000000000000000) g2_0 (by simp [sI, sL]) (by have a0 := i7a; unfold In at a0; have a1 := i7; unfold In at a1; have a2 := i47; unfold In at a2; have a3 := t_add e47 i7 (in_c 1 rfl) rfl; have a4 := (in_c 1 rfl); unfold In at a4; omega) (by have a0 := i7a; unfold In at a0; have a1 := i7; unfold In at a1; have a2 := i47; unfold In at a2; have a3 := t_add e47 i7 (in_c 1 rfl) rfl; have a4 := (in_c 1 rfl); unfold In at a4; omega) ⟨fun h => by exfalso; have h2 := h.2; rw [← hFc2.1 151 rfl, ← e28] at h2; have h3 := c29; omega, fun _ => (by have hl : InL (Int64.ofInt 9000000000000000) 9000000000000000 9000000000000000 := l_c 9000000000000000 rfl; exact Int.le_antisymm hl.2 hl.1)⟩)
            exact gg_w (by omega) (gg_f (gf_cons rfl (gf_cons rfl gf_nil)) (ih2 (sI (sL sc2 149 y2_1.toNatClampNeg (Int64.ofInt 0)) 148 y2_1.toNatClampNeg (Int32.ofInt (-1))) z47 hI46 (fr_sI rfl (fr_sL rfl hFc2)) (in_w 0 32 i47 rfl) n2 (m_up mm2 (t_add e47 i7 (in_c 1 rfl) rfl) (in_w 1 1 (in_c 1 rfl) rfl))))
  refine g_enter2 (k := 361) (N := 5921286401910705) (by omega) rfl (Nat.le_of_ble_eq_true rfl) ?_
  refine g_iconst 0 1 (gd rfl) rfl rfl ?_
  refine g_istore_n 2 (gd rfl) rfl (Nat.le_of_ble_eq_true rfl) ?_
  have n2 : ∀ k : Nat, (k : Int) < ((Int32.ofInt 0)).toInt → (spq s k → (s.2.1 149 k).toInt = 0) ∧ (¬ spq s k → (s.2.1 149 k).toInt = 9000000000000000) := by (intro k hk; exfalso; have h0 : (Int32.ofInt 0).toInt = 0 := rfl; omega)
  exact gg_w (by omega) (gg_f (gf_cons rfl (gf_cons rfl gf_nil)) (ct2 33 s (Int32.ofInt 0) hI fr_rf (in_w 0 32 (in_c 0 rfl) rfl) n2 (m_in 33 (in_w 0 32 (in_c 0 rfl) rfl) rfl)))

def fm_360 : FM := ([148, 151], [149, 152], [], [])
/-- GraphHouseModel.pairUp -/
theorem k_360 {Z : AmZ} {A : Nat → Nat} {s : GS} {ex : va_W} {d : Nat} {X : AmX}  (hd : 3 ≤ d) (hI : Inv s)  : GC Z d 360 [.ref (A 109)] (WW Z A s ++ ex) 0 0 (fun v u => ∃ t : GS, Inv t ∧ Fr fm_360 s t ∧ v = none ∧ u = WW Z A t ++ ex) X := by
  intro post xp hP hX
  obtain ⟨u_109_19, e_109_19⟩ : ∃ w, w = s.2.2.1 109 19 := ⟨_, rfl⟩
  have ro_109_19 := inv_F hI 0 160 rfl e_109_19
  obtain ⟨u_109_20, e_109_20⟩ : ∃ w, w = s.2.2.1 109 20 := ⟨_, rfl⟩
  have ro_109_20 := inv_F hI 0 32 rfl e_109_20
  have ct186 : ∀ (k186 : Nat) (sc186 : GS) (y186_1 : Int32), Inv sc186 → Fr fm_360 s sc186 → (In y186_1 0 1) → (PP sc186) → 2 * cM (sc186.1 151) (s.2.2.1 109 20).toNatClampNeg + (y186_1).toInt.toNat < k186 → GG Z (d - 1) 360 post (gx xp) (1 + k186 * 32401) 186 (fun j => xlook j [(0, .ref (A 109)), (1, .int y186_1)]) [] (WW Z A sc186 ++ ex) 0 0 := by
    intro k186
    induction k186 with
    | zero => intro sc186 y186_1 hIc186 hFc186 j186_1 g186_0 mm186; exact absurd mm186 (Nat.not_lt_zero _)
    | succ k186 ih186 =>
      intro sc186 y186_1 hIc186 hFc186 j186_1 g186_0 mm186
      refine gg_w (M := 1 + k186 * 32401 + 32401) (by omega) ?_
      have ct205 : ∀ (k205 : Nat) (sc205 : GS) (y205_1 : Int32) (y205_2 : Int32), Inv sc205 → Fr fm_360 s sc205 → (In y205_1 0 1) → (In y205_2 (-1) 31) → (∃ n, FLP sc205 (y205_2).toInt n) → (y186_1.toInt = 1) → (cM (sc205.1 151) (s.2.2.1 109 20).toNatClampNeg < cM (sc186.1 151) (s.2.2.1 109 20).toNatClampNeg ∨ (cM (sc205.1 151) (s.2.2.1 109 20).toNatClampNeg ≤ cM (sc186.1 151) (s.2.2.1 109 20).toNatClampNeg ∧ ((0 ≤ (y205_2).toInt ∧ (sc205.1 151 (y205_2).toNatClampNeg).toInt < 0) ∨ (y205_1).toInt = 0))) → lst (FLP sc205 (y205_2).toInt) < k205 → GG Z (d - 1) 360 post (gx xp) (1 + k186 * 32401 + 1 + k205 * 900) 205 (fun j => xlook j [(0, .ref (A 109)), (1, .int y205_1), (2, .int y205_2)]) [] (WW Z A sc205 ++ ex) 0 0 := by
        intro k205
        induction k205 with
        | zero => intro sc205 y205_1 y205_2 hIc205 hFc205 j205_1 j205_2 g205_0 g205_1 g205_2 mm205; exact absurd mm205 (Nat.not_lt_zero _)
        | succ k205 ih205 =>
          intro sc205 y205_1 y205_2 hIc205 hFc205 j205_1 j205_2 g205_0 g205_1 g205_2 mm205
          refine gg_w (M := 1 + k186 * 32401 + 1 + k205 * 900 + 900) (by omega) ?_
          refine g_iload_n 206 (gd rfl) rfl rfl ?_
          refine g_if_lt 209 244 (gd rfl) rfl rfl (fun c206 => ?_) (fun c206 => ?_)
          · skip
            have i206 := z_lt (-1) (-1) c206 j205_2 rfl
            refine g_goto 186 (gd rfl) rfl ?_
            have n186 : PP sc205 := by first | exact pp_0 g163_0 (fun k hk => g163_1 k (by unfold nnq at hk; rw [hFc163.2.2.1 109 20 rfl, ← e_109_20] at hk; have a0 := ro_109_20; unfold In at a0; have a1 := ro_109_19; unfold In at a1; have a2 := i206; unfold In at a2; have a3 := j205_1; unfold In at a3; omega)) | (obtain ⟨n, hn⟩ := g205_0; exact flp_pp hn (by have a0 := ro_109_20; unfold In at a0; have a1 := ro_109_19; unfold In at a1; have a2 := i206; unfold In at a2; have a3 := j205_1; unfold In at a3; omega))
            have m186 : 2 * cM (sc205.1 151) (s.2.2.1 109 20).toNatClampNeg + (y205_1).toInt.toNat < k186 := by have hm := mm186; have hj := g205_1; rcases g205_2 with h | ⟨h1, h2⟩; (have a0 := ro_109_20; unfold In at a0; have a1 := ro_109_19; unfold In at a1; have a2 := i206; unfold In at a2; have a3 := j205_1; unfold In at a3; omega); (rcases h2 with h2 | h2; (exfalso; have hc := c206; omega); (have a0 := ro_109_20; unfold In at a0; have a1 := ro_109_19; unfold In at a1; have a2 := i206; unfold In at a2; have a3 := j205_1; unfold In at a3; omega))
            exact gg_w (by omega) (gg_f (gf_cons rfl (gf_cons rfl gf_nil)) (ih186  sc205 y205_1 hIc205 hFc205 (in_w 0 1 j205_1 rfl) n186 m186))
          · skip
            have i206 := z_ge 0 31 c206 j205_2 rfl
            refine g_aload_n 210 (gd rfl) rfl rfl ?_
            refine g_getA (q2 := 148) 213 (gd rfl) rfl rfl rfl rfl ?_
            refine g_iload_n 214 (gd rfl) rfl rfl ?_
            refine g_iaload 215 (gd rfl) rfl (n := 34) rfl (in_ix i206 rfl) (fun z214 e214 => ?_)
            have i214 := inv_I hIc205 (n := 34) (t := 0) (-1) 1000 rfl (in_ix i206 rfl) rfl e214
            have i215 : In z214 0 31 := by obtain ⟨n, hn⟩ := g205_0; have hu := flp_u hn i206.1; rw [show sc205.1 148 y205_2.toInt.toNat = z214 from e214.symm] at hu; exact ⟨hu.1, hu.2.1⟩
            refine g_istore_n 216 (gd rfl) rfl (Nat.le_of_ble_eq_true rfl) ?_
            refine g_aload_n 217 (gd rfl) rfl rfl ?_
            refine g_getA (q2 := 151) 220 (gd rfl) rfl rfl rfl rfl ?_
            refine g_iload_n 221 (gd rfl) rfl rfl ?_
            refine g_iaload 222 (gd rfl) rfl (n := 32) rfl (in_ix i215 rfl) (fun z221 e221 => ?_)
            have i221 := inv_I hIc205 (n := 32) (t := 0) (-1) 31 rfl (in_ix i215 rfl) rfl e221
            refine g_istore 224 (gd rfl) rfl (Nat.le_of_ble_eq_true rfl) ?_
            refine g_aload_n 225 (gd rfl) rfl rfl ?_
            refine g_getA (q2 := 151) 228 (gd rfl) rfl rfl rfl rfl ?_
            refine g_iload_n 229 (gd rfl) rfl rfl ?_
            refine g_iload_n 230 (gd rfl) rfl rfl ?_
            refine g_iastore 231 (gd rfl) rfl (n := 32) rfl (in_ix i215 rfl) ?_
            have hI230 := inv_sI (q := 151) (j := z214.toNatClampNeg) hIc205 rfl (in_w (-1) 31 i206 rfl)
            refine g_aload_n 232 (gd rfl) rfl rfl ?_
            refine g_getA (q2 := 151) 235 (gd rfl) rfl rfl rfl rfl ?_
            refine g_iload_n 236 (gd rfl) rfl rfl ?_
            refine g_iload_n 237 (gd rfl) rfl rfl ?_
            refine g_iastore 238 (gd rfl) rfl (n := 32) rfl (in_ix i206 rfl) ?_
            have hI237 := inv_sI (q := 151) (j := y205_2.toNatClampNeg) hI230 rfl (in_w (-1) 31 i215 rfl)
            refine g_iload 240 (gd rfl) rfl rfl ?_
            refine g_istore_n 241 (gd rfl) rfl (Nat.le_of_ble_eq_true rfl) ?_
            refine g_goto 205 (gd rfl) rfl ?_
            have n205 : ∃ n, FLP (sI (sI sc205 151 z214.toNatClampNeg y205_2) 151 y205_2.toNatClampNeg z214) (z221).toInt n := by first | (obtain ⟨n, _, hn⟩ := p191a; exact ⟨n, hn⟩) | (obtain ⟨n, hn⟩ := g205_0; obtain ⟨k, hk, hf⟩ := flp_s hn i206.1 e214 e221 i221; exact ⟨k, hf⟩)
            have n205a : y186_1.toInt = 1 := by first | exact g205_1 | (have hj := j186_1; unfold In at hj; have hc := c187; omega)
            have n205b : cM ((sI (sI sc205 151 z214.toNatClampNeg y205_2) 151 y205_2.toNatClampNeg z214).1 151) (s.2.2.1 109 20).toNatClampNeg < cM (sc186.1 151) (s.2.2.1 109 20).toNatClampNeg ∨ (cM ((sI (sI sc205 151 z214.toNatClampNeg y205_2) 151 y205_2.toNatClampNeg z214).1 151) (s.2.2.1 109 20).toNatClampNeg ≤ cM (sc186.1 151) (s.2.2.1 109 20).toNatClampNeg ∧ ((0 ≤ (z221).toInt ∧ ((sI (sI sc205 151 z214.toNatClampNeg y205_2) 151 y205_2.toNatClampNeg z214).1 151 (z221).toNatClampNeg).toInt < 0) ∨ (y205_1).toInt = 0)) := by first | exact Or.inr ⟨by rw [hF191.1 151 rfl]; exact Nat.le_refl _, Or.inl ⟨i196.1, p191b i196.1⟩⟩ | exact Or.inr ⟨by rw [hF191.1 151 rfl]; exact Nat.le_refl _, Or.inr (by decide)⟩ | (obtain ⟨n, hn⟩ := g205_0; have hu := flp_u hn i206.1; have hf := cM_fl (f := sc205.1 151) (N := (s.2.2.1 109 20).toNatClampNeg) i206 i215 (by show y205_2.toInt.toNat < (s.2.2.1 109 20).toInt.toNat; have h := hu.2.2.1; unfold nnq at h; rw [hFc205.2.2.1 109 20 rfl] at h; have h0 := i206.1; omega); rw [show ((sI (sI sc205 151 z214.toNatClampNeg y205_2) 151 y205_2.toNatClampNeg z214)).1 151 = upd (upd (sc205.1 151) z214.toNatClampNeg y205_2) y205_2.toNatClampNeg z214 from (by rw [sI_q, sI_q])]; rcases g205_2 with h | ⟨h1, h2⟩; (exact Or.inl (by omega)); (rcases h2 with h2 | h2; (exact Or.inl (by have h3 := hf.2 h2.2; omega)); (exact Or.inr ⟨by omega, Or.inr h2⟩)))
            have m205 : lst (FLP (sI (sI sc205 151 z214.toNatClampNeg y205_2) 151 y205_2.toNatClampNeg z214) (z221).toInt) < k205 := by have hl := lst_ok g205_0; obtain ⟨k, hk, hf⟩ := flp_s hl.1 i206.1 e214 e221 i221; have h2 := (lst_ok ⟨k, hf⟩).2 k hf; have hm := mm205; omega
            exact gg_w (by omega) (gg_f (gf_cons rfl (gf_cons rfl (gf_cons rfl gf_nil))) (ih205  (sI (sI sc205 151 z214.toNatClampNeg y205_2) 151 y205_2.toNatClampNeg z214) y205_1 z221 hI237 (fr_sI rfl (fr_sI rfl hFc205)) (in_w 0 1 j205_1 rfl) (in_w (-1) 31 i221 rfl) n205 n205a n205b m205))
      refine g_iload_n 187 (gd rfl) rfl rfl ?_
      refine g_if_eq 190 247 (gd rfl) rfl rfl (fun c187 => ?_) (fun c187 => ?_)
      · skip
        have i187 := z_eq 0 0 c187 j186_1 rfl
        exact g_return (gd rfl) rfl (hP _ _ ⟨sc186, hIc186, hFc186, rfl, rfl⟩)
      · skip
        have i187 := z_ne 1 1 c187 j186_1 rfl
        refine g_aload_n 191 (gd rfl) rfl rfl ?_
        have p191 : PP sc186 := by exact g186_0
        refine g_callv (X := _) (As := []) (r := []) (b := A 109) (q := 109) 194 (gd rfl) rfl rfl rfl rfl rfl (ww_o rfl) (Nat.le_of_ble_eq_true rfl) (Nat.zero_le _) (Nat.zero_le _) (k_361 (by omega) hIc186 p191) (fun e u h => h) (fun v u h => ?_)
        obtain ⟨s191, hI191, hF191, z191, rfl, rfl, i191, p191a, p191b⟩ := h
        show GG _ _ _ _ _ _ _ _ [.int z191] _ _ _
        refine g_istore_n 195 (gd rfl) rfl (Nat.le_of_ble_eq_true rfl) ?_
        refine g_iload_n 196 (gd rfl) rfl rfl ?_
        refine g_if_lt 199 203 (gd rfl) rfl rfl (fun c196 => ?_) (fun c196 => ?_)
        · skip
          have i196 := z_lt (-1) (-1) c196 i191 rfl
          refine g_iconst 0 204 (gd rfl) rfl rfl ?_
          refine g_istore_n 205 (gd rfl) rfl (Nat.le_of_ble_eq_true rfl) ?_
          have n205 : ∃ n, FLP s191 (z191).toInt n := by first | (obtain ⟨n, _, hn⟩ := p191a; exact ⟨n, hn⟩) | (obtain ⟨n, hn⟩ := g205_0; obtain ⟨k, hk, hf⟩ := flp_s hn i206.1 e214 e221 i221; exact ⟨k, hf⟩)
          have n205a : y186_1.toInt = 1 := by first | exact g205_1 | (have hj := j186_1; unfold In at hj; have hc := c187; omega)
          have n205b : cM (s191.1 151) (s.2.2.1 109 20).toNatClampNeg < cM (sc186.1 151) (s.2.2.1 109 20).toNatClampNeg ∨ (cM (s191.1 151) (s.2.2.1 109 20).toNatClampNeg ≤ cM (sc186.1 151) (s.2.2.1 109 20).toNatClampNeg ∧ ((0 ≤ (z191).toInt ∧ (s191.1 151 (z191).toNatClampNeg).toInt < 0) ∨ ((Int32.ofInt 0)).toInt = 0)) := by first | exact Or.inr ⟨by rw [hF191.1 151 rfl]; exact Nat.le_refl _, Or.inl ⟨i196.1, p191b i196.1⟩⟩ | exact Or.inr ⟨by rw [hF191.1 151 rfl]; exact Nat.le_refl _, Or.inr (by decide)⟩ | (obtain ⟨n, hn⟩ := g205_0; have hu := flp_u hn i206.1; have hf := cM_fl (f := sc205.1 151) (N := (s.2.2.1 109 20).toNatClampNeg) i206 i215 (by show y205_2.toInt.toNat < (s.2.2.1 109 20).toInt.toNat; have h := hu.2.2.1; unfold nnq at h; rw [hFc205.2.2.1 109 20 rfl] at h; have h0 := i206.1; omega); rw [show (s191).1 151 = upd (upd (sc205.1 151) z214.toNatClampNeg y205_2) y205_2.toNatClampNeg z214 from (by rw [sI_q, sI_q])]; rcases g205_2 with h | ⟨h1, h2⟩; (exact Or.inl (by omega)); (rcases h2 with h2 | h2; (exact Or.inl (by have h3 := hf.2 h2.2; omega)); (exact Or.inr ⟨by omega, Or.inr h2⟩)))
          have m205 : lst (FLP s191 (z191).toInt) < 33 := by obtain ⟨n, hn1, hn⟩ := p191a; have h := (lst_ok ⟨n, hn⟩).2 n hn; omega
          exact gg_w (by omega) (gg_f (gf_cons rfl (gf_cons rfl (gf_cons rfl gf_nil))) (ct205 (33) s191 (Int32.ofInt 0) z191 hI191 (fr_tr rfl hFc186 hF191) (in_w 0 1 (in_c 0 rfl) rfl) (in_w (-1) 31 i196 rfl) n205 n205a n205b m205))
        · skip
          have i196 := z_ge 0 31 c196 i191 rfl
          refine g_iconst 1 200 (gd rfl) rfl rfl ?_
          refine g_goto 204 (gd rfl) rfl ?_
          refine g_istore_n 205 (gd rfl) rfl (Nat.le_of_ble_eq_true rfl) ?_
          have n205 : ∃ n, FLP s191 (z191).toInt n := by first | (obtain ⟨n, _, hn⟩ := p191a; exact ⟨n, hn⟩) | (obtain ⟨n, hn⟩ := g205_0; obtain ⟨k, hk, hf⟩ := flp_s hn i206.1 e214 e221 i221; exact ⟨k, hf⟩)
          have n205a : y186_1.toInt = 1 := by first | exact g205_1 | (have hj := j186_1; unfold In at hj; have hc := c187; omega)
          have n205b : cM (s191.1 151) (s.2.2.1 109 20).toNatClampNeg < cM (sc186.1 151) (s.2.2.1 109 20).toNatClampNeg ∨ (cM (s191.1 151) (s.2.2.1 109 20).toNatClampNeg ≤ cM (sc186.1 151) (s.2.2.1 109 20).toNatClampNeg ∧ ((0 ≤ (z191).toInt ∧ (s191.1 151 (z191).toNatClampNeg).toInt < 0) ∨ ((Int32.ofInt 1)).toInt = 0)) := by first | exact Or.inr ⟨by rw [hF191.1 151 rfl]; exact Nat.le_refl _, Or.inl ⟨i196.1, p191b i196.1⟩⟩ | exact Or.inr ⟨by rw [hF191.1 151 rfl]; exact Nat.le_refl _, Or.inr (by decide)⟩ | (obtain ⟨n, hn⟩ := g205_0; have hu := flp_u hn i206.1; have hf := cM_fl (f := sc205.1 151) (N := (s.2.2.1 109 20).toNatClampNeg) i206 i215 (by show y205_2.toInt.toNat < (s.2.2.1 109 20).toInt.toNat; have h := hu.2.2.1; unfold nnq at h; rw [hFc205.2.2.1 109 20 rfl] at h; have h0 := i206.1; omega); rw [show (s191).1 151 = upd (upd (sc205.1 151) z214.toNatClampNeg y205_2) y205_2.toNatClampNeg z214 from (by rw [sI_q, sI_q])]; rcases g205_2 with h | ⟨h1, h2⟩; (exact Or.inl (by omega)); (rcases h2 with h2 | h2; (exact Or.inl (by have h3 := hf.2 h2.2; omega)); (exact Or.inr ⟨by omega, Or.inr h2⟩)))
          have m205 : lst (FLP s191 (z191).toInt) < 33 := by obtain ⟨n, hn1, hn⟩ := p191a; have h := (lst_ok ⟨n, hn⟩).2 n hn; omega
          exact gg_w (by omega) (gg_f (gf_cons rfl (gf_cons rfl (gf_cons rfl gf_nil))) (ct205 (33) s191 (Int32.ofInt 1) z191 hI191 (fr_tr rfl hFc186 hF191) (in_w 0 1 (in_c 1 rfl) rfl) (in_w (-1) 31 i196 rfl) n205 n205a n205b m205))
  have ct163 : ∀ (k163 : Nat) (sc163 : GS) (y163_1 : Int32), Inv sc163 → Fr fm_360 s sc163 → (In y163_1 0 32) → (PWI sc163) → (∀ k : Nat, (k : Int) < (y163_1).toInt → (sc163.1 151 k).toInt < 0) → 32 - (y163_1).toInt < (k163 : Int) → GG Z (d - 1) 360 post (gx xp) (2138468 + k163 * 900) 163 (fun j => xlook j [(0, .ref (A 109)), (1, .int y163_1)]) [] (WW Z A sc163 ++ ex) 0 0 := by
    intro k163
    induction k163 with
    | zero => intro sc163 y163_1 hIc163 hFc163 j163_1 g163_0 g163_1 mm163; exact m_no mm163 j163_1 rfl
    | succ k163 ih163 =>
      intro sc163 y163_1 hIc163 hFc163 j163_1 g163_0 g163_1 mm163
      refine gg_w (M := 2138468 + k163 * 900 + 900) (by omega) ?_
      refine g_iload_n 164 (gd rfl) rfl rfl ?_
      refine g_aload_n 165 (gd rfl) rfl rfl ?_
      refine g_getI 168 (gd rfl) rfl rfl rfl (fun z165 e165 => ?_)
      have q165 : u_109_20 = z165 := (fr_F e_109_20 hFc163 rfl).trans e165.symm
      subst q165
      refine g_cmp_ge 171 184 (gd rfl) rfl rfl (fun c168 => ?_) (fun c168 => ?_)
      · skip
        refine g_iconst 1 185 (gd rfl) rfl rfl ?_
        refine g_istore_n 186 (gd rfl) rfl (Nat.le_of_ble_eq_true rfl) ?_
        have n186 : PP sc163 := by first | exact pp_0 g163_0 (fun k hk => g163_1 k (by unfold nnq at hk; rw [hFc163.2.2.1 109 20 rfl, ← e_109_20] at hk; have a0 := ro_109_20; unfold In at a0; have a1 := ro_109_19; unfold In at a1; have a2 := j163_1; unfold In at a2; have a3 := (in_c 1 rfl); unfold In at a3; omega)) | (obtain ⟨n, hn⟩ := g205_0; exact flp_pp hn (by have a0 := ro_109_20; unfold In at a0; have a1 := ro_109_19; unfold In at a1; have a2 := j163_1; unfold In at a2; have a3 := (in_c 1 rfl); unfold In at a3; omega))
        have m186 : 2 * cM (sc163.1 151) (s.2.2.1 109 20).toNatClampNeg + ((Int32.ofInt 1)).toInt.toNat < 66 := by have h := cM_le (sc163.1 151) (s.2.2.1 109 20).toNatClampNeg; have hn : (s.2.2.1 109 20).toNatClampNeg ≤ 32 := (by rw [← e_109_20]; show u_109_20.toInt.toNat ≤ 32; have a0 := ro_109_20; unfold In at a0; have a1 := ro_109_19; unfold In at a1; have a2 := j163_1; unfold In at a2; have a3 := (in_c 1 rfl); unfold In at a3; omega); have h1 : (Int32.ofInt 1).toInt.toNat = 1 := rfl; omega
        exact gg_w (by omega) (gg_f (gf_cons rfl (gf_cons rfl gf_nil)) (ct186 (66) sc163 (Int32.ofInt 1) hIc163 hFc163 (in_w 0 1 (in_c 1 rfl) rfl) n186 m186))
      · skip
        have i168 := r_lt1 0 31 c168 j163_1 ro_109_20 rfl
        have i168a := r_lt2 1 32 c168 j163_1 ro_109_20 rfl
        refine g_aload_n 172 (gd rfl) rfl rfl ?_
        refine g_getA (q2 := 151) 175 (gd rfl) rfl rfl rfl rfl ?_
        refine g_iload_n 176 (gd rfl) rfl rfl ?_
        refine g_iconst (-1) 177 (gd rfl) rfl rfl ?_
        refine g_iastore 178 (gd rfl) rfl (n := 32) rfl (in_ix i168 rfl) ?_
        have hI177 := inv_sI (q := 151) (j := y163_1.toNatClampNeg) hIc163 rfl (in_w (-1) 31 (in_c (-1) rfl) rfl)
        refine g_iinc 181 (gd rfl) rfl rfl (Nat.le_of_ble_eq_true rfl) (fun z178 e178 => ?_)
        have i178 := in_add 1 32 e178 i168 (in_c 1 rfl) rfl rfl
        refine g_goto 163 (gd rfl) rfl ?_
        have n163 : PWI (sI sc163 151 y163_1.toNatClampNeg (Int32.ofInt (-1))) := by first | exact g26_0 | exact pwi_cg g163_0 (sI_p rfl) rfl rfl rfl
        have n163a : ∀ k : Nat, (k : Int) < (z178).toInt → ((sI sc163 151 y163_1.toNatClampNeg (Int32.ofInt (-1))).1 151 k).toInt < 0 := by first | (intro k hk; exfalso; have h0 : (Int32.ofInt 0).toInt = 0 := rfl; omega) | (intro k hk; rw [sI_q]; unfold upd; have e3 : y163_1.toNatClampNeg = y163_1.toInt.toNat := rfl; by_cases c : k = y163_1.toNatClampNeg; (rw [if_pos c]; decide); (rw [if_neg c]; exact g163_1 k (by have a0 := i168a; unfold In at a0; have a1 := ro_109_19; unfold In at a1; have a2 := i168; unfold In at a2; have a3 := i178; unfold In at a3; have a4 := t_add e178 i168 (in_c 1 rfl) rfl; have a5 := (in_c 1 rfl); unfold In at a5; omega)))
        exact gg_w (by omega) (gg_f (gf_cons rfl (gf_cons rfl gf_nil)) (ih163 (sI sc163 151 y163_1.toNatClampNeg (Int32.ofInt (-1))) z178 hI177 (fr_sI rfl hFc163) (in_w 0 32 i178 rfl) n163 n163a (m_up mm163 (t_add e178 i168 (in_c 1 rfl) rfl) (in_w 1 1 (in_c 1 rfl) rfl))))
  have ct26 : ∀ (k26 : Nat) (sc26 : GS) (y26_1 : Int32), Inv sc26 → Fr fm_360 s sc26 → (In y26_1 0 160) → (PWI sc26) → 160 - (y26_1).toInt < (k26 : Int) → GG Z (d - 1) 360 post (gx xp) (2168169 + k26 * 900) 26 (fun j => xlook j [(0, .ref (A 109)), (1, .int y26_1)]) [] (WW Z A sc26 ++ ex) 0 0 := by
    intro k26
    induction k26 with
    | zero => intro sc26 y26_1 hIc26 hFc26 j26_1 g26_0 mm26; exact m_no mm26 j26_1 rfl
    | succ k26 ih26 =>
      intro sc26 y26_1 hIc26 hFc26 j26_1 g26_0 mm26
      refine gg_w (M := 2168169 + k26 * 900 + 900) (by omega) ?_
      refine g_iload_n 27 (gd rfl) rfl rfl ?_
      refine g_sipush 160 30 (gd rfl) rfl rfl ?_
      refine g_cmp_ge 33 161 (gd rfl) rfl rfl (fun c30 => ?_) (fun c30 => ?_)
      · skip
        have i30 := r_le2 160 160 c30 (in_c 160 rfl) j26_1 rfl
        refine g_iconst 0 162 (gd rfl) rfl rfl ?_
        refine g_istore_n 163 (gd rfl) rfl (Nat.le_of_ble_eq_true rfl) ?_
        have n163 : PWI sc26 := by first | exact g26_0 | exact pwi_cg g163_0 (sI_p rfl) rfl rfl rfl
        have n163a : ∀ k : Nat, (k : Int) < ((Int32.ofInt 0)).toInt → (sc26.1 151 k).toInt < 0 := by first | (intro k hk; exfalso; have h0 : (Int32.ofInt 0).toInt = 0 := rfl; omega) | (intro k hk; rw [sI_q]; unfold upd; have e3 : y163_1.toNatClampNeg = y163_1.toInt.toNat := rfl; by_cases c : k = y163_1.toNatClampNeg; (rw [if_pos c]; decide); (rw [if_neg c]; exact g163_1 k (by have a0 := ro_109_20; unfold In at a0; have a1 := ro_109_19; unfold In at a1; have a2 := i30; unfold In at a2; have a3 := (in_c 0 rfl); unfold In at a3; omega)))
        exact gg_w (by omega) (gg_f (gf_cons rfl (gf_cons rfl gf_nil)) (ct163 33 sc26 (Int32.ofInt 0) hIc26 hFc26 (in_w 0 32 (in_c 0 rfl) rfl) n163 n163a (m_in 33 (in_w 0 32 (in_c 0 rfl) rfl) rfl)))
      · skip
        have i30 := r_lt1 0 159 c30 j26_1 (in_c 160 rfl) rfl
        refine g_aload_n 34 (gd rfl) rfl rfl ?_
        refine g_iload_n 35 (gd rfl) rfl rfl ?_
        refine g_callv (X := _) (As := [.int y26_1]) (r := []) (b := A 109) (q := 109) 38 (gd rfl) rfl rfl rfl rfl rfl (ww_o rfl) (Nat.le_of_ble_eq_true rfl) (mc := 0) (ms := 0) (Nat.zero_le _) (Nat.zero_le _) (P := fun v u => _) ?_ (fun e u h => h) (fun v u h => h)
        intro po35 xx35 hp35 hx35
        refine g_enter2 (k := 288) (N := 300) (by omega) rfl (Nat.le_of_ble_eq_true rfl) ?_
        refine g_aload_n 1 (gd rfl) rfl rfl ?_
        refine g_getA (q2 := 112) 4 (gd rfl) rfl rfl rfl rfl ?_
        refine g_aload_n 5 (gd rfl) rfl rfl ?_
        refine g_getI 8 (gd rfl) rfl rfl rfl (fun z35x5 e35x5 => ?_)
        have q35x5 : u_109_19 = z35x5 := (fr_F e_109_19 hFc26 rfl).trans e35x5.symm
        subst q35x5
        refine g_iload_n 9 (gd rfl) rfl rfl ?_
        refine g_iadd 10 (gd rfl) rfl (fun z35x9 e35x9 => ?_)
        have i35x9 := in_add 0 319 e35x9 ro_109_19 i30 rfl rfl
        refine g_baload 11 (gd rfl) rfl (n := 480) rfl (in_ix i35x9 rfl) (fun z35x10 e35x10 => ?_)
        have i35x10 := inv_I hIc26 (n := 480) (t := 3) 0 1 rfl (in_ix i35x9 rfl) rfl e35x10
        refine g_if_eq 14 43 (gd rfl) rfl rfl (fun c35x11 => ?_) (fun c35x11 => ?_)
        · skip
          have i35x11 := z_eq 0 0 c35x11 i35x10 rfl
          refine g_iconst 0 44 (gd rfl) rfl rfl ?_
          refine g_ireturn (gd rfl) rfl (nb01 (in_w 0 1 (in_c 0 rfl) rfl)) (hp35 _ _ ?_)
          show GG _ _ _ _ _ _ _ _ [.int (Int32.ofInt 0)] _ _ _
          refine g_if_eq 41 155 (gd rfl) rfl rfl (fun c38 => ?_) (fun c38 => ?_)
          · skip
            refine g_iinc 158 (gd rfl) rfl rfl (Nat.le_of_ble_eq_true rfl) (fun z155 e155 => ?_)
            have i155 := in_add 1 160 e155 i30 (in_c 1 rfl) rfl rfl
            refine g_goto 26 (gd rfl) rfl ?_
            have n26 : PWI sc26 := by exact g26_0
            exact gg_w (by omega) (gg_f (gf_cons rfl (gf_cons rfl gf_nil)) (ih26 sc26 z155 hIc26 hFc26 (in_w 0 160 i155 rfl) n26 (m_up mm26 (t_add e155 i30 (in_c 1 rfl) rfl) (in_w 1 1 (in_c 1 rfl) rfl))))
          · skip
            exact zn_ne c38 (in_c 0 rfl) rfl
        · skip
          have i35x11 := z_ne 1 1 c35x11 i35x10 rfl
          refine g_aload_n 15 (gd rfl) rfl rfl ?_
          refine g_getA (q2 := 113) 18 (gd rfl) rfl rfl rfl rfl ?_
          refine g_aload_n 19 (gd rfl) rfl rfl ?_
          refine g_getI 22 (gd rfl) rfl rfl rfl (fun z35x19 e35x19 => ?_)
          have q35x19 : u_109_19 = z35x19 := (fr_F e_109_19 hFc26 rfl).trans e35x19.symm
          subst q35x19
          refine g_iload_n 23 (gd rfl) rfl rfl ?_
          refine g_iadd 24 (gd rfl) rfl (fun z35x23 e35x23 => ?_)
          have i35x23 := in_add 0 319 e35x23 ro_109_19 i30 rfl rfl
          refine g_iaload 25 (gd rfl) rfl (n := 480) rfl (in_ix i35x23 rfl) (fun z35x24 e35x24 => ?_)
          have i35x24 := inv_I hIc26 (n := 480) (t := 0) 0 31 rfl (in_ix i35x23 rfl) rfl e35x24
          refine g_aload_n 26 (gd rfl) rfl rfl ?_
          refine g_getA (q2 := 114) 29 (gd rfl) rfl rfl rfl rfl ?_
          refine g_aload_n 30 (gd rfl) rfl rfl ?_
          refine g_getI 33 (gd rfl) rfl rfl rfl (fun z35x30 e35x30 => ?_)
          have q35x30 : u_109_19 = z35x30 := (fr_F e_109_19 hFc26 rfl).trans e35x30.symm
          subst q35x30
          refine g_iload_n 34 (gd rfl) rfl rfl ?_
          refine g_iadd 35 (gd rfl) rfl (fun z35x34 e35x34 => ?_)
          have i35x34 := in_add 0 319 e35x34 ro_109_19 i30 rfl rfl
          refine g_iaload 36 (gd rfl) rfl (n := 480) rfl (in_ix i35x34 rfl) (fun z35x35 e35x35 => ?_)
          have i35x35 := inv_I hIc26 (n := 480) (t := 0) 0 31 rfl (in_ix i35x34 rfl) rfl e35x35
          refine g_cmp_eq 39 43 (gd rfl) rfl rfl (fun c35x36 => ?_) (fun c35x36 => ?_)
          · skip
            refine g_iconst 0 44 (gd rfl) rfl rfl ?_
            refine g_ireturn (gd rfl) rfl (nb01 (in_w 0 1 (in_c 0 rfl) rfl)) (hp35 _ _ ?_)
            show GG _ _ _ _ _ _ _ _ [.int (Int32.ofInt 0)] _ _ _
            refine g_if_eq 41 155 (gd rfl) rfl rfl (fun c38 => ?_) (fun c38 => ?_)
            · skip
              refine g_iinc 158 (gd rfl) rfl rfl (Nat.le_of_ble_eq_true rfl) (fun z155 e155 => ?_)
              have i155 := in_add 1 160 e155 i30 (in_c 1 rfl) rfl rfl
              refine g_goto 26 (gd rfl) rfl ?_
              have n26 : PWI sc26 := by exact g26_0
              exact gg_w (by omega) (gg_f (gf_cons rfl (gf_cons rfl gf_nil)) (ih26 sc26 z155 hIc26 hFc26 (in_w 0 160 i155 rfl) n26 (m_up mm26 (t_add e155 i30 (in_c 1 rfl) rfl) (in_w 1 1 (in_c 1 rfl) rfl))))
            · skip
              exact zn_ne c38 (in_c 0 rfl) rfl
          · skip
            refine g_iconst 1 40 (gd rfl) rfl rfl ?_
            refine g_goto 44 (gd rfl) rfl ?_
            refine g_ireturn (gd rfl) rfl (nb01 (in_w 0 1 (in_c 1 rfl) rfl)) (hp35 _ _ ?_)
            show GG _ _ _ _ _ _ _ _ [.int (Int32.ofInt 1)] _ _ _
            refine g_if_eq 41 155 (gd rfl) rfl rfl (fun c38 => ?_) (fun c38 => ?_)
            · skip
              exact zn_eq c38 (in_c 1 rfl) rfl
            · skip
              refine g_aload_n 42 (gd rfl) rfl rfl ?_
              refine g_getA (q2 := 113) 45 (gd rfl) rfl rfl rfl rfl ?_
              refine g_aload_n 46 (gd rfl) rfl rfl ?_
              refine g_getI 49 (gd rfl) rfl rfl rfl (fun z46 e46 => ?_)
              have q46 : u_109_19 = z46 := (fr_F e_109_19 hFc26 rfl).trans e46.symm
              subst q46
              refine g_iload_n 50 (gd rfl) rfl rfl ?_
              refine g_iadd 51 (gd rfl) rfl (fun z50 e50 => ?_)
              have i50 := in_add 0 319 e50 ro_109_19 i30 rfl rfl
              refine g_iaload 52 (gd rfl) rfl (n := 480) rfl (in_ix i50 rfl) (fun z51 e51 => ?_)
              have i51 := inv_I hIc26 (n := 480) (t := 0) 0 31 rfl (in_ix i50 rfl) rfl e51
              refine g_istore_n 53 (gd rfl) rfl (Nat.le_of_ble_eq_true rfl) ?_
              refine g_aload_n 54 (gd rfl) rfl rfl ?_
              refine g_getA (q2 := 114) 57 (gd rfl) rfl rfl rfl rfl ?_
              refine g_aload_n 58 (gd rfl) rfl rfl ?_
              refine g_getI 61 (gd rfl) rfl rfl rfl (fun z58 e58 => ?_)
              have q58 : u_109_19 = z58 := (fr_F e_109_19 hFc26 rfl).trans e58.symm
              subst q58
              refine g_iload_n 62 (gd rfl) rfl rfl ?_
              refine g_iadd 63 (gd rfl) rfl (fun z62 e62 => ?_)
              have i62 := in_add 0 319 e62 ro_109_19 i30 rfl rfl
              refine g_iaload 64 (gd rfl) rfl (n := 480) rfl (in_ix i62 rfl) (fun z63 e63 => ?_)
              have i63 := inv_I hIc26 (n := 480) (t := 0) 0 31 rfl (in_ix i62 rfl) rfl e63
              refine g_istore_n 65 (gd rfl) rfl (Nat.le_of_ble_eq_true rfl) ?_
              have hk65 := ke_n hIc26 (i := z35x9.toNatClampNeg) (by rw [← (show u_109_19 = sc26.2.2.1 109 19 from fr_F e_109_19 hFc26 rfl)]; show _ ≤ ((z35x9.toInt.toNat : Nat) : Int); have a0 := ro_109_20; unfold In at a0; have a1 := ro_109_19; unfold In at a1; have a2 := i30; unfold In at a2; have a3 := i63; unfold In at a3; have a4 := i51; unfold In at a4; have a5 := i62; unfold In at a5; have a6 := t_add e62 ro_109_19 i30 rfl; have a7 := i50; unfold In at a7; have a8 := t_add e50 ro_109_19 i30 rfl; have a9 := i35x34; unfold In at a9; have a10 := t_add e35x34 ro_109_19 i30 rfl; have a11 := i35x23; unfold In at a11; have a12 := t_add e35x23 ro_109_19 i30 rfl; have a13 := i35x9; unfold In at a13; have a14 := t_add e35x9 ro_109_19 i30 rfl; omega) (by rw [← (show u_109_19 = sc26.2.2.1 109 19 from fr_F e_109_19 hFc26 rfl)]; show ((z35x9.toInt.toNat : Nat) : Int) < _; have a0 := ro_109_20; unfold In at a0; have a1 := ro_109_19; unfold In at a1; have a2 := i30; unfold In at a2; have a3 := i63; unfold In at a3; have a4 := i51; unfold In at a4; have a5 := i62; unfold In at a5; have a6 := t_add e62 ro_109_19 i30 rfl; have a7 := i50; unfold In at a7; have a8 := t_add e50 ro_109_19 i30 rfl; have a9 := i35x34; unfold In at a9; have a10 := t_add e35x34 ro_109_19 i30 rfl; have a11 := i35x23; unfold In at a11; have a12 := t_add e35x23 ro_109_19 i30 rfl; have a13 := i35x9; unfold In at a13; have a14 := t_add e35x9 ro_109_19 i30 rfl; omega) (by rw [← e35x10]; exact c35x11); have ez65 : z50 = z35x9 := e50.trans e35x9.symm; have ey65 : z62 = z35x9 := e62.trans e35x9.symm
              refine g_aload_n 66 (gd rfl) rfl rfl ?_
              refine g_iload_n 67 (gd rfl) rfl rfl ?_
              refine g_callv (X := _) (As := [.int z51]) (r := []) (b := A 109) (q := 109) 70 (gd rfl) rfl rfl rfl rfl rfl (ww_o rfl) (Nat.le_of_ble_eq_true rfl) (Nat.zero_le _) (Nat.zero_le _) (k_359 (by omega) hIc26 (in_w 0 31 i51 rfl)) (fun e u h => h) (fun v u h => ?_)
              obtain ⟨z67, rfl, rfl, i67, p67⟩ := h
              show GG _ _ _ _ _ _ _ _ [.int z67] _ _ _
              refine g_aload_n 71 (gd rfl) rfl rfl ?_
              refine g_iload_n 72 (gd rfl) rfl rfl ?_
              refine g_callv (X := _) (As := [.int z63]) (r := [.int z67]) (b := A 109) (q := 109) 75 (gd rfl) rfl rfl rfl rfl rfl (ww_o rfl) (Nat.le_of_ble_eq_true rfl) (Nat.zero_le _) (Nat.zero_le _) (k_359 (by omega) hIc26 (in_w 0 31 i63 rfl)) (fun e u h => h) (fun v u h => ?_)
              obtain ⟨z72, rfl, rfl, i72, p72⟩ := h
              show GG _ _ _ _ _ _ _ _ [.int z72, .int z67] _ _ _
              refine g_cmp_eq 78 155 (gd rfl) rfl rfl (fun c75 => ?_) (fun c75 => ?_)
              · skip
                refine g_iinc 158 (gd rfl) rfl rfl (Nat.le_of_ble_eq_true rfl) (fun z155 e155 => ?_)
                have i155 := in_add 1 160 e155 i30 (in_c 1 rfl) rfl rfl
                refine g_goto 26 (gd rfl) rfl ?_
                have n26 : PWI sc26 := by exact g26_0
                exact gg_w (by omega) (gg_f (gf_cons rfl (gf_cons rfl gf_nil)) (ih26 sc26 z155 hIc26 hFc26 (in_w 0 160 i155 rfl) n26 (m_up mm26 (t_add e155 i30 (in_c 1 rfl) rfl) (in_w 1 1 (in_c 1 rfl) rfl))))
              · skip
                refine g_aload_n 79 (gd rfl) rfl rfl ?_
                refine g_iload_n 80 (gd rfl) rfl rfl ?_
                refine g_callv (X := _) (As := [.int z51]) (r := []) (b := A 109) (q := 109) 83 (gd rfl) rfl rfl rfl rfl rfl (ww_o rfl) (Nat.le_of_ble_eq_true rfl) (Nat.zero_le _) (Nat.zero_le _) (k_359 (by omega) hIc26 (in_w 0 31 i51 rfl)) (fun e u h => h) (fun v u h => ?_)
                obtain ⟨z80, rfl, rfl, i80, p80⟩ := h
                show GG _ _ _ _ _ _ _ _ [.int z80] _ _ _
                refine g_if_eq 86 95 (gd rfl) rfl rfl (fun c83 => ?_) (fun c83 => ?_)
                · skip
                  have i83 := z_eq 0 0 c83 i80 rfl
                  refine g_bipush 32 97 (gd rfl) rfl rfl ?_
                  refine g_iload_n 98 (gd rfl) rfl rfl ?_
                  refine g_imul 99 (gd rfl) rfl (fun z98 e98 => ?_)
                  have i98 := in_mulc 32 0 992 (Or.inl e98) i63 rfl rfl
                  refine g_iload_n 100 (gd rfl) rfl rfl ?_
                  refine g_iadd 101 (gd rfl) rfl (fun z100 e100 => ?_)
                  have i100 := in_add 0 1023 e100 i98 i51 rfl rfl
                  refine g_istore 103 (gd rfl) rfl (Nat.le_of_ble_eq_true rfl) ?_
                  refine g_aload_n 104 (gd rfl) rfl rfl ?_
                  refine g_getA (q2 := 152) 107 (gd rfl) rfl rfl rfl rfl ?_
                  refine g_iload 109 (gd rfl) rfl rfl ?_
                  refine g_aload_n 110 (gd rfl) rfl rfl ?_
                  refine g_getA (q2 := 115) 113 (gd rfl) rfl rfl rfl rfl ?_
                  refine g_aload_n 114 (gd rfl) rfl rfl ?_
                  refine g_getI 117 (gd rfl) rfl rfl rfl (fun z114 e114 => ?_)
                  have q114 : u_109_19 = z114 := (fr_F e_109_19 hFc26 rfl).trans e114.symm
                  subst q114
                  refine g_iload_n 118 (gd rfl) rfl rfl ?_
                  refine g_iadd 119 (gd rfl) rfl (fun z118 e118 => ?_)
                  have i118 := in_add 0 319 e118 ro_109_19 i30 rfl rfl
                  refine g_iaload 120 (gd rfl) rfl (n := 480) rfl (in_ix i118 rfl) (fun z119 e119 => ?_)
                  have i119 := inv_I hIc26 (n := 480) (t := 0) (-1000000) 1000000 rfl (in_ix i118 rfl) rfl e119
                  refine g_i2l 121 (gd rfl) rfl (fun z120 e120 => ?_)
                  have i120 := l_i e120 i119
                  refine g_aload_n 122 (gd rfl) rfl rfl ?_
                  refine g_getA (q2 := 152) 125 (gd rfl) rfl rfl rfl rfl ?_
                  refine g_iload 127 (gd rfl) rfl rfl ?_
                  refine g_laload 128 (gd rfl) rfl (n := 1024) rfl (in_ix i100 rfl) (fun z127 e127 => ?_)
                  refine g_lcmp 129 (gd rfl) rfl (fun z128 e128 => ?_)
                  have i128 := lc_in e128
                  refine g_if_ge 132 147 (gd rfl) rfl rfl (fun c129 => ?_) (fun c129 => ?_)
                  · skip
                    have i129 := z_ge 0 1 c129 i128 rfl
                    have c129a := lc_ge e128 c129
                    have i129a := lr_le1 (-9223372036854775808) 1000000 c129a (l_rng z127) i120 rfl
                    refine g_aload_n 148 (gd rfl) rfl rfl ?_
                    refine g_getA (q2 := 152) 151 (gd rfl) rfl rfl rfl rfl ?_
                    refine g_iload 153 (gd rfl) rfl rfl ?_
                    refine g_laload 154 (gd rfl) rfl (n := 1024) rfl (in_ix i100 rfl) (fun z153 e153 => ?_)
                    refine g_lastore 155 (gd rfl) rfl (n := 1024) rfl (in_ix i100 rfl) ?_
                    have hI154 := inv_sL (q := 152) (j := z100.toNatClampNeg) (x := z153) hIc26 rfl (l_rng z153)
                    refine g_iinc 158 (gd rfl) rfl rfl (Nat.le_of_ble_eq_true rfl) (fun z155 e155 => ?_)
                    have i155 := in_add 1 160 e155 i30 (in_c 1 rfl) rfl rfl
                    refine g_goto 26 (gd rfl) rfl ?_
                    have n26 : PWI (sL sc26 152 z100.toNatClampNeg z153) := by exact pwi_s (u := z63) (v := z51) (k := z100.toNatClampNeg) (w := z153) g26_0 i63 i51 (by show z100.toInt.toNat = 32 * z63.toInt.toNat + z51.toInt.toNat; have a0 := ro_109_20; unfold In at a0; have a1 := ro_109_19; unfold In at a1; have a2 := i30; unfold In at a2; have a3 := i100; unfold In at a3; have a4 := t_add e100 i98 i51 rfl; have a5 := i51; unfold In at a5; have a6 := i98; unfold In at a6; have a7 := (t_mulc 32 (Or.inl e98) i63 rfl).1; have a8 := i63; unfold In at a8; have a9 := i155; unfold In at a9; have a10 := t_add e155 i30 (in_c 1 rfl) rfl; have a11 := (in_c 1 rfl); unfold In at a11; have a12 := tx_i2l e120; have a13 := i119; unfold In at a13; have a14 := i118; unfold In at a14; have a15 := t_add e118 ro_109_19 i30 rfl; have a16 := i62; unfold In at a16; have a17 := t_add e62 ro_109_19 i30 rfl; have a18 := i50; unfold In at a18; have a19 := t_add e50 ro_109_19 i30 rfl; have a20 := i35x34; unfold In at a20; have a21 := t_add e35x34 ro_109_19 i30 rfl; have a22 := i35x23; unfold In at a22; have a23 := t_add e35x23 ro_109_19 i30 rfl; have a24 := i35x9; unfold In at a24; have a25 := t_add e35x9 ro_109_19 i30 rfl; omega) rfl rfl rfl (by simp [sL]) (Or.inl e153)
                    exact gg_w (by omega) (gg_f (gf_cons rfl (gf_cons rfl gf_nil)) (ih26 (sL sc26 152 z100.toNatClampNeg z153) z155 hI154 (fr_sL rfl hFc26) (in_w 0 160 i155 rfl) n26 (m_up mm26 (t_add e155 i30 (in_c 1 rfl) rfl) (in_w 1 1 (in_c 1 rfl) rfl))))
                  · skip
                    have i129 := z_lt (-1) (-1) c129 i128 rfl
                    have c129a := lc_lt e128 c129
                    have i129a := lr_lt2 (-999999) 9223372036854775807 c129a i120 (l_rng z127) rfl
                    refine g_aload_n 133 (gd rfl) rfl rfl ?_
                    refine g_getA (q2 := 115) 136 (gd rfl) rfl rfl rfl rfl ?_
                    refine g_aload_n 137 (gd rfl) rfl rfl ?_
                    refine g_getI 140 (gd rfl) rfl rfl rfl (fun z137 e137 => ?_)
                    have q137 : u_109_19 = z137 := (fr_F e_109_19 hFc26 rfl).trans e137.symm
                    subst q137
                    refine g_iload_n 141 (gd rfl) rfl rfl ?_
                    refine g_iadd 142 (gd rfl) rfl (fun z141 e141 => ?_)
                    have i141 := in_add 0 319 e141 ro_109_19 i30 rfl rfl
                    refine g_iaload 143 (gd rfl) rfl (n := 480) rfl (in_ix i141 rfl) (fun z142 e142 => ?_)
                    have i142 := inv_I hIc26 (n := 480) (t := 0) (-1000000) 1000000 rfl (in_ix i141 rfl) rfl e142
                    refine g_i2l 144 (gd rfl) rfl (fun z143 e143 => ?_)
                    have i143 := l_i e143 i142
                    refine g_goto 154 (gd rfl) rfl ?_
                    refine g_lastore 155 (gd rfl) rfl (n := 1024) rfl (in_ix i100 rfl) ?_
                    have hI154 := inv_sL (q := 152) (j := z100.toNatClampNeg) (x := z143) hIc26 rfl (l_rng z143)
                    refine g_iinc 158 (gd rfl) rfl rfl (Nat.le_of_ble_eq_true rfl) (fun z155 e155 => ?_)
                    have i155 := in_add 1 160 e155 i30 (in_c 1 rfl) rfl rfl
                    refine g_goto 26 (gd rfl) rfl ?_
                    have n26 : PWI (sL sc26 152 z100.toNatClampNeg z143) := by exact pwi_s (u := z63) (v := z51) (k := z100.toNatClampNeg) (w := z143) g26_0 i63 i51 (by show z100.toInt.toNat = 32 * z63.toInt.toNat + z51.toInt.toNat; have a0 := ro_109_20; unfold In at a0; have a1 := ro_109_19; unfold In at a1; have a2 := i30; unfold In at a2; have a3 := i100; unfold In at a3; have a4 := t_add e100 i98 i51 rfl; have a5 := i51; unfold In at a5; have a6 := i98; unfold In at a6; have a7 := (t_mulc 32 (Or.inl e98) i63 rfl).1; have a8 := i63; unfold In at a8; have a9 := i155; unfold In at a9; have a10 := t_add e155 i30 (in_c 1 rfl) rfl; have a11 := (in_c 1 rfl); unfold In at a11; have a12 := tx_i2l e143; have a13 := i142; unfold In at a13; have a14 := i141; unfold In at a14; have a15 := t_add e141 ro_109_19 i30 rfl; have a16 := tx_i2l e120; have a17 := i119; unfold In at a17; have a18 := i118; unfold In at a18; have a19 := t_add e118 ro_109_19 i30 rfl; have a20 := i62; unfold In at a20; have a21 := t_add e62 ro_109_19 i30 rfl; have a22 := i50; unfold In at a22; have a23 := t_add e50 ro_109_19 i30 rfl; have a24 := i35x34; unfold In at a24; have a25 := t_add e35x34 ro_109_19 i30 rfl; have a26 := i35x23; unfold In at a26; have a27 := t_add e35x23 ro_109_19 i30 rfl; have a28 := i35x9; unfold In at a28; have a29 := t_add e35x9 ro_109_19 i30 rfl; omega) rfl rfl rfl (by simp [sL]) (Or.inr ⟨(by rw [e63, ey65]; exact hk65.2), (by rw [e51, ez65]; exact hk65.1), (p72.mp (by intro h72; have h1 : ¬ z67.toInt ≠ 0 := (fun h => absurd (p80.mpr (p67.mp h)) (by have h2 := c83; omega)); have r67 := i67; have r72 := i72; unfold In at r67 r72; have h3 := c75; omega)), (fun h => absurd (p80.mpr h) (by have h2 := c83; omega)), i143⟩)
                    exact gg_w (by omega) (gg_f (gf_cons rfl (gf_cons rfl gf_nil)) (ih26 (sL sc26 152 z100.toNatClampNeg z143) z155 hI154 (fr_sL rfl hFc26) (in_w 0 160 i155 rfl) n26 (m_up mm26 (t_add e155 i30 (in_c 1 rfl) rfl) (in_w 1 1 (in_c 1 rfl) rfl))))
                · skip
                  have i83 := z_ne 1 1 c83 i80 rfl
                  refine g_bipush 32 88 (gd rfl) rfl rfl ?_
                  refine g_iload_n 89 (gd rfl) rfl rfl ?_
                  refine g_imul 90 (gd rfl) rfl (fun z89 e89 => ?_)
                  have i89 := in_mulc 32 0 992 (Or.inl e89) i51 rfl rfl
                  refine g_iload_n 91 (gd rfl) rfl rfl ?_
                  refine g_iadd 92 (gd rfl) rfl (fun z91 e91 => ?_)
                  have i91 := in_add 0 1023 e91 i89 i63 rfl rfl
                  refine g_goto 101 (gd rfl) rfl ?_
                  refine g_istore 103 (gd rfl) rfl (Nat.le_of_ble_eq_true rfl) ?_
                  refine g_aload_n 104 (gd rfl) rfl rfl ?_
                  refine g_getA (q2 := 152) 107 (gd rfl) rfl rfl rfl rfl ?_
                  refine g_iload 109 (gd rfl) rfl rfl ?_
                  refine g_aload_n 110 (gd rfl) rfl rfl ?_
                  refine g_getA (q2 := 115) 113 (gd rfl) rfl rfl rfl rfl ?_
                  refine g_aload_n 114 (gd rfl) rfl rfl ?_
                  refine g_getI 117 (gd rfl) rfl rfl rfl (fun z114 e114 => ?_)
                  have q114 : u_109_19 = z114 := (fr_F e_109_19 hFc26 rfl).trans e114.symm
                  subst q114
                  refine g_iload_n 118 (gd rfl) rfl rfl ?_
                  refine g_iadd 119 (gd rfl) rfl (fun z118 e118 => ?_)
                  have i118 := in_add 0 319 e118 ro_109_19 i30 rfl rfl
                  refine g_iaload 120 (gd rfl) rfl (n := 480) rfl (in_ix i118 rfl) (fun z119 e119 => ?_)
                  have i119 := inv_I hIc26 (n := 480) (t := 0) (-1000000) 1000000 rfl (in_ix i118 rfl) rfl e119
                  refine g_i2l 121 (gd rfl) rfl (fun z120 e120 => ?_)
                  have i120 := l_i e120 i119
                  refine g_aload_n 122 (gd rfl) rfl rfl ?_
                  refine g_getA (q2 := 152) 125 (gd rfl) rfl rfl rfl rfl ?_
                  refine g_iload 127 (gd rfl) rfl rfl ?_
                  refine g_laload 128 (gd rfl) rfl (n := 1024) rfl (in_ix i91 rfl) (fun z127 e127 => ?_)
                  refine g_lcmp 129 (gd rfl) rfl (fun z128 e128 => ?_)
                  have i128 := lc_in e128
                  refine g_if_ge 132 147 (gd rfl) rfl rfl (fun c129 => ?_) (fun c129 => ?_)
                  · skip
                    have i129 := z_ge 0 1 c129 i128 rfl
                    have c129a := lc_ge e128 c129
                    have i129a := lr_le1 (-9223372036854775808) 1000000 c129a (l_rng z127) i120 rfl
                    refine g_aload_n 148 (gd rfl) rfl rfl ?_
                    refine g_getA (q2 := 152) 151 (gd rfl) rfl rfl rfl rfl ?_
                    refine g_iload 153 (gd rfl) rfl rfl ?_
                    refine g_laload 154 (gd rfl) rfl (n := 1024) rfl (in_ix i91 rfl) (fun z153 e153 => ?_)
                    refine g_lastore 155 (gd rfl) rfl (n := 1024) rfl (in_ix i91 rfl) ?_
                    have hI154 := inv_sL (q := 152) (j := z91.toNatClampNeg) (x := z153) hIc26 rfl (l_rng z153)
                    refine g_iinc 158 (gd rfl) rfl rfl (Nat.le_of_ble_eq_true rfl) (fun z155 e155 => ?_)
                    have i155 := in_add 1 160 e155 i30 (in_c 1 rfl) rfl rfl
                    refine g_goto 26 (gd rfl) rfl ?_
                    have n26 : PWI (sL sc26 152 z91.toNatClampNeg z153) := by exact pwi_s (u := z51) (v := z63) (k := z91.toNatClampNeg) (w := z153) g26_0 i51 i63 (by show z91.toInt.toNat = 32 * z51.toInt.toNat + z63.toInt.toNat; have a0 := ro_109_20; unfold In at a0; have a1 := ro_109_19; unfold In at a1; have a2 := i30; unfold In at a2; have a3 := i91; unfold In at a3; have a4 := t_add e91 i89 i63 rfl; have a5 := i63; unfold In at a5; have a6 := i89; unfold In at a6; have a7 := (t_mulc 32 (Or.inl e89) i51 rfl).1; have a8 := i51; unfold In at a8; have a9 := i155; unfold In at a9; have a10 := t_add e155 i30 (in_c 1 rfl) rfl; have a11 := (in_c 1 rfl); unfold In at a11; have a12 := tx_i2l e120; have a13 := i119; unfold In at a13; have a14 := i118; unfold In at a14; have a15 := t_add e118 ro_109_19 i30 rfl; have a16 := i62; unfold In at a16; have a17 := t_add e62 ro_109_19 i30 rfl; have a18 := i50; unfold In at a18; have a19 := t_add e50 ro_109_19 i30 rfl; have a20 := i35x34; unfold In at a20; have a21 := t_add e35x34 ro_109_19 i30 rfl; have a22 := i35x23; unfold In at a22; have a23 := t_add e35x23 ro_109_19 i30 rfl; have a24 := i35x9; unfold In at a24; have a25 := t_add e35x9 ro_109_19 i30 rfl; omega) rfl rfl rfl (by simp [sL]) (Or.inl e153)
                    exact gg_w (by omega) (gg_f (gf_cons rfl (gf_cons rfl gf_nil)) (ih26 (sL sc26 152 z91.toNatClampNeg z153) z155 hI154 (fr_sL rfl hFc26) (in_w 0 160 i155 rfl) n26 (m_up mm26 (t_add e155 i30 (in_c 1 rfl) rfl) (in_w 1 1 (in_c 1 rfl) rfl))))
                  · skip
                    have i129 := z_lt (-1) (-1) c129 i128 rfl
                    have c129a := lc_lt e128 c129
                    have i129a := lr_lt2 (-999999) 9223372036854775807 c129a i120 (l_rng z127) rfl
                    refine g_aload_n 133 (gd rfl) rfl rfl ?_
                    refine g_getA (q2 := 115) 136 (gd rfl) rfl rfl rfl rfl ?_
                    refine g_aload_n 137 (gd rfl) rfl rfl ?_
                    refine g_getI 140 (gd rfl) rfl rfl rfl (fun z137 e137 => ?_)
                    have q137 : u_109_19 = z137 := (fr_F e_109_19 hFc26 rfl).trans e137.symm
                    subst q137
                    refine g_iload_n 141 (gd rfl) rfl rfl ?_
                    refine g_iadd 142 (gd rfl) rfl (fun z141 e141 => ?_)
                    have i141 := in_add 0 319 e141 ro_109_19 i30 rfl rfl
                    refine g_iaload 143 (gd rfl) rfl (n := 480) rfl (in_ix i141 rfl) (fun z142 e142 => ?_)
                    have i142 := inv_I hIc26 (n := 480) (t := 0) (-1000000) 1000000 rfl (in_ix i141 rfl) rfl e142
                    refine g_i2l 144 (gd rfl) rfl (fun z143 e143 => ?_)
                    have i143 := l_i e143 i142
                    refine g_goto 154 (gd rfl) rfl ?_
                    refine g_lastore 155 (gd rfl) rfl (n := 1024) rfl (in_ix i91 rfl) ?_
                    have hI154 := inv_sL (q := 152) (j := z91.toNatClampNeg) (x := z143) hIc26 rfl (l_rng z143)
                    refine g_iinc 158 (gd rfl) rfl rfl (Nat.le_of_ble_eq_true rfl) (fun z155 e155 => ?_)
                    have i155 := in_add 1 160 e155 i30 (in_c 1 rfl) rfl rfl
                    refine g_goto 26 (gd rfl) rfl ?_
                    have n26 : PWI (sL sc26 152 z91.toNatClampNeg z143) := by exact pwi_s (u := z51) (v := z63) (k := z91.toNatClampNeg) (w := z143) g26_0 i51 i63 (by show z91.toInt.toNat = 32 * z51.toInt.toNat + z63.toInt.toNat; have a0 := ro_109_20; unfold In at a0; have a1 := ro_109_19; unfold In at a1; have a2 := i30; unfold In at a2; have a3 := i91; unfold In at a3; have a4 := t_add e91 i89 i63 rfl; have a5 := i63; unfold In at a5; have a6 := i89; unfold In at a6; have a7 := (t_mulc 32 (Or.inl e89) i51 rfl).1; have a8 := i51; unfold In at a8; have a9 := i155; unfold In at a9; have a10 := t_add e155 i30 (in_c 1 rfl) rfl; have a11 := (in_c 1 rfl); unfold In at a11; have a12 := tx_i2l e143; have a13 := i142; unfold In at a13; have a14 := i141; unfold In at a14; have a15 := t_add e141 ro_109_19 i30 rfl; have a16 := tx_i2l e120; have a17 := i119; unfold In at a17; have a18 := i118; unfold In at a18; have a19 := t_add e118 ro_109_19 i30 rfl; have a20 := i62; unfold In at a20; have a21 := t_add e62 ro_109_19 i30 rfl; have a22 := i50; unfold In at a22; have a23 := t_add e50 ro_109_19 i30 rfl; have a24 := i35x34; unfold In at a24; have a25 := t_add e35x34 ro_109_19 i30 rfl; have a26 := i35x23; unfold In at a26; have a27 := t_add e35x23 ro_109_19 i30 rfl; have a28 := i35x9; unfold In at a28; have a29 := t_add e35x9 ro_109_19 i30 rfl; omega) rfl rfl rfl (by simp [sL]) (Or.inr ⟨(by rw [e51, ez65]; exact hk65.1), (by rw [e63, ey65]; exact hk65.2), p80.mp c83, (fun h => by have h1 := p72.mpr h; have h2 := p67.mpr (p80.mp c83); have r67 := i67; have r72 := i72; unfold In at r67 r72; have h3 := c75; omega), i143⟩)
                    exact gg_w (by omega) (gg_f (gf_cons rfl (gf_cons rfl gf_nil)) (ih26 (sL sc26 152 z91.toNatClampNeg z143) z155 hI154 (fr_sL rfl hFc26) (in_w 0 160 i155 rfl) n26 (m_up mm26 (t_add e155 i30 (in_c 1 rfl) rfl) (in_w 1 1 (in_c 1 rfl) rfl))))
  have ct2 : ∀ (k2 : Nat) (sc2 : GS) (y2_1 : Int32), Inv sc2 → Fr fm_360 s sc2 → (In y2_1 0 1024) → (∀ k : Nat, (k : Int) < (y2_1).toInt → (sc2.2.1 152 k).toInt = 9000000000000000) → 1024 - (y2_1).toInt < (k2 : Int) → GG Z (d - 1) 360 post (gx xp) (2313070 + k2 * 900) 2 (fun j => xlook j [(0, .ref (A 109)), (1, .int y2_1)]) [] (WW Z A sc2 ++ ex) 0 0 := by
    intro k2
    induction k2 with
    | zero => intro sc2 y2_1 hIc2 hFc2 j2_1 g2_0 mm2; exact m_no mm2 j2_1 rfl
    | succ k2 ih2 =>
      intro sc2 y2_1 hIc2 hFc2 j2_1 g2_0 mm2
      refine gg_w (M := 2313070 + k2 * 900 + 900) (by omega) ?_
      refine g_iload_n 3 (gd rfl) rfl rfl ?_
      refine g_sipush 1024 6 (gd rfl) rfl rfl ?_
      refine g_cmp_ge 9 24 (gd rfl) rfl rfl (fun c6 => ?_) (fun c6 => ?_)
      · skip
        have i6 := r_le2 1024 1024 c6 (in_c 1024 rfl) j2_1 rfl
        refine g_iconst 0 25 (gd rfl) rfl rfl ?_
        refine g_istore_n 26 (gd rfl) rfl (Nat.le_of_ble_eq_true rfl) ?_
        have n26 : PWI sc2 := by (intro u v hu hv hp; exfalso; have h := g2_0 (32 * u + v) (by have a0 := ro_109_20; unfold In at a0; have a1 := ro_109_19; unfold In at a1; have a2 := i6; unfold In at a2; have a3 := (in_c 0 rfl); unfold In at a3; omega); unfold pwq at hp; omega)
        exact gg_w (by omega) (gg_f (gf_cons rfl (gf_cons rfl gf_nil)) (ct26 161 sc2 (Int32.ofInt 0) hIc2 hFc2 (in_w 0 160 (in_c 0 rfl) rfl) n26 (m_in 161 (in_w 0 160 (in_c 0 rfl) rfl) rfl)))
      · skip
        have i6 := r_lt1 0 1023 c6 j2_1 (in_c 1024 rfl) rfl
        refine g_aload_n 10 (gd rfl) rfl rfl ?_
        refine g_getA (q2 := 152) 13 (gd rfl) rfl rfl rfl rfl ?_
        refine g_iload_n 14 (gd rfl) rfl rfl ?_
        refine g_ldc2_w 9000000000000000 17 (gd rfl) rfl rfl ?_
        refine g_lastore 18 (gd rfl) rfl (n := 1024) rfl (in_ix i6 rfl) ?_
        have hI17 := inv_sL (q := 152) (j := y2_1.toNatClampNeg) (x := (Int64.ofInt 9000000000000000)) hIc2 rfl (l_rng (Int64.ofInt 9000000000000000))
        refine g_iinc 21 (gd rfl) rfl rfl (Nat.le_of_ble_eq_true rfl) (fun z18 e18 => ?_)
        have i18 := in_add 1 1024 e18 i6 (in_c 1 rfl) rfl rfl
        refine g_goto 2 (gd rfl) rfl ?_
        have n2 : ∀ k : Nat, (k : Int) < (z18).toInt → ((sL sc2 152 y2_1.toNatClampNeg (Int64.ofInt 9000000000000000)).2.1 152 k).toInt = 9000000000000000 := by first | (intro k hk; exfalso; have h0 : (Int32.ofInt 0).toInt = 0 := rfl; omega) | (intro k hk; have e2 : y2_1.toNatClampNeg = y2_1.toInt.toNat := rfl; rw [show ((sL sc2 152 y2_1.toNatClampNeg (Int64.ofInt 9000000000000000))).2.1 152 = vp_updL (sc2.2.1 152) y2_1.toNatClampNeg (Int64.ofInt 9000000000000000) from (by simp [sI, sL])]; by_cases c : k = y2_1.toNatClampNeg; (rw [c, ul_eq]; exact (by have hl : InL (Int64.ofInt 9000000000000000) 9000000000000000 9000000000000000 := l_c 9000000000000000 rfl; exact Int.le_antisymm hl.2 hl.1)); (rw [ul_ne c]; exact g2_0 k (by have a0 := ro_109_20; unfold In at a0; have a1 := ro_109_19; unfold In at a1; have a2 := i6; unfold In at a2; have a3 := i18; unfold In at a3; have a4 := t_add e18 i6 (in_c 1 rfl) rfl; have a5 := (in_c 1 rfl); unfold In at a5; omega)))
        exact gg_w (by omega) (gg_f (gf_cons rfl (gf_cons rfl gf_nil)) (ih2 (sL sc2 152 y2_1.toNatClampNeg (Int64.ofInt 9000000000000000)) z18 hI17 (fr_sL rfl hFc2) (in_w 0 1024 i18 rfl) n2 (m_up mm2 (t_add e18 i6 (in_c 1 rfl) rfl) (in_w 1 1 (in_c 1 rfl) rfl))))
  refine g_enter2 (k := 360) (N := 3236470) (by omega) rfl (Nat.le_of_ble_eq_true rfl) ?_
  refine g_iconst 0 1 (gd rfl) rfl rfl ?_
  refine g_istore_n 2 (gd rfl) rfl (Nat.le_of_ble_eq_true rfl) ?_
  have n2 : ∀ k : Nat, (k : Int) < ((Int32.ofInt 0)).toInt → (s.2.1 152 k).toInt = 9000000000000000 := by first | (intro k hk; exfalso; have h0 : (Int32.ofInt 0).toInt = 0 := rfl; omega) | (intro k hk; have e2 : y2_1.toNatClampNeg = y2_1.toInt.toNat := rfl; rw [show (s).2.1 152 = vp_updL (sc2.2.1 152) y2_1.toNatClampNeg (Int64.ofInt 9000000000000000) from (by simp [sI, sL])]; by_cases c : k = y2_1.toNatClampNeg; (rw [c, ul_eq]; exact (by have hl : InL (Int64.ofInt 9000000000000000) 9000000000000000 9000000000000000 := l_c 9000000000000000 rfl; exact Int.le_antisymm hl.2 hl.1)); (rw [ul_ne c]; exact g2_0 k (by have a0 := ro_109_20; unfold In at a0; have a1 := ro_109_19; unfold In at a1; have a2 := (in_c 0 rfl); unfold In at a2; omega)))
  exact gg_w (by omega) (gg_f (gf_cons rfl (gf_cons rfl gf_nil)) (ct2 1025 s (Int32.ofInt 0) hI fr_rf (in_w 0 1024 (in_c 0 rfl) rfl) n2 (m_in 1025 (in_w 0 1024 (in_c 0 rfl) rfl) rfl)))

def fm_362 : FM := ([148, 151], [149, 152], [(109, 0)], [])
/-- GraphHouseModel.pairing -/
theorem k_362 {Z : AmZ} {A : Nat → Nat} {s : GS} {ex : va_W} {d : Nat} {X : AmX} {x1 : Int32} (hd : 4 ≤ d) (hI : Inv s)  : GC Z d 362 [.ref (A 109), .int x1] (WW Z A s ++ ex) 0 0 (fun v u => ∃ t : GS, Inv t ∧ Fr fm_362 s t ∧ ∃ z : Int64, v = some (.long z) ∧ u = WW Z A t ++ ex) X := by
  intro post xp hP hX
  obtain ⟨u_109_20, e_109_20⟩ : ∃ w, w = s.2.2.1 109 20 := ⟨_, rfl⟩
  have ro_109_20 := inv_F hI 0 32 rfl e_109_20
  have ct28 : ∀ (k28 : Nat) (sc28 : GS) (y28_2 : Int64) (y28_4 : Int64) (y28_6 : Int32), Inv sc28 → Fr fm_362 s sc28 → (In x1 0 1) → (In y28_6 0 32) → 32 - (y28_6).toInt < (k28 : Int) → GG Z (d - 1) 362 post (gx xp) (1 + k28 * 900) 28 (fun j => xlook j [(0, .ref (A 109)), (1, .int x1), (2, .long y28_2), (4, .long y28_4), (6, .int y28_6)]) [] (WW Z A sc28 ++ ex) 0 0 := by
    intro k28
    induction k28 with
    | zero => intro sc28 y28_2 y28_4 y28_6 hIc28 hFc28 j28_1 j28_6 mm28; exact m_no mm28 j28_6 rfl
    | succ k28 ih28 =>
      intro sc28 y28_2 y28_4 y28_6 hIc28 hFc28 j28_1 j28_6 mm28
      refine gg_w (M := 1 + k28 * 900 + 900) (by omega) ?_
      refine g_iload 30 (gd rfl) rfl rfl ?_
      refine g_aload_n 31 (gd rfl) rfl rfl ?_
      refine g_getI 34 (gd rfl) rfl rfl rfl (fun z31 e31 => ?_)
      have q31 : u_109_20 = z31 := (fr_F e_109_20 hFc28 rfl).trans e31.symm
      subst q31
      refine g_cmp_ge 37 89 (gd rfl) rfl rfl (fun c34 => ?_) (fun c34 => ?_)
      · skip
        refine g_iload_n 90 (gd rfl) rfl rfl ?_
        refine g_if_ne 93 97 (gd rfl) rfl rfl (fun c90 => ?_) (fun c90 => ?_)
        · skip
          have i90 := z_ne 1 1 c90 j28_1 rfl
          refine g_lload 99 (gd rfl) rfl rfl ?_
          exact g_lreturn (gd rfl) rfl (hP _ _ ⟨sc28, hIc28, hFc28, y28_4, rfl, rfl⟩)
        · skip
          have i90 := z_eq 0 0 c90 j28_1 rfl
          refine g_lload_n 94 (gd rfl) rfl rfl ?_
          refine g_goto 99 (gd rfl) rfl ?_
          exact g_lreturn (gd rfl) rfl (hP _ _ ⟨sc28, hIc28, hFc28, y28_2, rfl, rfl⟩)
      · skip
        have i34 := r_lt1 0 31 c34 j28_6 ro_109_20 rfl
        have i34a := r_lt2 1 32 c34 j28_6 ro_109_20 rfl
        refine g_aload_n 38 (gd rfl) rfl rfl ?_
        refine g_iload 40 (gd rfl) rfl rfl ?_
        refine g_callv (X := _) (As := [.int y28_6]) (r := []) (b := A 109) (q := 109) 43 (gd rfl) rfl rfl rfl rfl rfl (ww_o rfl) (Nat.le_of_ble_eq_true rfl) (Nat.zero_le _) (Nat.zero_le _) (k_359 (by omega) hIc28 (in_w 0 31 i34 rfl)) (fun e u h => h) (fun v u h => ?_)
        obtain ⟨z40, rfl, rfl, i40, p40⟩ := h
        show GG _ _ _ _ _ _ _ _ [.int z40] _ _ _
        refine g_if_eq 46 83 (gd rfl) rfl rfl (fun c43 => ?_) (fun c43 => ?_)
        · skip
          have i43 := z_eq 0 0 c43 i40 rfl
          refine g_iinc 86 (gd rfl) rfl rfl (Nat.le_of_ble_eq_true rfl) (fun z83 e83 => ?_)
          have i83 := in_add 1 32 e83 i34 (in_c 1 rfl) rfl rfl
          refine g_goto 28 (gd rfl) rfl ?_
          exact gg_w (by omega) (gg_f (gf_cons rfl (gf_cons rfl (gf_cons rfl (gf_cons rfl (gf_cons rfl gf_nil))))) (ih28 sc28 y28_2 y28_4 z83 hIc28 hFc28 (in_w 0 1 j28_1 rfl) (in_w 0 32 i83 rfl) (m_up mm28 (t_add e83 i34 (in_c 1 rfl) rfl) (in_w 1 1 (in_c 1 rfl) rfl))))
        · skip
          have i43 := z_ne 1 1 c43 i40 rfl
          refine g_aload_n 47 (gd rfl) rfl rfl ?_
          refine g_getA (q2 := 151) 50 (gd rfl) rfl rfl rfl rfl ?_
          refine g_iload 52 (gd rfl) rfl rfl ?_
          refine g_iaload 53 (gd rfl) rfl (n := 32) rfl (in_ix i34 rfl) (fun z52 e52 => ?_)
          have i52 := inv_I hIc28 (n := 32) (t := 0) (-1) 31 rfl (in_ix i34 rfl) rfl e52
          refine g_if_lt 56 83 (gd rfl) rfl rfl (fun c53 => ?_) (fun c53 => ?_)
          · skip
            have i53 := z_lt (-1) (-1) c53 i52 rfl
            refine g_iinc 86 (gd rfl) rfl rfl (Nat.le_of_ble_eq_true rfl) (fun z83 e83 => ?_)
            have i83 := in_add 1 32 e83 i34 (in_c 1 rfl) rfl rfl
            refine g_goto 28 (gd rfl) rfl ?_
            exact gg_w (by omega) (gg_f (gf_cons rfl (gf_cons rfl (gf_cons rfl (gf_cons rfl (gf_cons rfl gf_nil))))) (ih28 sc28 y28_2 y28_4 z83 hIc28 hFc28 (in_w 0 1 j28_1 rfl) (in_w 0 32 i83 rfl) (m_up mm28 (t_add e83 i34 (in_c 1 rfl) rfl) (in_w 1 1 (in_c 1 rfl) rfl))))
          · skip
            have i53 := z_ge 0 31 c53 i52 rfl
            refine g_lload_n 57 (gd rfl) rfl rfl ?_
            refine g_lconst 1 58 (gd rfl) rfl rfl ?_
            refine g_ladd 59 (gd rfl) rfl (fun z58 e58 => ?_)
            refine g_lstore_n 60 (gd rfl) rfl (Nat.le_of_ble_eq_true rfl) ?_
            refine g_lload 62 (gd rfl) rfl rfl ?_
            refine g_aload_n 63 (gd rfl) rfl rfl ?_
            refine g_getA (q2 := 152) 66 (gd rfl) rfl rfl rfl rfl ?_
            refine g_bipush 32 68 (gd rfl) rfl rfl ?_
            refine g_iload 70 (gd rfl) rfl rfl ?_
            refine g_imul 71 (gd rfl) rfl (fun z70 e70 => ?_)
            have i70 := in_mulc 32 0 992 (Or.inl e70) i34 rfl rfl
            refine g_aload_n 72 (gd rfl) rfl rfl ?_
            refine g_getA (q2 := 151) 75 (gd rfl) rfl rfl rfl rfl ?_
            refine g_iload 77 (gd rfl) rfl rfl ?_
            refine g_iaload 78 (gd rfl) rfl (n := 32) rfl (in_ix i34 rfl) (fun z77 e77 => ?_)
            have q77 : z52 = z77 := (e52).trans e77.symm
            subst q77
            refine g_iadd 79 (gd rfl) rfl (fun z78 e78 => ?_)
            have i78 := in_add 0 1023 e78 i70 i53 rfl rfl
            refine g_laload 80 (gd rfl) rfl (n := 1024) rfl (in_ix i78 rfl) (fun z79 e79 => ?_)
            refine g_ladd 81 (gd rfl) rfl (fun z80 e80 => ?_)
            refine g_lstore 83 (gd rfl) rfl (Nat.le_of_ble_eq_true rfl) ?_
            refine g_iinc 86 (gd rfl) rfl rfl (Nat.le_of_ble_eq_true rfl) (fun z83 e83 => ?_)
            have i83 := in_add 1 32 e83 i34 (in_c 1 rfl) rfl rfl
            refine g_goto 28 (gd rfl) rfl ?_
            exact gg_w (by omega) (gg_f (gf_cons rfl (gf_cons rfl (gf_cons rfl (gf_cons rfl (gf_cons rfl gf_nil))))) (ih28 sc28 z58 z80 z83 hIc28 hFc28 (in_w 0 1 j28_1 rfl) (in_w 0 32 i83 rfl) (m_up mm28 (t_add e83 i34 (in_c 1 rfl) rfl) (in_w 1 1 (in_c 1 rfl) rfl))))
  refine g_enter2 (k := 362) (N := 30601) (by omega) rfl (Nat.le_of_ble_eq_true rfl) ?_
  refine g_aload_n 1 (gd rfl) rfl rfl ?_
  refine g_iload_n 2 (gd rfl) rfl rfl ?_
  refine g_i2l 3 (gd rfl) rfl (fun z2 e2 => ?_)
  have i2 := l_i e2 (i_rng x1)
  refine g_lconst 0 4 (gd rfl) rfl rfl ?_
  refine g_lconst 1 5 (gd rfl) rfl rfl ?_
  refine g_calls (As := [.long z2, .long (Int64.ofInt 0), .long (Int64.ofInt 1)]) (r := [.ref (A 109)]) 8 (gd rfl) rfl rfl rfl rfl rfl (Nat.le_of_ble_eq_true rfl) (mc := 0) (ms := 0) (Nat.zero_le _) (Nat.zero_le _) (P := fun v u => _) ?_ (fun v u h => h)
  intro po5 xx5 hp5 hx5
  refine g_enter2 (k := 269) (N := 300) (by omega) rfl (Nat.le_of_ble_eq_true rfl) ?_
  refine g_lload_n 1 (gd rfl) rfl rfl ?_
  refine g_lload_n 2 (gd rfl) rfl rfl ?_
  refine g_lcmp 3 (gd rfl) rfl (fun z5x2 e5x2 => ?_)
  have i5x2 := lc_in e5x2
  refine g_if_lt 6 17 (gd rfl) rfl rfl (fun c5x3 => ?_) (fun c5x3 => ?_)
  · skip
    have i5x3 := z_lt (-1) (-1) c5x3 i5x2 rfl
    have c5x3a := lc_lt e5x2 c5x3
    have i5x3a := lr_lt1 (-2147483648) (-1) c5x3a i2 (l_c 0 rfl) rfl
    have i5x3b := l_b e2 i5x3a
    refine g_iconst 0 18 (gd rfl) rfl rfl ?_
    refine g_ireturn (gd rfl) rfl (nb01 (in_w 0 1 (in_c 0 rfl) rfl)) (hp5 _ _ ?_)
    show GG _ _ _ _ _ _ _ _ [.int (Int32.ofInt 0), .ref (A 109)] _ _ _
    refine g_callv (X := _) (As := [.int (Int32.ofInt 0)]) (r := []) (b := A 109) (q := 109) 11 (gd rfl) rfl rfl rfl rfl rfl (ww_o rfl) (Nat.le_of_ble_eq_true rfl) (mc := 0) (ms := 0) (Nat.zero_le _) (Nat.zero_le _) (P := fun v u => _) ?_ (fun e u h => h) (fun v u h => h)
    intro po8 xx8 hp8 hx8
    refine g_enter2 (k := 271) (N := 300) (by omega) rfl (Nat.le_of_ble_eq_true rfl) ?_
    refine g_aload_n 1 (gd rfl) rfl rfl ?_
    refine g_iload_n 2 (gd rfl) rfl rfl ?_
    refine g_iconst 1 3 (gd rfl) rfl rfl ?_
    refine g_callv (X := _) (As := [.int (Int32.ofInt 0), .int (Int32.ofInt 1)]) (r := []) (b := A 109) (q := 109) 6 (gd rfl) rfl rfl rfl rfl rfl (ww_o rfl) (Nat.le_of_ble_eq_true rfl) (mc := 0) (ms := 0) (Nat.zero_le _) (Nat.zero_le _) (P := fun v u => _) ?_ (fun e u h => h) (fun v u h => h)
    intro po8x3 xx8x3 hp8x3 hx8x3
    refine g_enter2 (k := 270) (N := 300) (by omega) rfl (Nat.le_of_ble_eq_true rfl) ?_
    refine g_aload_n 1 (gd rfl) rfl rfl ?_
    refine g_iload_n 2 (gd rfl) rfl rfl ?_
    refine g_if_ne 5 9 (gd rfl) rfl rfl (fun c8x3x2 => ?_) (fun c8x3x2 => ?_)
    · skip
      exact zn_ne c8x3x2 (in_c 0 rfl) rfl
    · skip
      refine g_iconst 1 6 (gd rfl) rfl rfl ?_
      refine g_goto 18 (gd rfl) rfl ?_
      refine g_putI 21 (gd rfl) rfl rfl rfl rfl ?_
      have hI8x3x18 := inv_sF (q := 109) (j := 0) hI rfl (in_w 0 2 (in_c 1 rfl) rfl)
      refine g_aload_n 22 (gd rfl) rfl rfl ?_
      refine g_getI 25 (gd rfl) rfl rfl rfl (fun z8x3x22 e8x3x22 => ?_)
      have q8x3x22 : (Int32.ofInt 1) = z8x3x22 := (sF_get).trans e8x3x22.symm
      subst q8x3x22
      refine g_if_le 28 32 (gd rfl) rfl rfl (fun c8x3x25 => ?_) (fun c8x3x25 => ?_)
      · skip
        exact zn_le c8x3x25 (in_c 1 rfl) rfl
      · skip
        refine g_iconst 1 29 (gd rfl) rfl rfl ?_
        refine g_goto 33 (gd rfl) rfl ?_
        refine g_ireturn (gd rfl) rfl (nb01 (in_w 0 1 (in_c 1 rfl) rfl)) (hp8x3 _ _ ?_)
        show GG _ _ _ _ _ _ _ _ [.int (Int32.ofInt 1)] _ _ _
        refine g_ireturn (gd rfl) rfl (nb01 (in_w 0 1 (in_c 1 rfl) rfl)) (hp8 _ _ ?_)
        show GG _ _ _ _ _ _ _ _ [.int (Int32.ofInt 1)] _ _ _
        refine g_if_eq 14 16 (gd rfl) rfl rfl (fun c11 => ?_) (fun c11 => ?_)
        · skip
          exact zn_eq c11 (in_c 1 rfl) rfl
        · skip
          refine g_lconst 0 15 (gd rfl) rfl rfl ?_
          exact g_lreturn (gd rfl) rfl (hP _ _ ⟨(sF s 109 0 (Int32.ofInt 1)), hI8x3x18, (fr_sF rfl fr_rf), (Int64.ofInt 0), rfl, rfl⟩)
  · skip
    have i5x3 := z_ge 0 1 c5x3 i5x2 rfl
    have c5x3a := lc_ge e5x2 c5x3
    have i5x3a := lr_le2 0 2147483647 c5x3a (l_c 0 rfl) i2 rfl
    have i5x3b := l_b e2 i5x3a
    refine g_lload_n 7 (gd rfl) rfl rfl ?_
    refine g_lload 9 (gd rfl) rfl rfl ?_
    refine g_lcmp 10 (gd rfl) rfl (fun z5x9 e5x9 => ?_)
    have i5x9 := lc_in e5x9
    refine g_if_gt 13 17 (gd rfl) rfl rfl (fun c5x10 => ?_) (fun c5x10 => ?_)
    · skip
      have i5x10 := z_gt 1 1 c5x10 i5x9 rfl
      have c5x10a := lc_gt e5x9 c5x10
      have i5x10a := lr_lt2 2 2147483647 c5x10a (l_c 1 rfl) i5x3a rfl
      have i5x10b := l_b e2 i5x10a
      refine g_iconst 0 18 (gd rfl) rfl rfl ?_
      refine g_ireturn (gd rfl) rfl (nb01 (in_w 0 1 (in_c 0 rfl) rfl)) (hp5 _ _ ?_)
      show GG _ _ _ _ _ _ _ _ [.int (Int32.ofInt 0), .ref (A 109)] _ _ _
      refine g_callv (X := _) (As := [.int (Int32.ofInt 0)]) (r := []) (b := A 109) (q := 109) 11 (gd rfl) rfl rfl rfl rfl rfl (ww_o rfl) (Nat.le_of_ble_eq_true rfl) (mc := 0) (ms := 0) (Nat.zero_le _) (Nat.zero_le _) (P := fun v u => _) ?_ (fun e u h => h) (fun v u h => h)
      intro po8 xx8 hp8 hx8
      refine g_enter2 (k := 271) (N := 300) (by omega) rfl (Nat.le_of_ble_eq_true rfl) ?_
      refine g_aload_n 1 (gd rfl) rfl rfl ?_
      refine g_iload_n 2 (gd rfl) rfl rfl ?_
      refine g_iconst 1 3 (gd rfl) rfl rfl ?_
      refine g_callv (X := _) (As := [.int (Int32.ofInt 0), .int (Int32.ofInt 1)]) (r := []) (b := A 109) (q := 109) 6 (gd rfl) rfl rfl rfl rfl rfl (ww_o rfl) (Nat.le_of_ble_eq_true rfl) (mc := 0) (ms := 0) (Nat.zero_le _) (Nat.zero_le _) (P := fun v u => _) ?_ (fun e u h => h) (fun v u h => h)
      intro po8x3 xx8x3 hp8x3 hx8x3
      refine g_enter2 (k := 270) (N := 300) (by omega) rfl (Nat.le_of_ble_eq_true rfl) ?_
      refine g_aload_n 1 (gd rfl) rfl rfl ?_
      refine g_iload_n 2 (gd rfl) rfl rfl ?_
      refine g_if_ne 5 9 (gd rfl) rfl rfl (fun c8x3x2 => ?_) (fun c8x3x2 => ?_)
      · skip
        exact zn_ne c8x3x2 (in_c 0 rfl) rfl
      · skip
        refine g_iconst 1 6 (gd rfl) rfl rfl ?_
        refine g_goto 18 (gd rfl) rfl ?_
        refine g_putI 21 (gd rfl) rfl rfl rfl rfl ?_
        have hI8x3x18 := inv_sF (q := 109) (j := 0) hI rfl (in_w 0 2 (in_c 1 rfl) rfl)
        refine g_aload_n 22 (gd rfl) rfl rfl ?_
        refine g_getI 25 (gd rfl) rfl rfl rfl (fun z8x3x22 e8x3x22 => ?_)
        have q8x3x22 : (Int32.ofInt 1) = z8x3x22 := (sF_get).trans e8x3x22.symm
        subst q8x3x22
        refine g_if_le 28 32 (gd rfl) rfl rfl (fun c8x3x25 => ?_) (fun c8x3x25 => ?_)
        · skip
          exact zn_le c8x3x25 (in_c 1 rfl) rfl
        · skip
          refine g_iconst 1 29 (gd rfl) rfl rfl ?_
          refine g_goto 33 (gd rfl) rfl ?_
          refine g_ireturn (gd rfl) rfl (nb01 (in_w 0 1 (in_c 1 rfl) rfl)) (hp8x3 _ _ ?_)
          show GG _ _ _ _ _ _ _ _ [.int (Int32.ofInt 1)] _ _ _
          refine g_ireturn (gd rfl) rfl (nb01 (in_w 0 1 (in_c 1 rfl) rfl)) (hp8 _ _ ?_)
          show GG _ _ _ _ _ _ _ _ [.int (Int32.ofInt 1)] _ _ _
          refine g_if_eq 14 16 (gd rfl) rfl rfl (fun c11 => ?_) (fun c11 => ?_)
          · skip
            exact zn_eq c11 (in_c 1 rfl) rfl
          · skip
            refine g_lconst 0 15 (gd rfl) rfl rfl ?_
            exact g_lreturn (gd rfl) rfl (hP _ _ ⟨(sF s 109 0 (Int32.ofInt 1)), hI8x3x18, (fr_sF rfl fr_rf), (Int64.ofInt 0), rfl, rfl⟩)
    · skip
      have i5x10 := z_le (-1) 0 c5x10 i5x9 rfl
      have c5x10a := lc_le e5x9 c5x10
      have i5x10a := lr_le1 0 1 c5x10a i5x3a (l_c 1 rfl) rfl
      have i5x10b := l_b e2 i5x10a
      refine g_iconst 1 14 (gd rfl) rfl rfl ?_
      refine g_goto 18 (gd rfl) rfl ?_
      refine g_ireturn (gd rfl) rfl (nb01 (in_w 0 1 (in_c 1 rfl) rfl)) (hp5 _ _ ?_)
      show GG _ _ _ _ _ _ _ _ [.int (Int32.ofInt 1), .ref (A 109)] _ _ _
      refine g_callv (X := _) (As := [.int (Int32.ofInt 1)]) (r := []) (b := A 109) (q := 109) 11 (gd rfl) rfl rfl rfl rfl rfl (ww_o rfl) (Nat.le_of_ble_eq_true rfl) (mc := 0) (ms := 0) (Nat.zero_le _) (Nat.zero_le _) (P := fun v u => _) ?_ (fun e u h => h) (fun v u h => h)
      intro po8 xx8 hp8 hx8
      refine g_enter2 (k := 271) (N := 300) (by omega) rfl (Nat.le_of_ble_eq_true rfl) ?_
      refine g_aload_n 1 (gd rfl) rfl rfl ?_
      refine g_iload_n 2 (gd rfl) rfl rfl ?_
      refine g_iconst 1 3 (gd rfl) rfl rfl ?_
      refine g_callv (X := _) (As := [.int (Int32.ofInt 1), .int (Int32.ofInt 1)]) (r := []) (b := A 109) (q := 109) 6 (gd rfl) rfl rfl rfl rfl rfl (ww_o rfl) (Nat.le_of_ble_eq_true rfl) (mc := 0) (ms := 0) (Nat.zero_le _) (Nat.zero_le _) (P := fun v u => _) ?_ (fun e u h => h) (fun v u h => h)
      intro po8x3 xx8x3 hp8x3 hx8x3
      refine g_enter2 (k := 270) (N := 300) (by omega) rfl (Nat.le_of_ble_eq_true rfl) ?_
      refine g_aload_n 1 (gd rfl) rfl rfl ?_
      refine g_iload_n 2 (gd rfl) rfl rfl ?_
      refine g_if_ne 5 9 (gd rfl) rfl rfl (fun c8x3x2 => ?_) (fun c8x3x2 => ?_)
      · skip
        refine g_iload_n 10 (gd rfl) rfl rfl ?_
        refine g_if_ne 13 17 (gd rfl) rfl rfl (fun c8x3x10 => ?_) (fun c8x3x10 => ?_)
        · skip
          refine g_iconst 0 18 (gd rfl) rfl rfl ?_
          refine g_putI 21 (gd rfl) rfl rfl rfl rfl ?_
          have hI8x3x18 := inv_sF (q := 109) (j := 0) hI rfl (in_w 0 2 (in_c 0 rfl) rfl)
          refine g_aload_n 22 (gd rfl) rfl rfl ?_
          refine g_getI 25 (gd rfl) rfl rfl rfl (fun z8x3x22 e8x3x22 => ?_)
          have q8x3x22 : (Int32.ofInt 0) = z8x3x22 := (sF_get).trans e8x3x22.symm
          subst q8x3x22
          refine g_if_le 28 32 (gd rfl) rfl rfl (fun c8x3x25 => ?_) (fun c8x3x25 => ?_)
          · skip
            refine g_iconst 0 33 (gd rfl) rfl rfl ?_
            refine g_ireturn (gd rfl) rfl (nb01 (in_w 0 1 (in_c 0 rfl) rfl)) (hp8x3 _ _ ?_)
            show GG _ _ _ _ _ _ _ _ [.int (Int32.ofInt 0)] _ _ _
            refine g_ireturn (gd rfl) rfl (nb01 (in_w 0 1 (in_c 0 rfl) rfl)) (hp8 _ _ ?_)
            show GG _ _ _ _ _ _ _ _ [.int (Int32.ofInt 0)] _ _ _
            refine g_if_eq 14 16 (gd rfl) rfl rfl (fun c11 => ?_) (fun c11 => ?_)
            · skip
              refine g_aload_n 17 (gd rfl) rfl rfl ?_
              refine g_callv (X := _) (As := []) (r := []) (b := A 109) (q := 109) 20 (gd rfl) rfl rfl rfl rfl rfl (ww_o rfl) (Nat.le_of_ble_eq_true rfl) (Nat.zero_le _) (Nat.zero_le _) (k_360 (by omega) hI8x3x18 ) (fun e u h => h) (fun v u h => ?_)
              obtain ⟨s17, hI17, hF17, rfl, rfl⟩ := h
              show GG _ _ _ _ _ _ _ _ [] _ _ _
              refine g_lconst 0 21 (gd rfl) rfl rfl ?_
              refine g_lstore_n 22 (gd rfl) rfl (Nat.le_of_ble_eq_true rfl) ?_
              refine g_lconst 0 23 (gd rfl) rfl rfl ?_
              refine g_lstore 25 (gd rfl) rfl (Nat.le_of_ble_eq_true rfl) ?_
              refine g_iconst 0 26 (gd rfl) rfl rfl ?_
              refine g_istore 28 (gd rfl) rfl (Nat.le_of_ble_eq_true rfl) ?_
              exact gg_w (by omega) (gg_f (gf_cons rfl (gf_cons rfl (gf_cons rfl (gf_cons rfl (gf_cons rfl gf_nil))))) (ct28 33 s17 (Int64.ofInt 0) (Int64.ofInt 0) (Int32.ofInt 0) hI17 (fr_tr rfl (fr_sF rfl fr_rf) hF17) (in_w 0 1 i5x10b rfl) (in_w 0 32 (in_c 0 rfl) rfl) (m_in 33 (in_w 0 32 (in_c 0 rfl) rfl) rfl)))
            · skip
              exact zn_ne c11 (in_c 0 rfl) rfl
          · skip
            exact zn_gt c8x3x25 (in_c 0 rfl) rfl
        · skip
          exact zn_eq c8x3x10 (in_c 1 rfl) rfl
      · skip
        exact zn_eq c8x3x2 (in_c 1 rfl) rfl
