/-! FUNCTIONAL CONTRACTS, by fgen.py -/
theorem ixl {y : Int32} (hy : In y 0 159) : y.toNatClampNeg < 160 := by
  have h1 := in_u hy
  show y.toInt.toNat < 160
  omega
theorem ixb {s : GS} {z b i : Int32} (e : z = b + i) (eb : b = s.2.2.1 109 19) (hb : In b 0 160) (hi : In i 0 159) : z.toNatClampNeg = bs s + i.toNatClampNeg := by
  have h := t_add e hb hi rfl
  have h1 := in_u hb
  have h2 := in_u hi
  show z.toInt.toNat = (s.2.2.1 109 19).toInt.toNat + i.toInt.toNat
  rw [← eb]
  omega
theorem ixn {z y : Int32} (e : z = y + Int32.ofInt 1) (hy : In y 0 159) : z.toNatClampNeg = y.toNatClampNeg + 1 := by
  have h := t_add e hy (in_c 1 rfl) rfl
  have h1 := in_u hy
  have h2 : (Int32.ofInt 1).toInt = 1 := rfl
  show z.toInt.toNat = y.toInt.toNat + 1
  omega
theorem oc_374_109 : (Int32.ofInt (-1)).toInt = (-1) ∧ (Int32.ofInt 0).toInt = 0 ∧ (Int32.ofInt 1).toInt = 1 ∧ (Int32.ofInt 20).toInt = 20 ∧ (Int32.ofInt 32).toInt = 32 ∧ (Int32.ofInt 160).toInt = 160 ∧ (Int32.ofInt 1024).toInt = 1024 := ⟨rfl, rfl, rfl, rfl, rfl, rfl, rfl⟩
set_option maxHeartbeats 4000000 in
/-- GraphHouseModel.findGroups -/
theorem f_374 {Z : AmZ} {A : Nat → Nat} {s : GS} {ex : va_W} {d : Nat} {X : AmX}  (hd : 5 ≤ d) (hI : Inv s)  : GC Z d 374 [.ref (A 109)] (WW Z A s ++ ex) 0 0 (fun v u => ∃ t : GS, Inv t ∧ Fr fm_374 s t ∧ v = none ∧ u = WW Z A t ++ ex ∧ (RGB (ARE (gvZ s) 0) (ARE (gvZ s) 1) (s.2.2.1 109 20).toInt.toNat t ∧ ITR (ARE (gvZ s) 0) (ARE (gvZ s) 1) (NBR (gvZ s)) (s.2.2.1 109 20).toInt.toNat 20 (idl (s.2.2.1 109 20).toInt.toNat) (lbl (s.2.2.1 109 20).toInt.toNat ((t).1 169)))) X := by
  intro post xp hP hX
  obtain ⟨u_109_19, e_109_19⟩ : ∃ w, w = s.2.2.1 109 19 := ⟨_, rfl⟩
  have ro_109_19 := inv_F hI 0 160 rfl e_109_19
  obtain ⟨u_109_20, e_109_20⟩ : ∃ w, w = s.2.2.1 109 20 := ⟨_, rfl⟩
  have ro_109_20 := inv_F hI 0 32 rfl e_109_20
  have ct204 : ∀ (k204 : Nat) (sc204 : GS) (y204_1 : Int32) (y204_2 : Int32), Inv sc204 → Fr fm_374 s sc204 → (In y204_1 0 1) → (In y204_2 0 20) → (RGB (ARE (gvZ s) 0) (ARE (gvZ s) 1) (s.2.2.1 109 20).toInt.toNat sc204) → (ITC (ARE (gvZ s) 0) (ARE (gvZ s) 1) (NBR (gvZ s)) (s.2.2.1 109 20).toInt.toNat (idl (s.2.2.1 109 20).toInt.toNat) (y204_2).toInt (y204_1).toInt (lbl (s.2.2.1 109 20).toInt.toNat ((sc204).1 169))) → 20 - (y204_2).toInt < (k204 : Int) → GG Z (d - 1) 374 post (gx xp) (1 + k204 * 32401) 204 (fun j => xlook j [(0, .ref (A 109)), (1, .int y204_1), (2, .int y204_2)]) [] (WW Z A sc204 ++ ex) 0 0 := by
    intro k204
    induction k204 with
    | zero => intro sc204 y204_1 y204_2 hIc204 hFc204 j204_1 j204_2 g204_0 g204_1 mm204; exact m_no mm204 j204_2 rfl
    | succ k204 ih204 =>
      intro sc204 y204_1 y204_2 hIc204 hFc204 j204_1 j204_2 g204_0 g204_1 mm204
      refine gg_w (M := 1 + k204 * 32401 + 32401) gws ?_
      have ct218 : ∀ (k218 : Nat) (sc218 : GS) (y218_1 : Int32) (y218_3 : Int32), Inv sc218 → Fr fm_374 s sc218 → (In y218_1 0 1) → (In y204_2 0 19) → (In y218_3 0 32) → ((y218_3).toInt ≤ (u_109_20).toInt) → (RGB (ARE (gvZ s) 0) (ARE (gvZ s) 1) (s.2.2.1 109 20).toInt.toNat sc218) → (SWM (ARE (gvZ s) 0) (ARE (gvZ s) 1) (NBR (gvZ s)) (s.2.2.1 109 20).toInt.toNat (y218_3).toNatClampNeg (lbl (s.2.2.1 109 20).toInt.toNat ((sc204).1 169)) (lbl (s.2.2.1 109 20).toInt.toNat ((sc218).1 169)) (y218_1).toInt) → ((y204_1).toInt ≠ 0) → 32 - (y218_3).toInt < (k218 : Int) → GG Z (d - 1) 374 post (gx xp) (1 + k204 * 32401 + 1 + k218 * 900) 218 (fun j => xlook j [(0, .ref (A 109)), (1, .int y218_1), (2, .int y204_2), (3, .int y218_3)]) [] (WW Z A sc218 ++ ex) 0 0 := by
        intro k218
        induction k218 with
        | zero => intro sc218 y218_1 y218_3 hIc218 hFc218 j218_1 j218_2 j218_3 n218_0 g218_0 g218_1 g218_2 mm218; exact m_no mm218 j218_3 rfl
        | succ k218 ih218 =>
          intro sc218 y218_1 y218_3 hIc218 hFc218 j218_1 j218_2 j218_3 n218_0 g218_0 g218_1 g218_2 mm218
          refine gg_w (M := 1 + k204 * 32401 + 1 + k218 * 900 + 900) gws ?_
          refine g_iload_n 219 (gd rfl) rfl rfl ?_
          refine g_aload_n 220 (gd rfl) rfl rfl ?_
          refine g_getI 223 (gd rfl) rfl rfl rfl (fun z220 e220 => ?_)
          have q220 : u_109_20 = z220 := (fr_F e_109_20 hFc218 rfl).trans e220.symm
          subst q220
          refine g_cmp_ge 226 268 (gd rfl) rfl rfl (fun c223 => ?_) (fun c223 => ?_)
          · skip
            refine g_iinc 271 (gd rfl) rfl rfl (Nat.le_of_ble_eq_true rfl) (fun z268 e268 => ?_)
            have i268 := in_add 1 20 e268 j218_2 (in_c 1 rfl) rfl rfl
            refine g_goto 204 (gd rfl) rfl ?_
            have n204 : RGB (ARE (gvZ s) 0) (ARE (gvZ s) 1) (s.2.2.1 109 20).toInt.toNat sc218 := by exact g218_0
            have n204a : ITC (ARE (gvZ s) 0) (ARE (gvZ s) 1) (NBR (gvZ s)) (s.2.2.1 109 20).toInt.toNat (idl (s.2.2.1 109 20).toInt.toNat) (z268).toInt (y218_1).toInt (lbl (s.2.2.1 109 20).toInt.toNat ((sc218).1 169)) := by have h9 := g218_1; rw [(show (y218_3).toNatClampNeg = (s.2.2.1 109 20).toInt.toNat from (by show (y218_3).toInt.toNat = _; rw [← e_109_20]; (first | have a0 := in_u j218_2 | (have a0 := j218_2; unfold In at a0)); (first | have a1 := in_u ro_109_20 | (have a1 := ro_109_20; unfold In at a1)); (first | have a2 := in_u ro_109_19 | (have a2 := ro_109_19; unfold In at a2)); (first | have a3 := in_u j218_3 | (have a3 := j218_3; unfold In at a3)); (first | have a4 := in_u j218_1 | (have a4 := j218_1; unfold In at a4)); (first | have a5 := in_u i268 | (have a5 := i268; unfold In at a5)); have a6 := t_add e268 j218_2 (in_c 1 rfl) rfl; (first | have a7 := in_u ((in_c 1 rfl)) | (have a7 := (in_c 1 rfl); unfold In at a7)); have oc := oc_374_109; omega))] at h9; exact itc_s g204_1 (by (first | have a0 := in_u j218_2 | (have a0 := j218_2; unfold In at a0)); (first | have a1 := in_u ro_109_20 | (have a1 := ro_109_20; unfold In at a1)); (first | have a2 := in_u ro_109_19 | (have a2 := ro_109_19; unfold In at a2)); (first | have a3 := in_u j218_3 | (have a3 := j218_3; unfold In at a3)); (first | have a4 := in_u j218_1 | (have a4 := j218_1; unfold In at a4)); (first | have a5 := in_u i268 | (have a5 := i268; unfold In at a5)); have a6 := t_add e268 j218_2 (in_c 1 rfl) rfl; (first | have a7 := in_u ((in_c 1 rfl)) | (have a7 := (in_c 1 rfl); unfold In at a7)); have oc := oc_374_109; omega) (by (first | have a0 := in_u j218_2 | (have a0 := j218_2; unfold In at a0)); (first | have a1 := in_u ro_109_20 | (have a1 := ro_109_20; unfold In at a1)); (first | have a2 := in_u ro_109_19 | (have a2 := ro_109_19; unfold In at a2)); (first | have a3 := in_u j218_3 | (have a3 := j218_3; unfold In at a3)); (first | have a4 := in_u j218_1 | (have a4 := j218_1; unfold In at a4)); (first | have a5 := in_u i268 | (have a5 := i268; unfold In at a5)); have a6 := t_add e268 j218_2 (in_c 1 rfl) rfl; (first | have a7 := in_u ((in_c 1 rfl)) | (have a7 := (in_c 1 rfl); unfold In at a7)); have oc := oc_374_109; omega) g218_2 h9.1 (by (first | have a0 := in_u j218_2 | (have a0 := j218_2; unfold In at a0)); (first | have a1 := in_u ro_109_20 | (have a1 := ro_109_20; unfold In at a1)); (first | have a2 := in_u ro_109_19 | (have a2 := ro_109_19; unfold In at a2)); (first | have a3 := in_u j218_3 | (have a3 := j218_3; unfold In at a3)); (first | have a4 := in_u j218_1 | (have a4 := j218_1; unfold In at a4)); (first | have a5 := in_u i268 | (have a5 := i268; unfold In at a5)); have a6 := t_add e268 j218_2 (in_c 1 rfl) rfl; (first | have a7 := in_u ((in_c 1 rfl)) | (have a7 := (in_c 1 rfl); unfold In at a7)); have oc := oc_374_109; omega) h9.2.1
            exact gg_w (by first | exact Nat.le_add_right _ _ | exact gw2 | exact gw3 | exact gwe rfl | exact gwf rfl | exact gwg rfl | exact gwh rfl | omega) (gg_f (gf_cons rfl (gf_cons rfl (gf_cons rfl gf_nil))) (ih204 sc218 y218_1 z268 hIc218 hFc218 (in_w 0 1 j218_1 rfl) (in_w 0 20 i268 rfl) n204 n204a (m_up mm204 (t_add e268 j218_2 (in_c 1 rfl) rfl) (in_w 1 1 (in_c 1 rfl) rfl))))
          · skip
            have i223 := r_lt1 0 31 c223 j218_3 ro_109_20 rfl
            have i223a := r_lt2 1 32 c223 j218_3 ro_109_20 rfl
            refine g_aload_n 227 (gd rfl) rfl rfl ?_
            refine g_iload_n 228 (gd rfl) rfl rfl ?_
            refine g_callv (X := _) (As := [.int y218_3]) (r := []) (b := A 109) (q := 109) 231 (gd rfl) rfl rfl rfl rfl rfl (ww_o rfl) (Nat.le_of_ble_eq_true rfl) (Nat.zero_le _) (Nat.zero_le _) (f_376 (by first | exact dq1 hd rfl | exact dq0 hd rfl | exact dq2 hd rfl | exact dq3 hd rfl | omega) hIc218 (in_w 0 31 i223 rfl)) (fun e u h => h) (fun v u h => ?_)
            obtain ⟨z228, rfl, rfl, i228, p228⟩ := h
            show GG _ _ _ _ _ _ _ _ [.int z228] _ _ _
            refine g_istore 233 (gd rfl) rfl (Nat.le_of_ble_eq_true rfl) ?_
            refine g_iload_n 234 (gd rfl) rfl rfl ?_
            refine g_if_ne 237 248 (gd rfl) rfl rfl (fun c234 => ?_) (fun c234 => ?_)
            · skip
              have i234 := z_ne 1 1 c234 j218_1 rfl
              refine g_iconst 1 249 (gd rfl) rfl rfl ?_
              refine g_goto 253 (gd rfl) rfl ?_
              refine g_istore_n 254 (gd rfl) rfl (Nat.le_of_ble_eq_true rfl) ?_
              refine g_aload_n 255 (gd rfl) rfl rfl ?_
              refine g_getA (q2 := 169) 258 (gd rfl) rfl rfl rfl rfl ?_
              refine g_iload_n 259 (gd rfl) rfl rfl ?_
              refine g_iload 261 (gd rfl) rfl rfl ?_
              refine g_iastore 262 (gd rfl) rfl (n := 32) rfl (in_ix i223 rfl) ?_
              have hI261 := inv_sI (q := 169) (j := y218_3.toNatClampNeg) hIc218 rfl (in_w (-2147483648) 2147483647 i228 rfl)
              refine g_iinc 265 (gd rfl) rfl rfl (Nat.le_of_ble_eq_true rfl) (fun z262 e262 => ?_)
              have i262 := in_add 1 32 e262 i223 (in_c 1 rfl) rfl rfl
              refine g_goto 218 (gd rfl) rfl ?_
              have n218 : (z262).toInt ≤ (u_109_20).toInt := by (first | have a0 := in_u j218_2 | (have a0 := j218_2; unfold In at a0)); (first | have a1 := in_u i223a | (have a1 := i223a; unfold In at a1)); (first | have a2 := in_u ro_109_19 | (have a2 := ro_109_19; unfold In at a2)); (first | have a3 := in_u i223 | (have a3 := i223; unfold In at a3)); (first | have a4 := in_u i234 | (have a4 := i234; unfold In at a4)); (first | have a5 := in_u i262 | (have a5 := i262; unfold In at a5)); have a6 := t_add e262 i223 (in_c 1 rfl) rfl; (first | have a7 := in_u ((in_c 1 rfl)) | (have a7 := (in_c 1 rfl); unfold In at a7)); have oc := oc_374_109; omega
              have n218a : RGB (ARE (gvZ s) 0) (ARE (gvZ s) 1) (s.2.2.1 109 20).toInt.toNat (sI sc218 169 y218_3.toNatClampNeg z228) := by exact rgb_fr (L := ([169], [], [], [])) g218_0 (fr_sI rfl fr_rf) rfl
              have n218b : SWM (ARE (gvZ s) 0) (ARE (gvZ s) 1) (NBR (gvZ s)) (s.2.2.1 109 20).toInt.toNat (z262).toNatClampNeg (lbl (s.2.2.1 109 20).toInt.toNat ((sc204).1 169)) (lbl (s.2.2.1 109 20).toInt.toNat (((sI sc218 169 y218_3.toNatClampNeg z228)).1 169)) ((Int32.ofInt 1)).toInt := by have bq := p228 (ARE (gvZ s) 0) (ARE (gvZ s) 1) (NBR (gvZ s)) (show BFX (ARE (gvZ s) 0) (ARE (gvZ s) 1) (NBR (gvZ s)) (sc218.2.2.1 109 20).toInt.toNat sc218 (y218_3).toNatClampNeg from (by rw [hFc218.2.2.1 109 20 rfl]; exact ⟨(show (s.2.2.1 109 20).toInt.toNat ≤ 32 from (by have i9 := inv_F hI (z := s.2.2.1 109 20) 0 32 rfl rfl; have h9 := i9.2; omega)), (show (y218_3).toNatClampNeg < (s.2.2.1 109 20).toInt.toNat from (by show (y218_3).toInt.toNat < _; rw [← e_109_20]; (first | have a0 := in_u j218_2 | (have a0 := j218_2; unfold In at a0)); (first | have a1 := in_u i223a | (have a1 := i223a; unfold In at a1)); (first | have a2 := in_u ro_109_19 | (have a2 := ro_109_19; unfold In at a2)); (first | have a3 := in_u i223 | (have a3 := i223; unfold In at a3)); (first | have a4 := in_u i234 | (have a4 := i234; unfold In at a4)); (first | have a5 := in_u i262 | (have a5 := i262; unfold In at a5)); have a6 := t_add e262 i223 (in_c 1 rfl) rfl; (first | have a7 := in_u ((in_c 1 rfl)) | (have a7 := (in_c 1 rfl); unfold In at a7)); have oc := oc_374_109; omega)), g218_0, (by have h9 := gvz_i hI; rw [nG_z hI] at h9; exact h9), (fun x y hxy => jl_nbr hxy), fun x q => q.1 rfl⟩)); rw [hFc218.2.2.1 109 20 rfl] at bq; rw [sI_q]; exact swm_r g218_1 (show (y218_3).toNatClampNeg < (s.2.2.1 109 20).toInt.toNat from (by show (y218_3).toInt.toNat < _; rw [← e_109_20]; (first | have a0 := in_u j218_2 | (have a0 := j218_2; unfold In at a0)); (first | have a1 := in_u i223a | (have a1 := i223a; unfold In at a1)); (first | have a2 := in_u ro_109_19 | (have a2 := ro_109_19; unfold In at a2)); (first | have a3 := in_u i223 | (have a3 := i223; unfold In at a3)); (first | have a4 := in_u i234 | (have a4 := i234; unfold In at a4)); (first | have a5 := in_u i262 | (have a5 := i262; unfold In at a5)); have a6 := t_add e262 i223 (in_c 1 rfl) rfl; (first | have a7 := in_u ((in_c 1 rfl)) | (have a7 := (in_c 1 rfl); unfold In at a7)); have oc := oc_374_109; omega)) bq (show (z262).toNatClampNeg = (y218_3).toNatClampNeg + 1 from (by show (z262).toInt.toNat = (y218_3).toInt.toNat + 1; (first | have a0 := in_u j218_2 | (have a0 := j218_2; unfold In at a0)); (first | have a1 := in_u i223a | (have a1 := i223a; unfold In at a1)); (first | have a2 := in_u ro_109_19 | (have a2 := ro_109_19; unfold In at a2)); (first | have a3 := in_u i223 | (have a3 := i223; unfold In at a3)); (first | have a4 := in_u i234 | (have a4 := i234; unfold In at a4)); (first | have a5 := in_u i262 | (have a5 := i262; unfold In at a5)); have a6 := t_add e262 i223 (in_c 1 rfl) rfl; (first | have a7 := in_u ((in_c 1 rfl)) | (have a7 := (in_c 1 rfl); unfold In at a7)); have oc := oc_374_109; omega)) ⟨fun _ => Or.inl c234, fun _ => by decide⟩
              have n218c : (y204_1).toInt ≠ 0 := by exact g218_2
              exact gg_w (by first | exact Nat.le_add_right _ _ | exact gw2 | exact gw3 | exact gwe rfl | exact gwf rfl | exact gwg rfl | exact gwh rfl | omega) (gg_f (gf_cons rfl (gf_cons rfl (gf_cons rfl (gf_cons rfl gf_nil)))) (ih218 (sI sc218 169 y218_3.toNatClampNeg z228) (Int32.ofInt 1) z262 hI261 (fr_sI rfl hFc218) (in_w 0 1 (in_c 1 rfl) rfl) (in_w 0 19 j218_2 rfl) (in_w 0 32 i262 rfl) n218 n218a n218b n218c (m_up mm218 (t_add e262 i223 (in_c 1 rfl) rfl) (in_w 1 1 (in_c 1 rfl) rfl))))
            · skip
              have i234 := z_eq 0 0 c234 j218_1 rfl
              refine g_iload 239 (gd rfl) rfl rfl ?_
              refine g_aload_n 240 (gd rfl) rfl rfl ?_
              refine g_getA (q2 := 169) 243 (gd rfl) rfl rfl rfl rfl ?_
              refine g_iload_n 244 (gd rfl) rfl rfl ?_
              refine g_iaload 245 (gd rfl) rfl (n := 32) rfl (in_ix i223 rfl) (fun z244 e244 => ?_)
              refine g_cmp_eq 248 252 (gd rfl) rfl rfl (fun c245 => ?_) (fun c245 => ?_)
              · skip
                refine g_iconst 0 253 (gd rfl) rfl rfl ?_
                refine g_istore_n 254 (gd rfl) rfl (Nat.le_of_ble_eq_true rfl) ?_
                refine g_aload_n 255 (gd rfl) rfl rfl ?_
                refine g_getA (q2 := 169) 258 (gd rfl) rfl rfl rfl rfl ?_
                refine g_iload_n 259 (gd rfl) rfl rfl ?_
                refine g_iload 261 (gd rfl) rfl rfl ?_
                refine g_iastore 262 (gd rfl) rfl (n := 32) rfl (in_ix i223 rfl) ?_
                have hI261 := inv_sI (q := 169) (j := y218_3.toNatClampNeg) hIc218 rfl (in_w (-2147483648) 2147483647 i228 rfl)
                refine g_iinc 265 (gd rfl) rfl rfl (Nat.le_of_ble_eq_true rfl) (fun z262 e262 => ?_)
                have i262 := in_add 1 32 e262 i223 (in_c 1 rfl) rfl rfl
                refine g_goto 218 (gd rfl) rfl ?_
                have n218 : (z262).toInt ≤ (u_109_20).toInt := by (first | have a0 := in_u j218_2 | (have a0 := j218_2; unfold In at a0)); (first | have a1 := in_u i223a | (have a1 := i223a; unfold In at a1)); (first | have a2 := in_u ro_109_19 | (have a2 := ro_109_19; unfold In at a2)); (first | have a3 := in_u i223 | (have a3 := i223; unfold In at a3)); (first | have a4 := in_u i234 | (have a4 := i234; unfold In at a4)); (first | have a5 := in_u i262 | (have a5 := i262; unfold In at a5)); have a6 := t_add e262 i223 (in_c 1 rfl) rfl; (first | have a7 := in_u ((in_c 1 rfl)) | (have a7 := (in_c 1 rfl); unfold In at a7)); (first | have a8 := in_u ((in_c 0 rfl)) | (have a8 := (in_c 0 rfl); unfold In at a8)); have oc := oc_374_109; omega
                have n218a : RGB (ARE (gvZ s) 0) (ARE (gvZ s) 1) (s.2.2.1 109 20).toInt.toNat (sI sc218 169 y218_3.toNatClampNeg z228) := by exact rgb_fr (L := ([169], [], [], [])) g218_0 (fr_sI rfl fr_rf) rfl
                have n218b : SWM (ARE (gvZ s) 0) (ARE (gvZ s) 1) (NBR (gvZ s)) (s.2.2.1 109 20).toInt.toNat (z262).toNatClampNeg (lbl (s.2.2.1 109 20).toInt.toNat ((sc204).1 169)) (lbl (s.2.2.1 109 20).toInt.toNat (((sI sc218 169 y218_3.toNatClampNeg z228)).1 169)) ((Int32.ofInt 0)).toInt := by first | (have bq := p228 (ARE (gvZ s) 0) (ARE (gvZ s) 1) (NBR (gvZ s)) (show BFX (ARE (gvZ s) 0) (ARE (gvZ s) 1) (NBR (gvZ s)) (sc218.2.2.1 109 20).toInt.toNat sc218 (y218_3).toNatClampNeg from (by rw [hFc218.2.2.1 109 20 rfl]; exact ⟨(show (s.2.2.1 109 20).toInt.toNat ≤ 32 from (by have i9 := inv_F hI (z := s.2.2.1 109 20) 0 32 rfl rfl; have h9 := i9.2; omega)), (show (y218_3).toNatClampNeg < (s.2.2.1 109 20).toInt.toNat from (by show (y218_3).toInt.toNat < _; rw [← e_109_20]; (first | have a0 := in_u j218_2 | (have a0 := j218_2; unfold In at a0)); (first | have a1 := in_u i223a | (have a1 := i223a; unfold In at a1)); (first | have a2 := in_u ro_109_19 | (have a2 := ro_109_19; unfold In at a2)); (first | have a3 := in_u i223 | (have a3 := i223; unfold In at a3)); (first | have a4 := in_u i234 | (have a4 := i234; unfold In at a4)); (first | have a5 := in_u i262 | (have a5 := i262; unfold In at a5)); have a6 := t_add e262 i223 (in_c 1 rfl) rfl; (first | have a7 := in_u ((in_c 1 rfl)) | (have a7 := (in_c 1 rfl); unfold In at a7)); (first | have a8 := in_u ((in_c 0 rfl)) | (have a8 := (in_c 0 rfl); unfold In at a8)); have oc := oc_374_109; omega)), g218_0, (by have h9 := gvz_i hI; rw [nG_z hI] at h9; exact h9), (fun x y hxy => jl_nbr hxy), fun x q => q.1 rfl⟩)); rw [hFc218.2.2.1 109 20 rfl] at bq; rw [sI_q]; exact swm_r g218_1 (show (y218_3).toNatClampNeg < (s.2.2.1 109 20).toInt.toNat from (by show (y218_3).toInt.toNat < _; rw [← e_109_20]; (first | have a0 := in_u j218_2 | (have a0 := j218_2; unfold In at a0)); (first | have a1 := in_u i223a | (have a1 := i223a; unfold In at a1)); (first | have a2 := in_u ro_109_19 | (have a2 := ro_109_19; unfold In at a2)); (first | have a3 := in_u i223 | (have a3 := i223; unfold In at a3)); (first | have a4 := in_u i234 | (have a4 := i234; unfold In at a4)); (first | have a5 := in_u i262 | (have a5 := i262; unfold In at a5)); have a6 := t_add e262 i223 (in_c 1 rfl) rfl; (first | have a7 := in_u ((in_c 1 rfl)) | (have a7 := (in_c 1 rfl); unfold In at a7)); (first | have a8 := in_u ((in_c 0 rfl)) | (have a8 := (in_c 0 rfl); unfold In at a8)); have oc := oc_374_109; omega)) bq (show (z262).toNatClampNeg = (y218_3).toNatClampNeg + 1 from (by show (z262).toInt.toNat = (y218_3).toInt.toNat + 1; (first | have a0 := in_u j218_2 | (have a0 := j218_2; unfold In at a0)); (first | have a1 := in_u i223a | (have a1 := i223a; unfold In at a1)); (first | have a2 := in_u ro_109_19 | (have a2 := ro_109_19; unfold In at a2)); (first | have a3 := in_u i223 | (have a3 := i223; unfold In at a3)); (first | have a4 := in_u i234 | (have a4 := i234; unfold In at a4)); (first | have a5 := in_u i262 | (have a5 := i262; unfold In at a5)); have a6 := t_add e262 i223 (in_c 1 rfl) rfl; (first | have a7 := in_u ((in_c 1 rfl)) | (have a7 := (in_c 1 rfl); unfold In at a7)); (first | have a8 := in_u ((in_c 0 rfl)) | (have a8 := (in_c 0 rfl); unfold In at a8)); have oc := oc_374_109; omega)) ⟨fun q => absurd (by decide) q, fun q => q.elim (fun w => absurd c234 w) (fun w => absurd (by rw [← e244]; exact c245) w)⟩) | (have bq := p228 (ARE (gvZ s) 0) (ARE (gvZ s) 1) (NBR (gvZ s)) (show BFX (ARE (gvZ s) 0) (ARE (gvZ s) 1) (NBR (gvZ s)) (sc218.2.2.1 109 20).toInt.toNat sc218 (y218_3).toNatClampNeg from (by rw [hFc218.2.2.1 109 20 rfl]; exact ⟨(show (s.2.2.1 109 20).toInt.toNat ≤ 32 from (by have i9 := inv_F hI (z := s.2.2.1 109 20) 0 32 rfl rfl; have h9 := i9.2; omega)), (show (y218_3).toNatClampNeg < (s.2.2.1 109 20).toInt.toNat from (by show (y218_3).toInt.toNat < _; rw [← e_109_20]; (first | have a0 := in_u j218_2 | (have a0 := j218_2; unfold In at a0)); (first | have a1 := in_u i223a | (have a1 := i223a; unfold In at a1)); (first | have a2 := in_u ro_109_19 | (have a2 := ro_109_19; unfold In at a2)); (first | have a3 := in_u i223 | (have a3 := i223; unfold In at a3)); (first | have a4 := in_u i234 | (have a4 := i234; unfold In at a4)); (first | have a5 := in_u i262 | (have a5 := i262; unfold In at a5)); have a6 := t_add e262 i223 (in_c 1 rfl) rfl; (first | have a7 := in_u ((in_c 1 rfl)) | (have a7 := (in_c 1 rfl); unfold In at a7)); (first | have a8 := in_u ((in_c 0 rfl)) | (have a8 := (in_c 0 rfl); unfold In at a8)); have oc := oc_374_109; omega)), g218_0, (by have h9 := gvz_i hI; rw [nG_z hI] at h9; exact h9), (fun x y hxy => jl_nbr hxy), fun x q => q.1 rfl⟩)); rw [hFc218.2.2.1 109 20 rfl] at bq; rw [sI_q]; exact swm_r g218_1 (show (y218_3).toNatClampNeg < (s.2.2.1 109 20).toInt.toNat from (by show (y218_3).toInt.toNat < _; rw [← e_109_20]; (first | have a0 := in_u j218_2 | (have a0 := j218_2; unfold In at a0)); (first | have a1 := in_u i223a | (have a1 := i223a; unfold In at a1)); (first | have a2 := in_u ro_109_19 | (have a2 := ro_109_19; unfold In at a2)); (first | have a3 := in_u i223 | (have a3 := i223; unfold In at a3)); (first | have a4 := in_u i234 | (have a4 := i234; unfold In at a4)); (first | have a5 := in_u i262 | (have a5 := i262; unfold In at a5)); have a6 := t_add e262 i223 (in_c 1 rfl) rfl; (first | have a7 := in_u ((in_c 1 rfl)) | (have a7 := (in_c 1 rfl); unfold In at a7)); (first | have a8 := in_u ((in_c 0 rfl)) | (have a8 := (in_c 0 rfl); unfold In at a8)); have oc := oc_374_109; omega)) bq (show (z262).toNatClampNeg = (y218_3).toNatClampNeg + 1 from (by show (z262).toInt.toNat = (y218_3).toInt.toNat + 1; (first | have a0 := in_u j218_2 | (have a0 := j218_2; unfold In at a0)); (first | have a1 := in_u i223a | (have a1 := i223a; unfold In at a1)); (first | have a2 := in_u ro_109_19 | (have a2 := ro_109_19; unfold In at a2)); (first | have a3 := in_u i223 | (have a3 := i223; unfold In at a3)); (first | have a4 := in_u i234 | (have a4 := i234; unfold In at a4)); (first | have a5 := in_u i262 | (have a5 := i262; unfold In at a5)); have a6 := t_add e262 i223 (in_c 1 rfl) rfl; (first | have a7 := in_u ((in_c 1 rfl)) | (have a7 := (in_c 1 rfl); unfold In at a7)); (first | have a8 := in_u ((in_c 0 rfl)) | (have a8 := (in_c 0 rfl); unfold In at a8)); have oc := oc_374_109; omega)) ⟨fun _ => Or.inr (by rw [← e244]; exact c245), fun _ => by decide⟩)
                have n218c : (y204_1).toInt ≠ 0 := by exact g218_2
                exact gg_w (by first | exact Nat.le_add_right _ _ | exact gw2 | exact gw3 | exact gwe rfl | exact gwf rfl | exact gwg rfl | exact gwh rfl | omega) (gg_f (gf_cons rfl (gf_cons rfl (gf_cons rfl (gf_cons rfl gf_nil)))) (ih218 (sI sc218 169 y218_3.toNatClampNeg z228) (Int32.ofInt 0) z262 hI261 (fr_sI rfl hFc218) (in_w 0 1 (in_c 0 rfl) rfl) (in_w 0 19 j218_2 rfl) (in_w 0 32 i262 rfl) n218 n218a n218b n218c (m_up mm218 (t_add e262 i223 (in_c 1 rfl) rfl) (in_w 1 1 (in_c 1 rfl) rfl))))
              · skip
                refine g_iconst 1 249 (gd rfl) rfl rfl ?_
                refine g_goto 253 (gd rfl) rfl ?_
                refine g_istore_n 254 (gd rfl) rfl (Nat.le_of_ble_eq_true rfl) ?_
                refine g_aload_n 255 (gd rfl) rfl rfl ?_
                refine g_getA (q2 := 169) 258 (gd rfl) rfl rfl rfl rfl ?_
                refine g_iload_n 259 (gd rfl) rfl rfl ?_
                refine g_iload 261 (gd rfl) rfl rfl ?_
                refine g_iastore 262 (gd rfl) rfl (n := 32) rfl (in_ix i223 rfl) ?_
                have hI261 := inv_sI (q := 169) (j := y218_3.toNatClampNeg) hIc218 rfl (in_w (-2147483648) 2147483647 i228 rfl)
                refine g_iinc 265 (gd rfl) rfl rfl (Nat.le_of_ble_eq_true rfl) (fun z262 e262 => ?_)
                have i262 := in_add 1 32 e262 i223 (in_c 1 rfl) rfl rfl
                refine g_goto 218 (gd rfl) rfl ?_
                have n218 : (z262).toInt ≤ (u_109_20).toInt := by (first | have a0 := in_u j218_2 | (have a0 := j218_2; unfold In at a0)); (first | have a1 := in_u i223a | (have a1 := i223a; unfold In at a1)); (first | have a2 := in_u ro_109_19 | (have a2 := ro_109_19; unfold In at a2)); (first | have a3 := in_u i223 | (have a3 := i223; unfold In at a3)); (first | have a4 := in_u i234 | (have a4 := i234; unfold In at a4)); (first | have a5 := in_u i262 | (have a5 := i262; unfold In at a5)); have a6 := t_add e262 i223 (in_c 1 rfl) rfl; (first | have a7 := in_u ((in_c 1 rfl)) | (have a7 := (in_c 1 rfl); unfold In at a7)); have oc := oc_374_109; omega
                have n218a : RGB (ARE (gvZ s) 0) (ARE (gvZ s) 1) (s.2.2.1 109 20).toInt.toNat (sI sc218 169 y218_3.toNatClampNeg z228) := by exact rgb_fr (L := ([169], [], [], [])) g218_0 (fr_sI rfl fr_rf) rfl
                have n218b : SWM (ARE (gvZ s) 0) (ARE (gvZ s) 1) (NBR (gvZ s)) (s.2.2.1 109 20).toInt.toNat (z262).toNatClampNeg (lbl (s.2.2.1 109 20).toInt.toNat ((sc204).1 169)) (lbl (s.2.2.1 109 20).toInt.toNat (((sI sc218 169 y218_3.toNatClampNeg z228)).1 169)) ((Int32.ofInt 1)).toInt := by first | (have bq := p228 (ARE (gvZ s) 0) (ARE (gvZ s) 1) (NBR (gvZ s)) (show BFX (ARE (gvZ s) 0) (ARE (gvZ s) 1) (NBR (gvZ s)) (sc218.2.2.1 109 20).toInt.toNat sc218 (y218_3).toNatClampNeg from (by rw [hFc218.2.2.1 109 20 rfl]; exact ⟨(show (s.2.2.1 109 20).toInt.toNat ≤ 32 from (by have i9 := inv_F hI (z := s.2.2.1 109 20) 0 32 rfl rfl; have h9 := i9.2; omega)), (show (y218_3).toNatClampNeg < (s.2.2.1 109 20).toInt.toNat from (by show (y218_3).toInt.toNat < _; rw [← e_109_20]; (first | have a0 := in_u j218_2 | (have a0 := j218_2; unfold In at a0)); (first | have a1 := in_u i223a | (have a1 := i223a; unfold In at a1)); (first | have a2 := in_u ro_109_19 | (have a2 := ro_109_19; unfold In at a2)); (first | have a3 := in_u i223 | (have a3 := i223; unfold In at a3)); (first | have a4 := in_u i234 | (have a4 := i234; unfold In at a4)); (first | have a5 := in_u i262 | (have a5 := i262; unfold In at a5)); have a6 := t_add e262 i223 (in_c 1 rfl) rfl; (first | have a7 := in_u ((in_c 1 rfl)) | (have a7 := (in_c 1 rfl); unfold In at a7)); have oc := oc_374_109; omega)), g218_0, (by have h9 := gvz_i hI; rw [nG_z hI] at h9; exact h9), (fun x y hxy => jl_nbr hxy), fun x q => q.1 rfl⟩)); rw [hFc218.2.2.1 109 20 rfl] at bq; rw [sI_q]; exact swm_r g218_1 (show (y218_3).toNatClampNeg < (s.2.2.1 109 20).toInt.toNat from (by show (y218_3).toInt.toNat < _; rw [← e_109_20]; (first | have a0 := in_u j218_2 | (have a0 := j218_2; unfold In at a0)); (first | have a1 := in_u i223a | (have a1 := i223a; unfold In at a1)); (first | have a2 := in_u ro_109_19 | (have a2 := ro_109_19; unfold In at a2)); (first | have a3 := in_u i223 | (have a3 := i223; unfold In at a3)); (first | have a4 := in_u i234 | (have a4 := i234; unfold In at a4)); (first | have a5 := in_u i262 | (have a5 := i262; unfold In at a5)); have a6 := t_add e262 i223 (in_c 1 rfl) rfl; (first | have a7 := in_u ((in_c 1 rfl)) | (have a7 := (in_c 1 rfl); unfold In at a7)); have oc := oc_374_109; omega)) bq (show (z262).toNatClampNeg = (y218_3).toNatClampNeg + 1 from (by show (z262).toInt.toNat = (y218_3).toInt.toNat + 1; (first | have a0 := in_u j218_2 | (have a0 := j218_2; unfold In at a0)); (first | have a1 := in_u i223a | (have a1 := i223a; unfold In at a1)); (first | have a2 := in_u ro_109_19 | (have a2 := ro_109_19; unfold In at a2)); (first | have a3 := in_u i223 | (have a3 := i223; unfold In at a3)); (first | have a4 := in_u i234 | (have a4 := i234; unfold In at a4)); (first | have a5 := in_u i262 | (have a5 := i262; unfold In at a5)); have a6 := t_add e262 i223 (in_c 1 rfl) rfl; (first | have a7 := in_u ((in_c 1 rfl)) | (have a7 := (in_c 1 rfl); unfold In at a7)); have oc := oc_374_109; omega)) ⟨fun q => absurd (by decide) q, fun q => q.elim (fun w => absurd c234 w) (fun w => absurd (by rw [← e244]; exact c245) w)⟩) | (have bq := p228 (ARE (gvZ s) 0) (ARE (gvZ s) 1) (NBR (gvZ s)) (show BFX (ARE (gvZ s) 0) (ARE (gvZ s) 1) (NBR (gvZ s)) (sc218.2.2.1 109 20).toInt.toNat sc218 (y218_3).toNatClampNeg from (by rw [hFc218.2.2.1 109 20 rfl]; exact ⟨(show (s.2.2.1 109 20).toInt.toNat ≤ 32 from (by have i9 := inv_F hI (z := s.2.2.1 109 20) 0 32 rfl rfl; have h9 := i9.2; omega)), (show (y218_3).toNatClampNeg < (s.2.2.1 109 20).toInt.toNat from (by show (y218_3).toInt.toNat < _; rw [← e_109_20]; (first | have a0 := in_u j218_2 | (have a0 := j218_2; unfold In at a0)); (first | have a1 := in_u i223a | (have a1 := i223a; unfold In at a1)); (first | have a2 := in_u ro_109_19 | (have a2 := ro_109_19; unfold In at a2)); (first | have a3 := in_u i223 | (have a3 := i223; unfold In at a3)); (first | have a4 := in_u i234 | (have a4 := i234; unfold In at a4)); (first | have a5 := in_u i262 | (have a5 := i262; unfold In at a5)); have a6 := t_add e262 i223 (in_c 1 rfl) rfl; (first | have a7 := in_u ((in_c 1 rfl)) | (have a7 := (in_c 1 rfl); unfold In at a7)); have oc := oc_374_109; omega)), g218_0, (by have h9 := gvz_i hI; rw [nG_z hI] at h9; exact h9), (fun x y hxy => jl_nbr hxy), fun x q => q.1 rfl⟩)); rw [hFc218.2.2.1 109 20 rfl] at bq; rw [sI_q]; exact swm_r g218_1 (show (y218_3).toNatClampNeg < (s.2.2.1 109 20).toInt.toNat from (by show (y218_3).toInt.toNat < _; rw [← e_109_20]; (first | have a0 := in_u j218_2 | (have a0 := j218_2; unfold In at a0)); (first | have a1 := in_u i223a | (have a1 := i223a; unfold In at a1)); (first | have a2 := in_u ro_109_19 | (have a2 := ro_109_19; unfold In at a2)); (first | have a3 := in_u i223 | (have a3 := i223; unfold In at a3)); (first | have a4 := in_u i234 | (have a4 := i234; unfold In at a4)); (first | have a5 := in_u i262 | (have a5 := i262; unfold In at a5)); have a6 := t_add e262 i223 (in_c 1 rfl) rfl; (first | have a7 := in_u ((in_c 1 rfl)) | (have a7 := (in_c 1 rfl); unfold In at a7)); have oc := oc_374_109; omega)) bq (show (z262).toNatClampNeg = (y218_3).toNatClampNeg + 1 from (by show (z262).toInt.toNat = (y218_3).toInt.toNat + 1; (first | have a0 := in_u j218_2 | (have a0 := j218_2; unfold In at a0)); (first | have a1 := in_u i223a | (have a1 := i223a; unfold In at a1)); (first | have a2 := in_u ro_109_19 | (have a2 := ro_109_19; unfold In at a2)); (first | have a3 := in_u i223 | (have a3 := i223; unfold In at a3)); (first | have a4 := in_u i234 | (have a4 := i234; unfold In at a4)); (first | have a5 := in_u i262 | (have a5 := i262; unfold In at a5)); have a6 := t_add e262 i223 (in_c 1 rfl) rfl; (first | have a7 := in_u ((in_c 1 rfl)) | (have a7 := (in_c 1 rfl); unfold In at a7)); have oc := oc_374_109; omega)) ⟨fun _ => Or.inr (by rw [← e244]; exact c245), fun _ => by decide⟩)
                have n218c : (y204_1).toInt ≠ 0 := by exact g218_2
                exact gg_w (by first | exact Nat.le_add_right _ _ | exact gw2 | exact gw3 | exact gwe rfl | exact gwf rfl | exact gwg rfl | exact gwh rfl | omega) (gg_f (gf_cons rfl (gf_cons rfl (gf_cons rfl (gf_cons rfl gf_nil)))) (ih218 (sI sc218 169 y218_3.toNatClampNeg z228) (Int32.ofInt 1) z262 hI261 (fr_sI rfl hFc218) (in_w 0 1 (in_c 1 rfl) rfl) (in_w 0 19 j218_2 rfl) (in_w 0 32 i262 rfl) n218 n218a n218b n218c (m_up mm218 (t_add e262 i223 (in_c 1 rfl) rfl) (in_w 1 1 (in_c 1 rfl) rfl))))
      refine g_iload_n 205 (gd rfl) rfl rfl ?_
      refine g_bipush 20 207 (gd rfl) rfl rfl ?_
      refine g_cmp_ge 210 274 (gd rfl) rfl rfl (fun c207 => ?_) (fun c207 => ?_)
      · skip
        have i207 := r_le2 20 20 c207 (in_c 20 rfl) j204_2 rfl
        have n274 : RGB (ARE (gvZ s) 0) (ARE (gvZ s) 1) (s.2.2.1 109 20).toInt.toNat sc204 ∧ ITR (ARE (gvZ s) 0) (ARE (gvZ s) 1) (NBR (gvZ s)) (s.2.2.1 109 20).toInt.toNat 20 (idl (s.2.2.1 109 20).toInt.toNat) (lbl (s.2.2.1 109 20).toInt.toNat ((sc204).1 169)) := by exact ⟨g204_0, itc_e g204_1 (Or.inl (by (first | have a0 := in_u ro_109_20 | (have a0 := ro_109_20; unfold In at a0)); (first | have a1 := in_u ro_109_19 | (have a1 := ro_109_19; unfold In at a1)); (first | have a2 := in_u i207 | (have a2 := i207; unfold In at a2)); (first | have a3 := in_u j204_1 | (have a3 := j204_1; unfold In at a3)); have oc := oc_374_109; omega))⟩
        exact g_return (gd rfl) rfl (hP _ _ ⟨sc204, hIc204, hFc204, rfl, rfl, n274⟩)
      · skip
        have i207 := r_lt1 0 19 c207 j204_2 (in_c 20 rfl) rfl
        refine g_iload_n 211 (gd rfl) rfl rfl ?_
        refine g_if_eq 214 274 (gd rfl) rfl rfl (fun c211 => ?_) (fun c211 => ?_)
        · skip
          have i211 := z_eq 0 0 c211 j204_1 rfl
          have n274 : RGB (ARE (gvZ s) 0) (ARE (gvZ s) 1) (s.2.2.1 109 20).toInt.toNat sc204 ∧ ITR (ARE (gvZ s) 0) (ARE (gvZ s) 1) (NBR (gvZ s)) (s.2.2.1 109 20).toInt.toNat 20 (idl (s.2.2.1 109 20).toInt.toNat) (lbl (s.2.2.1 109 20).toInt.toNat ((sc204).1 169)) := by exact ⟨g204_0, itc_e g204_1 (Or.inr c211)⟩
          exact g_return (gd rfl) rfl (hP _ _ ⟨sc204, hIc204, hFc204, rfl, rfl, n274⟩)
        · skip
          have i211 := z_ne 1 1 c211 j204_1 rfl
          refine g_iconst 0 215 (gd rfl) rfl rfl ?_
          refine g_istore_n 216 (gd rfl) rfl (Nat.le_of_ble_eq_true rfl) ?_
          refine g_iconst 0 217 (gd rfl) rfl rfl ?_
          refine g_istore_n 218 (gd rfl) rfl (Nat.le_of_ble_eq_true rfl) ?_
          have n218 : ((Int32.ofInt 0)).toInt ≤ (u_109_20).toInt := by (first | have a0 := in_u ro_109_20 | (have a0 := ro_109_20; unfold In at a0)); (first | have a1 := in_u ro_109_19 | (have a1 := ro_109_19; unfold In at a1)); (first | have a2 := in_u i207 | (have a2 := i207; unfold In at a2)); (first | have a3 := in_u i211 | (have a3 := i211; unfold In at a3)); (first | have a4 := in_u ((in_c 0 rfl)) | (have a4 := (in_c 0 rfl); unfold In at a4)); have oc := oc_374_109; omega
          have n218a : RGB (ARE (gvZ s) 0) (ARE (gvZ s) 1) (s.2.2.1 109 20).toInt.toNat sc204 := by exact g204_0
          have n218b : SWM (ARE (gvZ s) 0) (ARE (gvZ s) 1) (NBR (gvZ s)) (s.2.2.1 109 20).toInt.toNat ((Int32.ofInt 0)).toNatClampNeg (lbl (s.2.2.1 109 20).toInt.toNat ((sc204).1 169)) (lbl (s.2.2.1 109 20).toInt.toNat ((sc204).1 169)) ((Int32.ofInt 0)).toInt := by exact swm_0 rfl rfl
          have n218c : (y204_1).toInt ≠ 0 := by exact c211
          exact gg_w (by first | exact Nat.le_add_right _ _ | exact gw2 | exact gw3 | exact gwe rfl | exact gwf rfl | exact gwg rfl | exact gwh rfl | omega) (gg_f (gf_cons rfl (gf_cons rfl (gf_cons rfl (gf_cons rfl gf_nil)))) (ct218 33 sc204 (Int32.ofInt 0) (Int32.ofInt 0) hIc204 hFc204 (in_w 0 1 (in_c 0 rfl) rfl) (in_w 0 19 i207 rfl) (in_w 0 32 (in_c 0 rfl) rfl) n218 n218a n218b n218c (m_in 33 (in_w 0 32 (in_c 0 rfl) rfl) rfl)))
  have ct59 : ∀ (k59 : Nat) (sc59 : GS) (y59_1 : Int32) (w59_109_80 : Int32), Inv sc59 → Fr fm_374 s sc59 → (In y59_1 0 160) → (w59_109_80 = sc59.2.2.1 109 80) → ((w59_109_80).toInt ≤ (y59_1).toInt) → (RGI (ARE (gvZ s) 0) (ARE (gvZ s) 1) (s.2.2.1 109 20).toInt.toNat (y59_1).toNatClampNeg ((sc59).2.2.1 109 80).toInt ((sc59).1 170) ((sc59).1 171)) → (∀ u : Nat, u < (s.2.2.1 109 20).toInt.toNat → ((sc59).1 169 u).toInt = (u : Int)) → 160 - (y59_1).toInt < (k59 : Int) → GG Z (d - 1) 374 post (gx xp) (680423 + k59 * 900) 59 (fun j => xlook j [(0, .ref (A 109)), (1, .int y59_1)]) [] (WW Z A sc59 ++ ex) 0 0 := by
    intro k59
    induction k59 with
    | zero => intro sc59 y59_1 w59_109_80 hIc59 hFc59 j59_1 v59_109_80 n59_0 g59_0 g59_1 mm59; exact m_no mm59 j59_1 rfl
    | succ k59 ih59 =>
      intro sc59 y59_1 w59_109_80 hIc59 hFc59 j59_1 v59_109_80 n59_0 g59_0 g59_1 mm59
      refine gg_w (M := 680423 + k59 * 900 + 900) gws ?_
      refine g_iload_n 60 (gd rfl) rfl rfl ?_
      refine g_sipush 160 63 (gd rfl) rfl rfl ?_
      refine g_cmp_ge 66 200 (gd rfl) rfl rfl (fun c63 => ?_) (fun c63 => ?_)
      · skip
        have i63 := r_le2 160 160 c63 (in_c 160 rfl) j59_1 rfl
        refine g_iconst 1 201 (gd rfl) rfl rfl ?_
        refine g_istore_n 202 (gd rfl) rfl (Nat.le_of_ble_eq_true rfl) ?_
        refine g_iconst 0 203 (gd rfl) rfl rfl ?_
        refine g_istore_n 204 (gd rfl) rfl (Nat.le_of_ble_eq_true rfl) ?_
        have n204 : RGB (ARE (gvZ s) 0) (ARE (gvZ s) 1) (s.2.2.1 109 20).toInt.toNat sc59 := by have h9 := g59_0; rw [show (y59_1).toNatClampNeg = 160 from (by show (y59_1).toInt.toNat = 160; (first | have a0 := in_u ro_109_20 | (have a0 := ro_109_20; unfold In at a0)); (first | have a1 := in_u ro_109_19 | (have a1 := ro_109_19; unfold In at a1)); (first | have a2 := in_u ((inv_F hIc59 0 160 rfl v59_109_80)) | (have a2 := (inv_F hIc59 0 160 rfl v59_109_80); unfold In at a2)); (first | have a3 := in_u i63 | (have a3 := i63; unfold In at a3)); (first | have a4 := in_u ((in_c 0 rfl)) | (have a4 := (in_c 0 rfl); unfold In at a4)); (first | have a5 := in_u ((in_c 1 rfl)) | (have a5 := (in_c 1 rfl); unfold In at a5)); have oc := oc_374_109; omega)] at h9; exact rgb_e h9
        have n204a : ITC (ARE (gvZ s) 0) (ARE (gvZ s) 1) (NBR (gvZ s)) (s.2.2.1 109 20).toInt.toNat (idl (s.2.2.1 109 20).toInt.toNat) ((Int32.ofInt 0)).toInt ((Int32.ofInt 1)).toInt (lbl (s.2.2.1 109 20).toInt.toNat ((sc59).1 169)) := by rw [idl_l g59_1]; exact itc_0 rfl (by decide)
        exact gg_w (by first | exact Nat.le_add_right _ _ | exact gw2 | exact gw3 | exact gwe rfl | exact gwf rfl | exact gwg rfl | exact gwh rfl | omega) (gg_f (gf_cons rfl (gf_cons rfl (gf_cons rfl gf_nil))) (ct204 21 sc59 (Int32.ofInt 1) (Int32.ofInt 0) hIc59 hFc59 (in_w 0 1 (in_c 1 rfl) rfl) (in_w 0 20 (in_c 0 rfl) rfl) n204 n204a (m_in 21 (in_w 0 20 (in_c 0 rfl) rfl) rfl)))
      · skip
        have i63 := r_lt1 0 159 c63 j59_1 (in_c 160 rfl) rfl
        refine g_aload_n 67 (gd rfl) rfl rfl ?_
        refine g_iload_n 68 (gd rfl) rfl rfl ?_
        refine g_callv (X := _) (As := [.int y59_1]) (r := []) (b := A 109) (q := 109) 71 (gd rfl) rfl rfl rfl rfl rfl (ww_o rfl) (Nat.le_of_ble_eq_true rfl) (mc := 0) (ms := 0) (Nat.zero_le _) (Nat.zero_le _) (P := fun v u => _) ?_ (fun e u h => h) (fun v u h => h)
        intro po68 xx68 hp68 hx68
        refine g_enter2 (k := 288) (N := 300) (by first | exact dq1 hd rfl | exact dq0 hd rfl | exact dq2 hd rfl | exact dq3 hd rfl | omega) rfl (Nat.le_of_ble_eq_true rfl) ?_
        refine g_aload_n 1 (gd rfl) rfl rfl ?_
        refine g_getA (q2 := 112) 4 (gd rfl) rfl rfl rfl rfl ?_
        refine g_aload_n 5 (gd rfl) rfl rfl ?_
        refine g_getI 8 (gd rfl) rfl rfl rfl (fun z68x5 e68x5 => ?_)
        have q68x5 : u_109_19 = z68x5 := (fr_F e_109_19 hFc59 rfl).trans e68x5.symm
        subst q68x5
        refine g_iload_n 9 (gd rfl) rfl rfl ?_
        refine g_iadd 10 (gd rfl) rfl (fun z68x9 e68x9 => ?_)
        have i68x9 := in_add 0 319 e68x9 ro_109_19 i63 rfl rfl
        refine g_baload 11 (gd rfl) rfl (n := 480) rfl (in_ix i68x9 rfl) (fun z68x10 e68x10 => ?_)
        have i68x10 := inv_I hIc59 (n := 480) (t := 3) 0 1 rfl (in_ix i68x9 rfl) rfl e68x10
        refine g_if_eq 14 43 (gd rfl) rfl rfl (fun c68x11 => ?_) (fun c68x11 => ?_)
        · skip
          have i68x11 := z_eq 0 0 c68x11 i68x10 rfl
          refine g_iconst 0 44 (gd rfl) rfl rfl ?_
          refine g_ireturn (gd rfl) rfl (nb01 (in_w 0 1 (in_c 0 rfl) rfl)) (hp68 _ _ ?_)
          show GG _ _ _ _ _ _ _ _ [.int (Int32.ofInt 0)] _ _ _
          refine g_if_eq 74 194 (gd rfl) rfl rfl (fun c71 => ?_) (fun c71 => ?_)
          · skip
            refine g_iinc 197 (gd rfl) rfl rfl (Nat.le_of_ble_eq_true rfl) (fun z194 e194 => ?_)
            have i194 := in_add 1 160 e194 i63 (in_c 1 rfl) rfl rfl
            refine g_goto 59 (gd rfl) rfl ?_
            have n59 : (w59_109_80).toInt ≤ (z194).toInt := by (first | have a0 := in_u ro_109_20 | (have a0 := ro_109_20; unfold In at a0)); (first | have a1 := in_u ro_109_19 | (have a1 := ro_109_19; unfold In at a1)); (first | have a2 := in_u ((inv_F hIc59 0 160 rfl v59_109_80)) | (have a2 := (inv_F hIc59 0 160 rfl v59_109_80); unfold In at a2)); (first | have a3 := in_u i63 | (have a3 := i63; unfold In at a3)); (first | have a4 := in_u i194 | (have a4 := i194; unfold In at a4)); have a5 := t_add e194 i63 (in_c 1 rfl) rfl; (first | have a6 := in_u ((in_c 1 rfl)) | (have a6 := (in_c 1 rfl); unfold In at a6)); (first | have a7 := in_u i68x9 | (have a7 := i68x9; unfold In at a7)); have a8 := t_add e68x9 ro_109_19 i63 rfl; have oc := oc_374_109; omega
            have n59a : RGI (ARE (gvZ s) 0) (ARE (gvZ s) 1) (s.2.2.1 109 20).toInt.toNat (z194).toNatClampNeg ((sc59).2.2.1 109 80).toInt ((sc59).1 170) ((sc59).1 171) := by rw [show (z194).toNatClampNeg = (y59_1).toNatClampNeg + 1 from (ixn e194 i63)]; exact rgi_n g59_0 (are_q (arz_n hI (show z68x10 = s.1 112 (bs s + (y59_1).toNatClampNeg) from (by rw [e68x10, hFc59.1 112 rfl]; exact congrArg (s.1 112) (show z68x9.toNatClampNeg = bs s + (y59_1).toNatClampNeg from (ixb e68x9 e_109_19 ro_109_19 i63)))) (by (first | have a0 := in_u ro_109_20 | (have a0 := ro_109_20; unfold In at a0)); (first | have a1 := in_u ro_109_19 | (have a1 := ro_109_19; unfold In at a1)); (first | have a2 := in_u ((inv_F hIc59 0 160 rfl v59_109_80)) | (have a2 := (inv_F hIc59 0 160 rfl v59_109_80); unfold In at a2)); (first | have a3 := in_u i63 | (have a3 := i63; unfold In at a3)); (first | have a4 := in_u i194 | (have a4 := i194; unfold In at a4)); have a5 := t_add e194 i63 (in_c 1 rfl) rfl; (first | have a6 := in_u ((in_c 1 rfl)) | (have a6 := (in_c 1 rfl); unfold In at a6)); (first | have a7 := in_u i68x9 | (have a7 := i68x9; unfold In at a7)); have a8 := t_add e68x9 ro_109_19 i63 rfl; have oc := oc_374_109; omega)) (show (y59_1).toNatClampNeg < 160 from (ixl i63)))
            have n59b : ∀ u : Nat, u < (s.2.2.1 109 20).toInt.toNat → ((sc59).1 169 u).toInt = (u : Int) := by exact g59_1
            exact gg_w (by first | exact Nat.le_add_right _ _ | exact gw2 | exact gw3 | exact gwe rfl | exact gwf rfl | exact gwg rfl | exact gwh rfl | omega) (gg_f (gf_cons rfl (gf_cons rfl gf_nil)) (ih59 sc59 z194 w59_109_80 hIc59 hFc59 (in_w 0 160 i194 rfl) v59_109_80 n59 n59a n59b (m_up mm59 (t_add e194 i63 (in_c 1 rfl) rfl) (in_w 1 1 (in_c 1 rfl) rfl))))
          · skip
            exact zn_ne c71 (in_c 0 rfl) rfl
        · skip
          have i68x11 := z_ne 1 1 c68x11 i68x10 rfl
          refine g_aload_n 15 (gd rfl) rfl rfl ?_
          refine g_getA (q2 := 113) 18 (gd rfl) rfl rfl rfl rfl ?_
          refine g_aload_n 19 (gd rfl) rfl rfl ?_
          refine g_getI 22 (gd rfl) rfl rfl rfl (fun z68x19 e68x19 => ?_)
          have q68x19 : u_109_19 = z68x19 := (fr_F e_109_19 hFc59 rfl).trans e68x19.symm
          subst q68x19
          refine g_iload_n 23 (gd rfl) rfl rfl ?_
          refine g_iadd 24 (gd rfl) rfl (fun z68x23 e68x23 => ?_)
          have i68x23 := in_add 0 319 e68x23 ro_109_19 i63 rfl rfl
          refine g_iaload 25 (gd rfl) rfl (n := 480) rfl (in_ix i68x23 rfl) (fun z68x24 e68x24 => ?_)
          have i68x24 := inv_I hIc59 (n := 480) (t := 0) 0 31 rfl (in_ix i68x23 rfl) rfl e68x24
          refine g_aload_n 26 (gd rfl) rfl rfl ?_
          refine g_getA (q2 := 114) 29 (gd rfl) rfl rfl rfl rfl ?_
          refine g_aload_n 30 (gd rfl) rfl rfl ?_
          refine g_getI 33 (gd rfl) rfl rfl rfl (fun z68x30 e68x30 => ?_)
          have q68x30 : u_109_19 = z68x30 := (fr_F e_109_19 hFc59 rfl).trans e68x30.symm
          subst q68x30
          refine g_iload_n 34 (gd rfl) rfl rfl ?_
          refine g_iadd 35 (gd rfl) rfl (fun z68x34 e68x34 => ?_)
          have i68x34 := in_add 0 319 e68x34 ro_109_19 i63 rfl rfl
          refine g_iaload 36 (gd rfl) rfl (n := 480) rfl (in_ix i68x34 rfl) (fun z68x35 e68x35 => ?_)
          have i68x35 := inv_I hIc59 (n := 480) (t := 0) 0 31 rfl (in_ix i68x34 rfl) rfl e68x35
          refine g_cmp_eq 39 43 (gd rfl) rfl rfl (fun c68x36 => ?_) (fun c68x36 => ?_)
          · skip
            refine g_iconst 0 44 (gd rfl) rfl rfl ?_
            refine g_ireturn (gd rfl) rfl (nb01 (in_w 0 1 (in_c 0 rfl) rfl)) (hp68 _ _ ?_)
            show GG _ _ _ _ _ _ _ _ [.int (Int32.ofInt 0)] _ _ _
            refine g_if_eq 74 194 (gd rfl) rfl rfl (fun c71 => ?_) (fun c71 => ?_)
            · skip
              refine g_iinc 197 (gd rfl) rfl rfl (Nat.le_of_ble_eq_true rfl) (fun z194 e194 => ?_)
              have i194 := in_add 1 160 e194 i63 (in_c 1 rfl) rfl rfl
              refine g_goto 59 (gd rfl) rfl ?_
              have n59 : (w59_109_80).toInt ≤ (z194).toInt := by (first | have a0 := in_u ro_109_20 | (have a0 := ro_109_20; unfold In at a0)); (first | have a1 := in_u ro_109_19 | (have a1 := ro_109_19; unfold In at a1)); (first | have a2 := in_u ((inv_F hIc59 0 160 rfl v59_109_80)) | (have a2 := (inv_F hIc59 0 160 rfl v59_109_80); unfold In at a2)); (first | have a3 := in_u i63 | (have a3 := i63; unfold In at a3)); (first | have a4 := in_u i194 | (have a4 := i194; unfold In at a4)); have a5 := t_add e194 i63 (in_c 1 rfl) rfl; (first | have a6 := in_u ((in_c 1 rfl)) | (have a6 := (in_c 1 rfl); unfold In at a6)); (first | have a7 := in_u i68x34 | (have a7 := i68x34; unfold In at a7)); have a8 := t_add e68x34 ro_109_19 i63 rfl; (first | have a9 := in_u i68x23 | (have a9 := i68x23; unfold In at a9)); have a10 := t_add e68x23 ro_109_19 i63 rfl; (first | have a11 := in_u i68x9 | (have a11 := i68x9; unfold In at a11)); have a12 := t_add e68x9 ro_109_19 i63 rfl; have oc := oc_374_109; omega
              have n59a : RGI (ARE (gvZ s) 0) (ARE (gvZ s) 1) (s.2.2.1 109 20).toInt.toNat (z194).toNatClampNeg ((sc59).2.2.1 109 80).toInt ((sc59).1 170) ((sc59).1 171) := by rw [show (z194).toNatClampNeg = (y59_1).toNatClampNeg + 1 from (ixn e194 i63)]; exact rgi_n g59_0 (((arz_y hI (show (y59_1).toNatClampNeg < 160 from (ixl i63)) (show z68x10 = s.1 112 (bs s + (y59_1).toNatClampNeg) from (by rw [e68x10, hFc59.1 112 rfl]; exact congrArg (s.1 112) (show z68x9.toNatClampNeg = bs s + (y59_1).toNatClampNeg from (ixb e68x9 e_109_19 ro_109_19 i63)))) (by (first | have a0 := in_u ro_109_20 | (have a0 := ro_109_20; unfold In at a0)); (first | have a1 := in_u ro_109_19 | (have a1 := ro_109_19; unfold In at a1)); (first | have a2 := in_u ((inv_F hIc59 0 160 rfl v59_109_80)) | (have a2 := (inv_F hIc59 0 160 rfl v59_109_80); unfold In at a2)); (first | have a3 := in_u i63 | (have a3 := i63; unfold In at a3)); (first | have a4 := in_u i194 | (have a4 := i194; unfold In at a4)); have a5 := t_add e194 i63 (in_c 1 rfl) rfl; (first | have a6 := in_u ((in_c 1 rfl)) | (have a6 := (in_c 1 rfl); unfold In at a6)); (first | have a7 := in_u i68x34 | (have a7 := i68x34; unfold In at a7)); have a8 := t_add e68x34 ro_109_19 i63 rfl; (first | have a9 := in_u i68x23 | (have a9 := i68x23; unfold In at a9)); have a10 := t_add e68x23 ro_109_19 i63 rfl; (first | have a11 := in_u i68x9 | (have a11 := i68x9; unfold In at a11)); have a12 := t_add e68x9 ro_109_19 i63 rfl; have oc := oc_374_109; omega)).1.trans (by rw [← (show z68x24 = s.1 113 (bs s + (y59_1).toNatClampNeg) from (by rw [e68x24, hFc59.1 113 rfl]; exact congrArg (s.1 113) (show z68x23.toNatClampNeg = bs s + (y59_1).toNatClampNeg from (ixb e68x23 e_109_19 ro_109_19 i63))))]; exact clx i68x24.1)).trans ((show (z68x24).toInt = (z68x35).toInt from c68x36).trans ((arz_y hI (show (y59_1).toNatClampNeg < 160 from (ixl i63)) (show z68x10 = s.1 112 (bs s + (y59_1).toNatClampNeg) from (by rw [e68x10, hFc59.1 112 rfl]; exact congrArg (s.1 112) (show z68x9.toNatClampNeg = bs s + (y59_1).toNatClampNeg from (ixb e68x9 e_109_19 ro_109_19 i63)))) (by (first | have a0 := in_u ro_109_20 | (have a0 := ro_109_20; unfold In at a0)); (first | have a1 := in_u ro_109_19 | (have a1 := ro_109_19; unfold In at a1)); (first | have a2 := in_u ((inv_F hIc59 0 160 rfl v59_109_80)) | (have a2 := (inv_F hIc59 0 160 rfl v59_109_80); unfold In at a2)); (first | have a3 := in_u i63 | (have a3 := i63; unfold In at a3)); (first | have a4 := in_u i194 | (have a4 := i194; unfold In at a4)); have a5 := t_add e194 i63 (in_c 1 rfl) rfl; (first | have a6 := in_u ((in_c 1 rfl)) | (have a6 := (in_c 1 rfl); unfold In at a6)); (first | have a7 := in_u i68x34 | (have a7 := i68x34; unfold In at a7)); have a8 := t_add e68x34 ro_109_19 i63 rfl; (first | have a9 := in_u i68x23 | (have a9 := i68x23; unfold In at a9)); have a10 := t_add e68x23 ro_109_19 i63 rfl; (first | have a11 := in_u i68x9 | (have a11 := i68x9; unfold In at a11)); have a12 := t_add e68x9 ro_109_19 i63 rfl; have oc := oc_374_109; omega)).2.trans (by rw [← (show z68x35 = s.1 114 (bs s + (y59_1).toNatClampNeg) from (by rw [e68x35, hFc59.1 114 rfl]; exact congrArg (s.1 114) (show z68x34.toNatClampNeg = bs s + (y59_1).toNatClampNeg from (ixb e68x34 e_109_19 ro_109_19 i63))))]; exact clx i68x35.1)).symm))
              have n59b : ∀ u : Nat, u < (s.2.2.1 109 20).toInt.toNat → ((sc59).1 169 u).toInt = (u : Int) := by exact g59_1
              exact gg_w (by first | exact Nat.le_add_right _ _ | exact gw2 | exact gw3 | exact gwe rfl | exact gwf rfl | exact gwg rfl | exact gwh rfl | omega) (gg_f (gf_cons rfl (gf_cons rfl gf_nil)) (ih59 sc59 z194 w59_109_80 hIc59 hFc59 (in_w 0 160 i194 rfl) v59_109_80 n59 n59a n59b (m_up mm59 (t_add e194 i63 (in_c 1 rfl) rfl) (in_w 1 1 (in_c 1 rfl) rfl))))
            · skip
              exact zn_ne c71 (in_c 0 rfl) rfl
          · skip
            refine g_iconst 1 40 (gd rfl) rfl rfl ?_
            refine g_goto 44 (gd rfl) rfl ?_
            refine g_ireturn (gd rfl) rfl (nb01 (in_w 0 1 (in_c 1 rfl) rfl)) (hp68 _ _ ?_)
            show GG _ _ _ _ _ _ _ _ [.int (Int32.ofInt 1)] _ _ _
            refine g_if_eq 74 194 (gd rfl) rfl rfl (fun c71 => ?_) (fun c71 => ?_)
            · skip
              exact zn_eq c71 (in_c 1 rfl) rfl
            · skip
              refine g_aload_n 75 (gd rfl) rfl rfl ?_
              refine g_dup 76 (gd rfl) rfl rfl ?_
              refine g_getI 79 (gd rfl) rfl rfl rfl (fun z76 e76 => ?_)
              have q76 : w59_109_80 = z76 := (v59_109_80).trans e76.symm
              subst q76
              refine g_iconst 1 80 (gd rfl) rfl rfl ?_
              refine g_iadd 81 (gd rfl) rfl (fun z80 e80 => ?_)
              have i80 := in_add 1 161 e80 (inv_F hIc59 0 160 rfl v59_109_80) (in_c 1 rfl) rfl rfl
              have i81 : In z80 0 160 := by (first | have a0 := in_u ro_109_20 | (have a0 := ro_109_20; unfold In at a0)); (first | have a1 := in_u ro_109_19 | (have a1 := ro_109_19; unfold In at a1)); (first | have a2 := in_u ((inv_F hIc59 0 160 rfl v59_109_80)) | (have a2 := (inv_F hIc59 0 160 rfl v59_109_80); unfold In at a2)); (first | have a3 := in_u i63 | (have a3 := i63; unfold In at a3)); (first | have a4 := in_u i80 | (have a4 := i80; unfold In at a4)); have a5 := t_add e80 (inv_F hIc59 0 160 rfl v59_109_80) (in_c 1 rfl) rfl; (first | have a6 := in_u ((in_c 1 rfl)) | (have a6 := (in_c 1 rfl); unfold In at a6)); (first | have a7 := in_u i68x34 | (have a7 := i68x34; unfold In at a7)); have a8 := t_add e68x34 ro_109_19 i63 rfl; (first | have a9 := in_u i68x23 | (have a9 := i68x23; unfold In at a9)); have a10 := t_add e68x23 ro_109_19 i63 rfl; (first | have a11 := in_u i68x9 | (have a11 := i68x9; unfold In at a11)); have a12 := t_add e68x9 ro_109_19 i63 rfl; have oc := oc_374_109; exact ⟨by omega, by omega⟩
              refine g_putI 84 (gd rfl) rfl rfl rfl rfl ?_
              have hI81 := inv_sF (q := 109) (j := 80) hIc59 rfl (in_w 0 160 i81 rfl)
              refine g_aload_n 85 (gd rfl) rfl rfl ?_
              refine g_getA (q2 := 170) 88 (gd rfl) rfl rfl rfl rfl ?_
              refine g_aload_n 89 (gd rfl) rfl rfl ?_
              refine g_getA (q2 := 113) 92 (gd rfl) rfl rfl rfl rfl ?_
              refine g_aload_n 93 (gd rfl) rfl rfl ?_
              refine g_getI 96 (gd rfl) rfl rfl rfl (fun z93 e93 => ?_)
              have q93 : u_109_19 = z93 := (sF_ne rfl (fr_F e_109_19 hFc59 rfl)).trans e93.symm
              subst q93
              refine g_iload_n 97 (gd rfl) rfl rfl ?_
              refine g_iadd 98 (gd rfl) rfl (fun z97 e97 => ?_)
              have i97 := in_add 0 319 e97 ro_109_19 i63 rfl rfl
              refine g_iaload 99 (gd rfl) rfl (n := 480) rfl (in_ix i97 rfl) (fun z98 e98 => ?_)
              have i98 := inv_I hI81 (n := 480) (t := 0) 0 31 rfl (in_ix i97 rfl) rfl e98
              refine g_dup2 100 (gd rfl) rfl rfl rfl ?_
              refine g_iaload 101 (gd rfl) rfl (n := 32) rfl (in_ix i98 rfl) (fun z100 e100 => ?_)
              refine g_iconst 1 102 (gd rfl) rfl rfl ?_
              refine g_iadd 103 (gd rfl) rfl (fun z102 e102 => ?_)
              refine g_iastore 104 (gd rfl) rfl (n := 32) rfl (in_ix i98 rfl) ?_
              have hI103 := inv_sI (q := 170) (j := z98.toNatClampNeg) hI81 rfl (in_w (-2147483648) 2147483647 (i_rng z102) rfl)
              refine g_aload_n 105 (gd rfl) rfl rfl ?_
              refine g_getA (q2 := 170) 108 (gd rfl) rfl rfl rfl rfl ?_
              refine g_aload_n 109 (gd rfl) rfl rfl ?_
              refine g_getA (q2 := 114) 112 (gd rfl) rfl rfl rfl rfl ?_
              refine g_aload_n 113 (gd rfl) rfl rfl ?_
              refine g_getI 116 (gd rfl) rfl rfl rfl (fun z113 e113 => ?_)
              have q113 : u_109_19 = z113 := (sI_F (sF_ne rfl (fr_F e_109_19 hFc59 rfl))).trans e113.symm
              subst q113
              refine g_iload_n 117 (gd rfl) rfl rfl ?_
              refine g_iadd 118 (gd rfl) rfl (fun z117 e117 => ?_)
              have i117 := in_add 0 319 e117 ro_109_19 i63 rfl rfl
              refine g_iaload 119 (gd rfl) rfl (n := 480) rfl (in_ix i117 rfl) (fun z118 e118 => ?_)
              have i118 := inv_I hI103 (n := 480) (t := 0) 0 31 rfl (in_ix i117 rfl) rfl e118
              refine g_dup2 120 (gd rfl) rfl rfl rfl ?_
              refine g_iaload 121 (gd rfl) rfl (n := 32) rfl (in_ix i118 rfl) (fun z120 e120 => ?_)
              refine g_iconst 1 122 (gd rfl) rfl rfl ?_
              refine g_iadd 123 (gd rfl) rfl (fun z122 e122 => ?_)
              refine g_iastore 124 (gd rfl) rfl (n := 32) rfl (in_ix i118 rfl) ?_
              have hI123 := inv_sI (q := 170) (j := z118.toNatClampNeg) hI103 rfl (in_w (-2147483648) 2147483647 (i_rng z122) rfl)
              refine g_aload_n 125 (gd rfl) rfl rfl ?_
              refine g_getA (q2 := 171) 128 (gd rfl) rfl rfl rfl rfl ?_
              refine g_bipush 32 130 (gd rfl) rfl rfl ?_
              refine g_aload_n 131 (gd rfl) rfl rfl ?_
              refine g_getA (q2 := 113) 134 (gd rfl) rfl rfl rfl rfl ?_
              refine g_aload_n 135 (gd rfl) rfl rfl ?_
              refine g_getI 138 (gd rfl) rfl rfl rfl (fun z135 e135 => ?_)
              have q135 : u_109_19 = z135 := (sI_F (sI_F (sF_ne rfl (fr_F e_109_19 hFc59 rfl)))).trans e135.symm
              subst q135
              refine g_iload_n 139 (gd rfl) rfl rfl ?_
              refine g_iadd 140 (gd rfl) rfl (fun z139 e139 => ?_)
              have i139 := in_add 0 319 e139 ro_109_19 i63 rfl rfl
              refine g_iaload 141 (gd rfl) rfl (n := 480) rfl (in_ix i139 rfl) (fun z140 e140 => ?_)
              have i140 := inv_I hI123 (n := 480) (t := 0) 0 31 rfl (in_ix i139 rfl) rfl e140
              refine g_imul 142 (gd rfl) rfl (fun z141 e141 => ?_)
              have i141 := in_mulc 32 0 992 (Or.inl e141) i140 rfl rfl
              refine g_aload_n 143 (gd rfl) rfl rfl ?_
              refine g_getA (q2 := 114) 146 (gd rfl) rfl rfl rfl rfl ?_
              refine g_aload_n 147 (gd rfl) rfl rfl ?_
              refine g_getI 150 (gd rfl) rfl rfl rfl (fun z147 e147 => ?_)
              have q147 : u_109_19 = z147 := (sI_F (sI_F (sF_ne rfl (fr_F e_109_19 hFc59 rfl)))).trans e147.symm
              subst q147
              refine g_iload_n 151 (gd rfl) rfl rfl ?_
              refine g_iadd 152 (gd rfl) rfl (fun z151 e151 => ?_)
              have i151 := in_add 0 319 e151 ro_109_19 i63 rfl rfl
              refine g_iaload 153 (gd rfl) rfl (n := 480) rfl (in_ix i151 rfl) (fun z152 e152 => ?_)
              have i152 := inv_I hI123 (n := 480) (t := 0) 0 31 rfl (in_ix i151 rfl) rfl e152
              refine g_iadd 154 (gd rfl) rfl (fun z153 e153 => ?_)
              have i153 := in_add 0 1023 e153 i141 i152 rfl rfl
              refine g_dup2 155 (gd rfl) rfl rfl rfl ?_
              refine g_iaload 156 (gd rfl) rfl (n := 1024) rfl (in_ix i153 rfl) (fun z155 e155 => ?_)
              refine g_iconst 1 157 (gd rfl) rfl rfl ?_
              refine g_iadd 158 (gd rfl) rfl (fun z157 e157 => ?_)
              refine g_iastore 159 (gd rfl) rfl (n := 1024) rfl (in_ix i153 rfl) ?_
              have hI158 := inv_sI (q := 171) (j := z153.toNatClampNeg) hI123 rfl (in_w (-2147483648) 2147483647 (i_rng z157) rfl)
              refine g_aload_n 160 (gd rfl) rfl rfl ?_
              refine g_getA (q2 := 171) 163 (gd rfl) rfl rfl rfl rfl ?_
              refine g_bipush 32 165 (gd rfl) rfl rfl ?_
              refine g_aload_n 166 (gd rfl) rfl rfl ?_
              refine g_getA (q2 := 114) 169 (gd rfl) rfl rfl rfl rfl ?_
              refine g_aload_n 170 (gd rfl) rfl rfl ?_
              refine g_getI 173 (gd rfl) rfl rfl rfl (fun z170 e170 => ?_)
              have q170 : u_109_19 = z170 := (sI_F (sI_F (sI_F (sF_ne rfl (fr_F e_109_19 hFc59 rfl))))).trans e170.symm
              subst q170
              refine g_iload_n 174 (gd rfl) rfl rfl ?_
              refine g_iadd 175 (gd rfl) rfl (fun z174 e174 => ?_)
              have i174 := in_add 0 319 e174 ro_109_19 i63 rfl rfl
              refine g_iaload 176 (gd rfl) rfl (n := 480) rfl (in_ix i174 rfl) (fun z175 e175 => ?_)
              have i175 := inv_I hI158 (n := 480) (t := 0) 0 31 rfl (in_ix i174 rfl) rfl e175
              refine g_imul 177 (gd rfl) rfl (fun z176 e176 => ?_)
              have i176 := in_mulc 32 0 992 (Or.inl e176) i175 rfl rfl
              refine g_aload_n 178 (gd rfl) rfl rfl ?_
              refine g_getA (q2 := 113) 181 (gd rfl) rfl rfl rfl rfl ?_
              refine g_aload_n 182 (gd rfl) rfl rfl ?_
              refine g_getI 185 (gd rfl) rfl rfl rfl (fun z182 e182 => ?_)
              have q182 : u_109_19 = z182 := (sI_F (sI_F (sI_F (sF_ne rfl (fr_F e_109_19 hFc59 rfl))))).trans e182.symm
              subst q182
              refine g_iload_n 186 (gd rfl) rfl rfl ?_
              refine g_iadd 187 (gd rfl) rfl (fun z186 e186 => ?_)
              have i186 := in_add 0 319 e186 ro_109_19 i63 rfl rfl
              refine g_iaload 188 (gd rfl) rfl (n := 480) rfl (in_ix i186 rfl) (fun z187 e187 => ?_)
              have i187 := inv_I hI158 (n := 480) (t := 0) 0 31 rfl (in_ix i186 rfl) rfl e187
              refine g_iadd 189 (gd rfl) rfl (fun z188 e188 => ?_)
              have i188 := in_add 0 1023 e188 i176 i187 rfl rfl
              refine g_dup2 190 (gd rfl) rfl rfl rfl ?_
              refine g_iaload 191 (gd rfl) rfl (n := 1024) rfl (in_ix i188 rfl) (fun z190 e190 => ?_)
              refine g_iconst 1 192 (gd rfl) rfl rfl ?_
              refine g_iadd 193 (gd rfl) rfl (fun z192 e192 => ?_)
              refine g_iastore 194 (gd rfl) rfl (n := 1024) rfl (in_ix i188 rfl) ?_
              have hI193 := inv_sI (q := 171) (j := z188.toNatClampNeg) hI158 rfl (in_w (-2147483648) 2147483647 (i_rng z192) rfl)
              refine g_iinc 197 (gd rfl) rfl rfl (Nat.le_of_ble_eq_true rfl) (fun z194 e194 => ?_)
              have i194 := in_add 1 160 e194 i63 (in_c 1 rfl) rfl rfl
              refine g_goto 59 (gd rfl) rfl ?_
              have v59 : z80 = (sI (sI (sI (sI (sF sc59 109 80 z80) 170 z98.toNatClampNeg z102) 170 z118.toNatClampNeg z122) 171 z153.toNatClampNeg z157) 171 z188.toNatClampNeg z192).2.2.1 109 80 := sI_F (sI_F (sI_F (sI_F (sF_get))))
              have n59 : (z80).toInt ≤ (z194).toInt := by (first | have a0 := in_u ro_109_20 | (have a0 := ro_109_20; unfold In at a0)); (first | have a1 := in_u ro_109_19 | (have a1 := ro_109_19; unfold In at a1)); (first | have a2 := in_u ((inv_F hIc59 0 160 rfl v59_109_80)) | (have a2 := (inv_F hIc59 0 160 rfl v59_109_80); unfold In at a2)); (first | have a3 := in_u i63 | (have a3 := i63; unfold In at a3)); (first | have a4 := in_u i194 | (have a4 := i194; unfold In at a4)); have a5 := t_add e194 i63 (in_c 1 rfl) rfl; (first | have a6 := in_u ((in_c 1 rfl)) | (have a6 := (in_c 1 rfl); unfold In at a6)); (first | have a7 := in_u i81 | (have a7 := i81; unfold In at a7)); have a8 := t_add e80 (inv_F hIc59 0 160 rfl v59_109_80) (in_c 1 rfl) rfl; (first | have a9 := in_u i188 | (have a9 := i188; unfold In at a9)); have a10 := t_add e188 i176 i187 rfl; (first | have a11 := in_u i187 | (have a11 := i187; unfold In at a11)); (first | have a12 := in_u i176 | (have a12 := i176; unfold In at a12)); have a13 := (t_mulc 32 (Or.inl e176) i175 rfl).1; (first | have a14 := in_u i175 | (have a14 := i175; unfold In at a14)); (first | have a15 := in_u i186 | (have a15 := i186; unfold In at a15)); have a16 := t_add e186 ro_109_19 i63 rfl; (first | have a17 := in_u i174 | (have a17 := i174; unfold In at a17)); have a18 := t_add e174 ro_109_19 i63 rfl; (first | have a19 := in_u i153 | (have a19 := i153; unfold In at a19)); have a20 := t_add e153 i141 i152 rfl; (first | have a21 := in_u i152 | (have a21 := i152; unfold In at a21)); (first | have a22 := in_u i141 | (have a22 := i141; unfold In at a22)); have a23 := (t_mulc 32 (Or.inl e141) i140 rfl).1; (first | have a24 := in_u i140 | (have a24 := i140; unfold In at a24)); (first | have a25 := in_u i151 | (have a25 := i151; unfold In at a25)); have a26 := t_add e151 ro_109_19 i63 rfl; (first | have a27 := in_u i139 | (have a27 := i139; unfold In at a27)); have a28 := t_add e139 ro_109_19 i63 rfl; (first | have a29 := in_u i117 | (have a29 := i117; unfold In at a29)); have a30 := t_add e117 ro_109_19 i63 rfl; (first | have a31 := in_u i97 | (have a31 := i97; unfold In at a31)); have a32 := t_add e97 ro_109_19 i63 rfl; (first | have a33 := in_u i68x34 | (have a33 := i68x34; unfold In at a33)); have a34 := t_add e68x34 ro_109_19 i63 rfl; (first | have a35 := in_u i68x23 | (have a35 := i68x23; unfold In at a35)); have a36 := t_add e68x23 ro_109_19 i63 rfl; (first | have a37 := in_u i68x9 | (have a37 := i68x9; unfold In at a37)); have a38 := t_add e68x9 ro_109_19 i63 rfl; have oc := oc_374_109; omega
              have n59a : RGI (ARE (gvZ s) 0) (ARE (gvZ s) 1) (s.2.2.1 109 20).toInt.toNat (z194).toNatClampNeg (((sI (sI (sI (sI (sF sc59 109 80 z80) 170 z98.toNatClampNeg z102) 170 z118.toNatClampNeg z122) 171 z153.toNatClampNeg z157) 171 z188.toNatClampNeg z192)).2.2.1 109 80).toInt (((sI (sI (sI (sI (sF sc59 109 80 z80) 170 z98.toNatClampNeg z102) 170 z118.toNatClampNeg z122) 171 z153.toNatClampNeg z157) 171 z188.toNatClampNeg z192)).1 170) (((sI (sI (sI (sI (sF sc59 109 80 z80) 170 z98.toNatClampNeg z102) 170 z118.toNatClampNeg z122) 171 z153.toNatClampNeg z157) 171 z188.toNatClampNeg z192)).1 171) := by rw [show (z194).toNatClampNeg = (y59_1).toNatClampNeg + 1 from (ixn e194 i63)]; have r98 := (show z98 = s.1 113 (bs s + (y59_1).toNatClampNeg) from (by rw [e98, show (sF sc59 109 80 z80).1 113 = sc59.1 113 from rfl, hFc59.1 113 rfl]; exact congrArg (s.1 113) (show z97.toNatClampNeg = bs s + (y59_1).toNatClampNeg from (ixb e97 e_109_19 ro_109_19 i63)))); have r118 := (show z118 = s.1 114 (bs s + (y59_1).toNatClampNeg) from (by rw [e118, sI_p rfl, show (sF sc59 109 80 z80).1 114 = sc59.1 114 from rfl, hFc59.1 114 rfl]; exact congrArg (s.1 114) (show z117.toNatClampNeg = bs s + (y59_1).toNatClampNeg from (ixb e117 e_109_19 ro_109_19 i63)))); have q140 : z140 = z98 := (show z140 = s.1 113 (bs s + (y59_1).toNatClampNeg) from (by rw [e140, sI_p rfl, sI_p rfl, show (sF sc59 109 80 z80).1 113 = sc59.1 113 from rfl, hFc59.1 113 rfl]; exact congrArg (s.1 113) (show z139.toNatClampNeg = bs s + (y59_1).toNatClampNeg from (ixb e139 e_109_19 ro_109_19 i63)))).trans r98.symm; have q152 : z152 = z118 := (show z152 = s.1 114 (bs s + (y59_1).toNatClampNeg) from (by rw [e152, sI_p rfl, sI_p rfl, show (sF sc59 109 80 z80).1 114 = sc59.1 114 from rfl, hFc59.1 114 rfl]; exact congrArg (s.1 114) (show z151.toNatClampNeg = bs s + (y59_1).toNatClampNeg from (ixb e151 e_109_19 ro_109_19 i63)))).trans r118.symm; have q175 : z175 = z118 := (show z175 = s.1 114 (bs s + (y59_1).toNatClampNeg) from (by rw [e175, sI_p rfl, sI_p rfl, sI_p rfl, show (sF sc59 109 80 z80).1 114 = sc59.1 114 from rfl, hFc59.1 114 rfl]; exact congrArg (s.1 114) (show z174.toNatClampNeg = bs s + (y59_1).toNatClampNeg from (ixb e174 e_109_19 ro_109_19 i63)))).trans r118.symm; have q187 : z187 = z98 := (show z187 = s.1 113 (bs s + (y59_1).toNatClampNeg) from (by rw [e187, sI_p rfl, sI_p rfl, sI_p rfl, show (sF sc59 109 80 z80).1 113 = sc59.1 113 from rfl, hFc59.1 113 rfl]; exact congrArg (s.1 113) (show z186.toNatClampNeg = bs s + (y59_1).toNatClampNeg from (ixb e186 e_109_19 ro_109_19 i63)))).trans r98.symm; rw [show (sI (sI (sI (sI (sF sc59 109 80 z80) 170 z98.toNatClampNeg z102) 170 z118.toNatClampNeg z122) 171 z153.toNatClampNeg z157) 171 z188.toNatClampNeg z192).1 170 = upd (upd (sc59.1 170) z98.toNatClampNeg z102) z118.toNatClampNeg z122 from (by simp [sI, sF]), show (sI (sI (sI (sI (sF sc59 109 80 z80) 170 z98.toNatClampNeg z102) 170 z118.toNatClampNeg z122) 171 z153.toNatClampNeg z157) 171 z188.toNatClampNeg z192).1 171 = upd (upd (sc59.1 171) z153.toNatClampNeg z157) z188.toNatClampNeg z192 from (by simp [sI, sF]), show (sI (sI (sI (sI (sF sc59 109 80 z80) 170 z98.toNatClampNeg z102) 170 z118.toNatClampNeg z122) 171 z153.toNatClampNeg z157) 171 z188.toNatClampNeg z192).2.2.1 109 80 = z80 from (by simp [sI, sF])]; have h9 := g59_0; rw [← v59_109_80] at h9; exact rgi_s (j := w59_109_80) h9 (show (s.2.2.1 109 20).toInt.toNat ≤ 32 from (by have i9 := inv_F hI (z := s.2.2.1 109 20) 0 32 rfl rfl; have h9 := i9.2; omega)) (show (y59_1).toNatClampNeg < 160 from (ixl i63)) ((arz_y hI (show (y59_1).toNatClampNeg < 160 from (ixl i63)) (show z68x10 = s.1 112 (bs s + (y59_1).toNatClampNeg) from (by rw [e68x10, hFc59.1 112 rfl]; exact congrArg (s.1 112) (show z68x9.toNatClampNeg = bs s + (y59_1).toNatClampNeg from (ixb e68x9 e_109_19 ro_109_19 i63)))) (by (first | have a0 := in_u ro_109_20 | (have a0 := ro_109_20; unfold In at a0)); (first | have a1 := in_u ro_109_19 | (have a1 := ro_109_19; unfold In at a1)); (first | have a2 := in_u ((inv_F hIc59 0 160 rfl v59_109_80)) | (have a2 := (inv_F hIc59 0 160 rfl v59_109_80); unfold In at a2)); (first | have a3 := in_u i63 | (have a3 := i63; unfold In at a3)); (first | have a4 := in_u i194 | (have a4 := i194; unfold In at a4)); have a5 := t_add e194 i63 (in_c 1 rfl) rfl; (first | have a6 := in_u ((in_c 1 rfl)) | (have a6 := (in_c 1 rfl); unfold In at a6)); (first | have a7 := in_u i81 | (have a7 := i81; unfold In at a7)); have a8 := t_add e80 (inv_F hIc59 0 160 rfl v59_109_80) (in_c 1 rfl) rfl; (first | have a9 := in_u i188 | (have a9 := i188; unfold In at a9)); have a10 := t_add e188 i176 i187 rfl; (first | have a11 := in_u i187 | (have a11 := i187; unfold In at a11)); (first | have a12 := in_u i176 | (have a12 := i176; unfold In at a12)); have a13 := (t_mulc 32 (Or.inl e176) i175 rfl).1; (first | have a14 := in_u i175 | (have a14 := i175; unfold In at a14)); (first | have a15 := in_u i186 | (have a15 := i186; unfold In at a15)); have a16 := t_add e186 ro_109_19 i63 rfl; (first | have a17 := in_u i174 | (have a17 := i174; unfold In at a17)); have a18 := t_add e174 ro_109_19 i63 rfl; (first | have a19 := in_u i153 | (have a19 := i153; unfold In at a19)); have a20 := t_add e153 i141 i152 rfl; (first | have a21 := in_u i152 | (have a21 := i152; unfold In at a21)); (first | have a22 := in_u i141 | (have a22 := i141; unfold In at a22)); have a23 := (t_mulc 32 (Or.inl e141) i140 rfl).1; (first | have a24 := in_u i140 | (have a24 := i140; unfold In at a24)); (first | have a25 := in_u i151 | (have a25 := i151; unfold In at a25)); have a26 := t_add e151 ro_109_19 i63 rfl; (first | have a27 := in_u i139 | (have a27 := i139; unfold In at a27)); have a28 := t_add e139 ro_109_19 i63 rfl; (first | have a29 := in_u i117 | (have a29 := i117; unfold In at a29)); have a30 := t_add e117 ro_109_19 i63 rfl; (first | have a31 := in_u i97 | (have a31 := i97; unfold In at a31)); have a32 := t_add e97 ro_109_19 i63 rfl; (first | have a33 := in_u i68x34 | (have a33 := i68x34; unfold In at a33)); have a34 := t_add e68x34 ro_109_19 i63 rfl; (first | have a35 := in_u i68x23 | (have a35 := i68x23; unfold In at a35)); have a36 := t_add e68x23 ro_109_19 i63 rfl; (first | have a37 := in_u i68x9 | (have a37 := i68x9; unfold In at a37)); have a38 := t_add e68x9 ro_109_19 i63 rfl; have oc := oc_374_109; omega)).1.trans (by rw [← r98]; exact clx i98.1)) ((arz_y hI (show (y59_1).toNatClampNeg < 160 from (ixl i63)) (show z68x10 = s.1 112 (bs s + (y59_1).toNatClampNeg) from (by rw [e68x10, hFc59.1 112 rfl]; exact congrArg (s.1 112) (show z68x9.toNatClampNeg = bs s + (y59_1).toNatClampNeg from (ixb e68x9 e_109_19 ro_109_19 i63)))) (by (first | have a0 := in_u ro_109_20 | (have a0 := ro_109_20; unfold In at a0)); (first | have a1 := in_u ro_109_19 | (have a1 := ro_109_19; unfold In at a1)); (first | have a2 := in_u ((inv_F hIc59 0 160 rfl v59_109_80)) | (have a2 := (inv_F hIc59 0 160 rfl v59_109_80); unfold In at a2)); (first | have a3 := in_u i63 | (have a3 := i63; unfold In at a3)); (first | have a4 := in_u i194 | (have a4 := i194; unfold In at a4)); have a5 := t_add e194 i63 (in_c 1 rfl) rfl; (first | have a6 := in_u ((in_c 1 rfl)) | (have a6 := (in_c 1 rfl); unfold In at a6)); (first | have a7 := in_u i81 | (have a7 := i81; unfold In at a7)); have a8 := t_add e80 (inv_F hIc59 0 160 rfl v59_109_80) (in_c 1 rfl) rfl; (first | have a9 := in_u i188 | (have a9 := i188; unfold In at a9)); have a10 := t_add e188 i176 i187 rfl; (first | have a11 := in_u i187 | (have a11 := i187; unfold In at a11)); (first | have a12 := in_u i176 | (have a12 := i176; unfold In at a12)); have a13 := (t_mulc 32 (Or.inl e176) i175 rfl).1; (first | have a14 := in_u i175 | (have a14 := i175; unfold In at a14)); (first | have a15 := in_u i186 | (have a15 := i186; unfold In at a15)); have a16 := t_add e186 ro_109_19 i63 rfl; (first | have a17 := in_u i174 | (have a17 := i174; unfold In at a17)); have a18 := t_add e174 ro_109_19 i63 rfl; (first | have a19 := in_u i153 | (have a19 := i153; unfold In at a19)); have a20 := t_add e153 i141 i152 rfl; (first | have a21 := in_u i152 | (have a21 := i152; unfold In at a21)); (first | have a22 := in_u i141 | (have a22 := i141; unfold In at a22)); have a23 := (t_mulc 32 (Or.inl e141) i140 rfl).1; (first | have a24 := in_u i140 | (have a24 := i140; unfold In at a24)); (first | have a25 := in_u i151 | (have a25 := i151; unfold In at a25)); have a26 := t_add e151 ro_109_19 i63 rfl; (first | have a27 := in_u i139 | (have a27 := i139; unfold In at a27)); have a28 := t_add e139 ro_109_19 i63 rfl; (first | have a29 := in_u i117 | (have a29 := i117; unfold In at a29)); have a30 := t_add e117 ro_109_19 i63 rfl; (first | have a31 := in_u i97 | (have a31 := i97; unfold In at a31)); have a32 := t_add e97 ro_109_19 i63 rfl; (first | have a33 := in_u i68x34 | (have a33 := i68x34; unfold In at a33)); have a34 := t_add e68x34 ro_109_19 i63 rfl; (first | have a35 := in_u i68x23 | (have a35 := i68x23; unfold In at a35)); have a36 := t_add e68x23 ro_109_19 i63 rfl; (first | have a37 := in_u i68x9 | (have a37 := i68x9; unfold In at a37)); have a38 := t_add e68x9 ro_109_19 i63 rfl; have oc := oc_374_109; omega)).2.trans (by rw [← r118]; exact clx i118.1)) i98 i118 (arn1 hI (show (y59_1).toNatClampNeg < 160 from (ixl i63)) (by rw [← (show z68x10 = s.1 112 (bs s + (y59_1).toNatClampNeg) from (by rw [e68x10, hFc59.1 112 rfl]; exact congrArg (s.1 112) (show z68x9.toNatClampNeg = bs s + (y59_1).toNatClampNeg from (ixb e68x9 e_109_19 ro_109_19 i63))))]; (first | have a0 := in_u ro_109_20 | (have a0 := ro_109_20; unfold In at a0)); (first | have a1 := in_u ro_109_19 | (have a1 := ro_109_19; unfold In at a1)); (first | have a2 := in_u ((inv_F hIc59 0 160 rfl v59_109_80)) | (have a2 := (inv_F hIc59 0 160 rfl v59_109_80); unfold In at a2)); (first | have a3 := in_u i63 | (have a3 := i63; unfold In at a3)); (first | have a4 := in_u i194 | (have a4 := i194; unfold In at a4)); have a5 := t_add e194 i63 (in_c 1 rfl) rfl; (first | have a6 := in_u ((in_c 1 rfl)) | (have a6 := (in_c 1 rfl); unfold In at a6)); (first | have a7 := in_u i81 | (have a7 := i81; unfold In at a7)); have a8 := t_add e80 (inv_F hIc59 0 160 rfl v59_109_80) (in_c 1 rfl) rfl; (first | have a9 := in_u i188 | (have a9 := i188; unfold In at a9)); have a10 := t_add e188 i176 i187 rfl; (first | have a11 := in_u i187 | (have a11 := i187; unfold In at a11)); (first | have a12 := in_u i176 | (have a12 := i176; unfold In at a12)); have a13 := (t_mulc 32 (Or.inl e176) i175 rfl).1; (first | have a14 := in_u i175 | (have a14 := i175; unfold In at a14)); (first | have a15 := in_u i186 | (have a15 := i186; unfold In at a15)); have a16 := t_add e186 ro_109_19 i63 rfl; (first | have a17 := in_u i174 | (have a17 := i174; unfold In at a17)); have a18 := t_add e174 ro_109_19 i63 rfl; (first | have a19 := in_u i153 | (have a19 := i153; unfold In at a19)); have a20 := t_add e153 i141 i152 rfl; (first | have a21 := in_u i152 | (have a21 := i152; unfold In at a21)); (first | have a22 := in_u i141 | (have a22 := i141; unfold In at a22)); have a23 := (t_mulc 32 (Or.inl e141) i140 rfl).1; (first | have a24 := in_u i140 | (have a24 := i140; unfold In at a24)); (first | have a25 := in_u i151 | (have a25 := i151; unfold In at a25)); have a26 := t_add e151 ro_109_19 i63 rfl; (first | have a27 := in_u i139 | (have a27 := i139; unfold In at a27)); have a28 := t_add e139 ro_109_19 i63 rfl; (first | have a29 := in_u i117 | (have a29 := i117; unfold In at a29)); have a30 := t_add e117 ro_109_19 i63 rfl; (first | have a31 := in_u i97 | (have a31 := i97; unfold In at a31)); have a32 := t_add e97 ro_109_19 i63 rfl; (first | have a33 := in_u i68x34 | (have a33 := i68x34; unfold In at a33)); have a34 := t_add e68x34 ro_109_19 i63 rfl; (first | have a35 := in_u i68x23 | (have a35 := i68x23; unfold In at a35)); have a36 := t_add e68x23 ro_109_19 i63 rfl; (first | have a37 := in_u i68x9 | (have a37 := i68x9; unfold In at a37)); have a38 := t_add e68x9 ro_109_19 i63 rfl; have oc := oc_374_109; omega) r98) (arn2 hI (show (y59_1).toNatClampNeg < 160 from (ixl i63)) (by rw [← (show z68x10 = s.1 112 (bs s + (y59_1).toNatClampNeg) from (by rw [e68x10, hFc59.1 112 rfl]; exact congrArg (s.1 112) (show z68x9.toNatClampNeg = bs s + (y59_1).toNatClampNeg from (ixb e68x9 e_109_19 ro_109_19 i63))))]; (first | have a0 := in_u ro_109_20 | (have a0 := ro_109_20; unfold In at a0)); (first | have a1 := in_u ro_109_19 | (have a1 := ro_109_19; unfold In at a1)); (first | have a2 := in_u ((inv_F hIc59 0 160 rfl v59_109_80)) | (have a2 := (inv_F hIc59 0 160 rfl v59_109_80); unfold In at a2)); (first | have a3 := in_u i63 | (have a3 := i63; unfold In at a3)); (first | have a4 := in_u i194 | (have a4 := i194; unfold In at a4)); have a5 := t_add e194 i63 (in_c 1 rfl) rfl; (first | have a6 := in_u ((in_c 1 rfl)) | (have a6 := (in_c 1 rfl); unfold In at a6)); (first | have a7 := in_u i81 | (have a7 := i81; unfold In at a7)); have a8 := t_add e80 (inv_F hIc59 0 160 rfl v59_109_80) (in_c 1 rfl) rfl; (first | have a9 := in_u i188 | (have a9 := i188; unfold In at a9)); have a10 := t_add e188 i176 i187 rfl; (first | have a11 := in_u i187 | (have a11 := i187; unfold In at a11)); (first | have a12 := in_u i176 | (have a12 := i176; unfold In at a12)); have a13 := (t_mulc 32 (Or.inl e176) i175 rfl).1; (first | have a14 := in_u i175 | (have a14 := i175; unfold In at a14)); (first | have a15 := in_u i186 | (have a15 := i186; unfold In at a15)); have a16 := t_add e186 ro_109_19 i63 rfl; (first | have a17 := in_u i174 | (have a17 := i174; unfold In at a17)); have a18 := t_add e174 ro_109_19 i63 rfl; (first | have a19 := in_u i153 | (have a19 := i153; unfold In at a19)); have a20 := t_add e153 i141 i152 rfl; (first | have a21 := in_u i152 | (have a21 := i152; unfold In at a21)); (first | have a22 := in_u i141 | (have a22 := i141; unfold In at a22)); have a23 := (t_mulc 32 (Or.inl e141) i140 rfl).1; (first | have a24 := in_u i140 | (have a24 := i140; unfold In at a24)); (first | have a25 := in_u i151 | (have a25 := i151; unfold In at a25)); have a26 := t_add e151 ro_109_19 i63 rfl; (first | have a27 := in_u i139 | (have a27 := i139; unfold In at a27)); have a28 := t_add e139 ro_109_19 i63 rfl; (first | have a29 := in_u i117 | (have a29 := i117; unfold In at a29)); have a30 := t_add e117 ro_109_19 i63 rfl; (first | have a31 := in_u i97 | (have a31 := i97; unfold In at a31)); have a32 := t_add e97 ro_109_19 i63 rfl; (first | have a33 := in_u i68x34 | (have a33 := i68x34; unfold In at a33)); have a34 := t_add e68x34 ro_109_19 i63 rfl; (first | have a35 := in_u i68x23 | (have a35 := i68x23; unfold In at a35)); have a36 := t_add e68x23 ro_109_19 i63 rfl; (first | have a37 := in_u i68x9 | (have a37 := i68x9; unfold In at a37)); have a38 := t_add e68x9 ro_109_19 i63 rfl; have oc := oc_374_109; omega) r118) (by rw [show z98 = z68x24 from r98.trans (show z68x24 = s.1 113 (bs s + (y59_1).toNatClampNeg) from (by rw [e68x24, hFc59.1 113 rfl]; exact congrArg (s.1 113) (show z68x23.toNatClampNeg = bs s + (y59_1).toNatClampNeg from (ixb e68x23 e_109_19 ro_109_19 i63)))).symm, show z118 = z68x35 from r118.trans (show z68x35 = s.1 114 (bs s + (y59_1).toNatClampNeg) from (by rw [e68x35, hFc59.1 114 rfl]; exact congrArg (s.1 114) (show z68x34.toNatClampNeg = bs s + (y59_1).toNatClampNeg from (ixb e68x34 e_109_19 ro_109_19 i63)))).symm]; exact c68x36) e80 e100 e102 (by rw [e120, sI_q]; rfl) e122 (show z153.toInt.toNat = 32 * z98.toInt.toNat + z118.toInt.toNat from (by rw [← q140, ← q152]; (first | have a0 := in_u ro_109_20 | (have a0 := ro_109_20; unfold In at a0)); (first | have a1 := in_u ro_109_19 | (have a1 := ro_109_19; unfold In at a1)); (first | have a2 := in_u ((inv_F hIc59 0 160 rfl v59_109_80)) | (have a2 := (inv_F hIc59 0 160 rfl v59_109_80); unfold In at a2)); (first | have a3 := in_u i63 | (have a3 := i63; unfold In at a3)); (first | have a4 := in_u i194 | (have a4 := i194; unfold In at a4)); have a5 := t_add e194 i63 (in_c 1 rfl) rfl; (first | have a6 := in_u ((in_c 1 rfl)) | (have a6 := (in_c 1 rfl); unfold In at a6)); (first | have a7 := in_u i81 | (have a7 := i81; unfold In at a7)); have a8 := t_add e80 (inv_F hIc59 0 160 rfl v59_109_80) (in_c 1 rfl) rfl; (first | have a9 := in_u i188 | (have a9 := i188; unfold In at a9)); have a10 := t_add e188 i176 i187 rfl; (first | have a11 := in_u i187 | (have a11 := i187; unfold In at a11)); (first | have a12 := in_u i176 | (have a12 := i176; unfold In at a12)); have a13 := (t_mulc 32 (Or.inl e176) i175 rfl).1; (first | have a14 := in_u i175 | (have a14 := i175; unfold In at a14)); (first | have a15 := in_u i186 | (have a15 := i186; unfold In at a15)); have a16 := t_add e186 ro_109_19 i63 rfl; (first | have a17 := in_u i174 | (have a17 := i174; unfold In at a17)); have a18 := t_add e174 ro_109_19 i63 rfl; (first | have a19 := in_u i153 | (have a19 := i153; unfold In at a19)); have a20 := t_add e153 i141 i152 rfl; (first | have a21 := in_u i152 | (have a21 := i152; unfold In at a21)); (first | have a22 := in_u i141 | (have a22 := i141; unfold In at a22)); have a23 := (t_mulc 32 (Or.inl e141) i140 rfl).1; (first | have a24 := in_u i140 | (have a24 := i140; unfold In at a24)); (first | have a25 := in_u i151 | (have a25 := i151; unfold In at a25)); have a26 := t_add e151 ro_109_19 i63 rfl; (first | have a27 := in_u i139 | (have a27 := i139; unfold In at a27)); have a28 := t_add e139 ro_109_19 i63 rfl; (first | have a29 := in_u i117 | (have a29 := i117; unfold In at a29)); have a30 := t_add e117 ro_109_19 i63 rfl; (first | have a31 := in_u i97 | (have a31 := i97; unfold In at a31)); have a32 := t_add e97 ro_109_19 i63 rfl; (first | have a33 := in_u i68x34 | (have a33 := i68x34; unfold In at a33)); have a34 := t_add e68x34 ro_109_19 i63 rfl; (first | have a35 := in_u i68x23 | (have a35 := i68x23; unfold In at a35)); have a36 := t_add e68x23 ro_109_19 i63 rfl; (first | have a37 := in_u i68x9 | (have a37 := i68x9; unfold In at a37)); have a38 := t_add e68x9 ro_109_19 i63 rfl; have oc := oc_374_109; omega)) (show z188.toInt.toNat = 32 * z118.toInt.toNat + z98.toInt.toNat from (by rw [← q175, ← q187]; (first | have a0 := in_u ro_109_20 | (have a0 := ro_109_20; unfold In at a0)); (first | have a1 := in_u ro_109_19 | (have a1 := ro_109_19; unfold In at a1)); (first | have a2 := in_u ((inv_F hIc59 0 160 rfl v59_109_80)) | (have a2 := (inv_F hIc59 0 160 rfl v59_109_80); unfold In at a2)); (first | have a3 := in_u i63 | (have a3 := i63; unfold In at a3)); (first | have a4 := in_u i194 | (have a4 := i194; unfold In at a4)); have a5 := t_add e194 i63 (in_c 1 rfl) rfl; (first | have a6 := in_u ((in_c 1 rfl)) | (have a6 := (in_c 1 rfl); unfold In at a6)); (first | have a7 := in_u i81 | (have a7 := i81; unfold In at a7)); have a8 := t_add e80 (inv_F hIc59 0 160 rfl v59_109_80) (in_c 1 rfl) rfl; (first | have a9 := in_u i188 | (have a9 := i188; unfold In at a9)); have a10 := t_add e188 i176 i187 rfl; (first | have a11 := in_u i187 | (have a11 := i187; unfold In at a11)); (first | have a12 := in_u i176 | (have a12 := i176; unfold In at a12)); have a13 := (t_mulc 32 (Or.inl e176) i175 rfl).1; (first | have a14 := in_u i175 | (have a14 := i175; unfold In at a14)); (first | have a15 := in_u i186 | (have a15 := i186; unfold In at a15)); have a16 := t_add e186 ro_109_19 i63 rfl; (first | have a17 := in_u i174 | (have a17 := i174; unfold In at a17)); have a18 := t_add e174 ro_109_19 i63 rfl; (first | have a19 := in_u i153 | (have a19 := i153; unfold In at a19)); have a20 := t_add e153 i141 i152 rfl; (first | have a21 := in_u i152 | (have a21 := i152; unfold In at a21)); (first | have a22 := in_u i141 | (have a22 := i141; unfold In at a22)); have a23 := (t_mulc 32 (Or.inl e141) i140 rfl).1; (first | have a24 := in_u i140 | (have a24 := i140; unfold In at a24)); (first | have a25 := in_u i151 | (have a25 := i151; unfold In at a25)); have a26 := t_add e151 ro_109_19 i63 rfl; (first | have a27 := in_u i139 | (have a27 := i139; unfold In at a27)); have a28 := t_add e139 ro_109_19 i63 rfl; (first | have a29 := in_u i117 | (have a29 := i117; unfold In at a29)); have a30 := t_add e117 ro_109_19 i63 rfl; (first | have a31 := in_u i97 | (have a31 := i97; unfold In at a31)); have a32 := t_add e97 ro_109_19 i63 rfl; (first | have a33 := in_u i68x34 | (have a33 := i68x34; unfold In at a33)); have a34 := t_add e68x34 ro_109_19 i63 rfl; (first | have a35 := in_u i68x23 | (have a35 := i68x23; unfold In at a35)); have a36 := t_add e68x23 ro_109_19 i63 rfl; (first | have a37 := in_u i68x9 | (have a37 := i68x9; unfold In at a37)); have a38 := t_add e68x9 ro_109_19 i63 rfl; have oc := oc_374_109; omega)) (e155.trans (by simp [sI, sF])) e157 (by rw [e190, sI_q]; simp [sI, sF]) e192
              have n59b : ∀ u : Nat, u < (s.2.2.1 109 20).toInt.toNat → (((sI (sI (sI (sI (sF sc59 109 80 z80) 170 z98.toNatClampNeg z102) 170 z118.toNatClampNeg z122) 171 z153.toNatClampNeg z157) 171 z188.toNatClampNeg z192)).1 169 u).toInt = (u : Int) := by rw [show (sI (sI (sI (sI (sF sc59 109 80 z80) 170 z98.toNatClampNeg z102) 170 z118.toNatClampNeg z122) 171 z153.toNatClampNeg z157) 171 z188.toNatClampNeg z192).1 169 = sc59.1 169 from (by simp [sI, sF])]; exact g59_1
              exact gg_w (by first | exact Nat.le_add_right _ _ | exact gw2 | exact gw3 | exact gwe rfl | exact gwf rfl | exact gwg rfl | exact gwh rfl | omega) (gg_f (gf_cons rfl (gf_cons rfl gf_nil)) (ih59 (sI (sI (sI (sI (sF sc59 109 80 z80) 170 z98.toNatClampNeg z102) 170 z118.toNatClampNeg z122) 171 z153.toNatClampNeg z157) 171 z188.toNatClampNeg z192) z194 z80 hI193 (fr_sI rfl (fr_sI rfl (fr_sI rfl (fr_sI rfl (fr_sF rfl hFc59))))) (in_w 0 160 i194 rfl) v59 n59 n59a n59b (m_up mm59 (t_add e194 i63 (in_c 1 rfl) rfl) (in_w 1 1 (in_c 1 rfl) rfl))))
  have ct29 : ∀ (k29 : Nat) (sc29 : GS) (y29_1 : Int32) (w29_109_80 : Int32), Inv sc29 → Fr fm_374 s sc29 → (In y29_1 0 32) → (w29_109_80 = sc29.2.2.1 109 80) → ((w29_109_80).toInt = 0) → ((∀ k : Nat, k < 1024 → ((sc29).1 171 k).toInt = 0) ∧ (∀ u : Nat, u < (y29_1).toNatClampNeg → ((sc29).1 170 u).toInt = 0) ∧ ∀ u : Nat, u < (y29_1).toNatClampNeg → ((sc29).1 169 u).toInt = (u : Int)) → 32 - (y29_1).toInt < (k29 : Int) → GG Z (d - 1) 374 post (gx xp) (825324 + k29 * 900) 29 (fun j => xlook j [(0, .ref (A 109)), (1, .int y29_1)]) [] (WW Z A sc29 ++ ex) 0 0 := by
    intro k29
    induction k29 with
    | zero => intro sc29 y29_1 w29_109_80 hIc29 hFc29 j29_1 v29_109_80 n29_0 g29_0 mm29; exact m_no mm29 j29_1 rfl
    | succ k29 ih29 =>
      intro sc29 y29_1 w29_109_80 hIc29 hFc29 j29_1 v29_109_80 n29_0 g29_0 mm29
      refine gg_w (M := 825324 + k29 * 900 + 900) gws ?_
      refine g_iload_n 30 (gd rfl) rfl rfl ?_
      refine g_aload_n 31 (gd rfl) rfl rfl ?_
      refine g_getI 34 (gd rfl) rfl rfl rfl (fun z31 e31 => ?_)
      have q31 : u_109_20 = z31 := (fr_F e_109_20 hFc29 rfl).trans e31.symm
      subst q31
      refine g_cmp_ge 37 57 (gd rfl) rfl rfl (fun c34 => ?_) (fun c34 => ?_)
      · skip
        refine g_iconst 0 58 (gd rfl) rfl rfl ?_
        refine g_istore_n 59 (gd rfl) rfl (Nat.le_of_ble_eq_true rfl) ?_
        have n59 : (w29_109_80).toInt ≤ ((Int32.ofInt 0)).toInt := by (first | have a0 := in_u ro_109_20 | (have a0 := ro_109_20; unfold In at a0)); (first | have a1 := in_u ro_109_19 | (have a1 := ro_109_19; unfold In at a1)); (first | have a2 := in_u ((inv_F hIc29 0 160 rfl v29_109_80)) | (have a2 := (inv_F hIc29 0 160 rfl v29_109_80); unfold In at a2)); (first | have a3 := in_u j29_1 | (have a3 := j29_1; unfold In at a3)); (first | have a4 := in_u ((in_c 0 rfl)) | (have a4 := (in_c 0 rfl); unfold In at a4)); have oc := oc_374_109; omega
        have n59a : RGI (ARE (gvZ s) 0) (ARE (gvZ s) 1) (s.2.2.1 109 20).toInt.toNat ((Int32.ofInt 0)).toNatClampNeg ((sc29).2.2.1 109 80).toInt ((sc29).1 170) ((sc29).1 171) := by exact rgi_0 rfl (by rw [← v29_109_80]; (first | have a0 := in_u ro_109_20 | (have a0 := ro_109_20; unfold In at a0)); (first | have a1 := in_u ro_109_19 | (have a1 := ro_109_19; unfold In at a1)); (first | have a2 := in_u ((inv_F hIc29 0 160 rfl v29_109_80)) | (have a2 := (inv_F hIc29 0 160 rfl v29_109_80); unfold In at a2)); (first | have a3 := in_u j29_1 | (have a3 := j29_1; unfold In at a3)); (first | have a4 := in_u ((in_c 0 rfl)) | (have a4 := (in_c 0 rfl); unfold In at a4)); have oc := oc_374_109; omega) (fun u hu => g29_0.2.1 u (Nat.lt_of_lt_of_le hu (show (s.2.2.1 109 20).toInt.toNat ≤ (y29_1).toNatClampNeg from (by show _ ≤ (y29_1).toInt.toNat; rw [← e_109_20]; (first | have a0 := in_u ro_109_20 | (have a0 := ro_109_20; unfold In at a0)); (first | have a1 := in_u ro_109_19 | (have a1 := ro_109_19; unfold In at a1)); (first | have a2 := in_u ((inv_F hIc29 0 160 rfl v29_109_80)) | (have a2 := (inv_F hIc29 0 160 rfl v29_109_80); unfold In at a2)); (first | have a3 := in_u j29_1 | (have a3 := j29_1; unfold In at a3)); (first | have a4 := in_u ((in_c 0 rfl)) | (have a4 := (in_c 0 rfl); unfold In at a4)); have oc := oc_374_109; omega)))) g29_0.1
        have n59b : ∀ u : Nat, u < (s.2.2.1 109 20).toInt.toNat → ((sc29).1 169 u).toInt = (u : Int) := by exact fun u hu => g29_0.2.2 u (Nat.lt_of_lt_of_le hu (show (s.2.2.1 109 20).toInt.toNat ≤ (y29_1).toNatClampNeg from (by show _ ≤ (y29_1).toInt.toNat; rw [← e_109_20]; (first | have a0 := in_u ro_109_20 | (have a0 := ro_109_20; unfold In at a0)); (first | have a1 := in_u ro_109_19 | (have a1 := ro_109_19; unfold In at a1)); (first | have a2 := in_u ((inv_F hIc29 0 160 rfl v29_109_80)) | (have a2 := (inv_F hIc29 0 160 rfl v29_109_80); unfold In at a2)); (first | have a3 := in_u j29_1 | (have a3 := j29_1; unfold In at a3)); (first | have a4 := in_u ((in_c 0 rfl)) | (have a4 := (in_c 0 rfl); unfold In at a4)); have oc := oc_374_109; omega)))
        exact gg_w (by first | exact Nat.le_add_right _ _ | exact gw2 | exact gw3 | exact gwe rfl | exact gwf rfl | exact gwg rfl | exact gwh rfl | omega) (gg_f (gf_cons rfl (gf_cons rfl gf_nil)) (ct59 161 sc29 (Int32.ofInt 0) w29_109_80 hIc29 hFc29 (in_w 0 160 (in_c 0 rfl) rfl) v29_109_80 n59 n59a n59b (m_in 161 (in_w 0 160 (in_c 0 rfl) rfl) rfl)))
      · skip
        have i34 := r_lt1 0 31 c34 j29_1 ro_109_20 rfl
        have i34a := r_lt2 1 32 c34 j29_1 ro_109_20 rfl
        refine g_aload_n 38 (gd rfl) rfl rfl ?_
        refine g_getA (q2 := 170) 41 (gd rfl) rfl rfl rfl rfl ?_
        refine g_iload_n 42 (gd rfl) rfl rfl ?_
        refine g_iconst 0 43 (gd rfl) rfl rfl ?_
        refine g_iastore 44 (gd rfl) rfl (n := 32) rfl (in_ix i34 rfl) ?_
        have hI43 := inv_sI (q := 170) (j := y29_1.toNatClampNeg) hIc29 rfl (in_w (-2147483648) 2147483647 (in_c 0 rfl) rfl)
        refine g_aload_n 45 (gd rfl) rfl rfl ?_
        refine g_getA (q2 := 169) 48 (gd rfl) rfl rfl rfl rfl ?_
        refine g_iload_n 49 (gd rfl) rfl rfl ?_
        refine g_iload_n 50 (gd rfl) rfl rfl ?_
        refine g_iastore 51 (gd rfl) rfl (n := 32) rfl (in_ix i34 rfl) ?_
        have hI50 := inv_sI (q := 169) (j := y29_1.toNatClampNeg) hI43 rfl (in_w (-2147483648) 2147483647 i34 rfl)
        refine g_iinc 54 (gd rfl) rfl rfl (Nat.le_of_ble_eq_true rfl) (fun z51 e51 => ?_)
        have i51 := in_add 1 32 e51 i34 (in_c 1 rfl) rfl rfl
        refine g_goto 29 (gd rfl) rfl ?_
        have v29 : w29_109_80 = (sI (sI sc29 170 y29_1.toNatClampNeg (Int32.ofInt 0)) 169 y29_1.toNatClampNeg y29_1).2.2.1 109 80 := sI_F (sI_F (v29_109_80))
        have n29 : (w29_109_80).toInt = 0 := by first | exact n29_0 | ((first | have a0 := in_u i34a | (have a0 := i34a; unfold In at a0)); (first | have a1 := in_u ro_109_19 | (have a1 := ro_109_19; unfold In at a1)); (first | have a2 := in_u ((inv_F hIc29 0 160 rfl v29_109_80)) | (have a2 := (inv_F hIc29 0 160 rfl v29_109_80); unfold In at a2)); (first | have a3 := in_u i34 | (have a3 := i34; unfold In at a3)); (first | have a4 := in_u i51 | (have a4 := i51; unfold In at a4)); have a5 := t_add e51 i34 (in_c 1 rfl) rfl; (first | have a6 := in_u ((in_c 1 rfl)) | (have a6 := (in_c 1 rfl); unfold In at a6)); have oc := oc_374_109; omega)
        have n29a : (∀ k : Nat, k < 1024 → (((sI (sI sc29 170 y29_1.toNatClampNeg (Int32.ofInt 0)) 169 y29_1.toNatClampNeg y29_1)).1 171 k).toInt = 0) ∧ (∀ u : Nat, u < (z51).toNatClampNeg → (((sI (sI sc29 170 y29_1.toNatClampNeg (Int32.ofInt 0)) 169 y29_1.toNatClampNeg y29_1)).1 170 u).toInt = 0) ∧ ∀ u : Nat, u < (z51).toNatClampNeg → (((sI (sI sc29 170 y29_1.toNatClampNeg (Int32.ofInt 0)) 169 y29_1.toNatClampNeg y29_1)).1 169 u).toInt = (u : Int) := by refine ⟨?_, ?_, ?_⟩; (rw [sI_p rfl, sI_p rfl]; exact g29_0.1); (rw [sI_p rfl, sI_q]; exact fil_s (P := fun _ x => x.toInt = 0) g29_0.2.1 rfl (show (z51).toNatClampNeg = (y29_1).toNatClampNeg + 1 from (by show (z51).toInt.toNat = (y29_1).toInt.toNat + 1; (first | have a0 := in_u i34a | (have a0 := i34a; unfold In at a0)); (first | have a1 := in_u ro_109_19 | (have a1 := ro_109_19; unfold In at a1)); (first | have a2 := in_u ((inv_F hIc29 0 160 rfl v29_109_80)) | (have a2 := (inv_F hIc29 0 160 rfl v29_109_80); unfold In at a2)); (first | have a3 := in_u i34 | (have a3 := i34; unfold In at a3)); (first | have a4 := in_u i51 | (have a4 := i51; unfold In at a4)); have a5 := t_add e51 i34 (in_c 1 rfl) rfl; (first | have a6 := in_u ((in_c 1 rfl)) | (have a6 := (in_c 1 rfl); unfold In at a6)); have oc := oc_374_109; omega))); (rw [sI_q, sI_p rfl]; exact fil_s (P := fun k x => x.toInt = (k : Int)) g29_0.2.2 (clx (by (first | have a0 := in_u i34a | (have a0 := i34a; unfold In at a0)); (first | have a1 := in_u ro_109_19 | (have a1 := ro_109_19; unfold In at a1)); (first | have a2 := in_u ((inv_F hIc29 0 160 rfl v29_109_80)) | (have a2 := (inv_F hIc29 0 160 rfl v29_109_80); unfold In at a2)); (first | have a3 := in_u i34 | (have a3 := i34; unfold In at a3)); (first | have a4 := in_u i51 | (have a4 := i51; unfold In at a4)); have a5 := t_add e51 i34 (in_c 1 rfl) rfl; (first | have a6 := in_u ((in_c 1 rfl)) | (have a6 := (in_c 1 rfl); unfold In at a6)); have oc := oc_374_109; omega)).symm (show (z51).toNatClampNeg = (y29_1).toNatClampNeg + 1 from (by show (z51).toInt.toNat = (y29_1).toInt.toNat + 1; (first | have a0 := in_u i34a | (have a0 := i34a; unfold In at a0)); (first | have a1 := in_u ro_109_19 | (have a1 := ro_109_19; unfold In at a1)); (first | have a2 := in_u ((inv_F hIc29 0 160 rfl v29_109_80)) | (have a2 := (inv_F hIc29 0 160 rfl v29_109_80); unfold In at a2)); (first | have a3 := in_u i34 | (have a3 := i34; unfold In at a3)); (first | have a4 := in_u i51 | (have a4 := i51; unfold In at a4)); have a5 := t_add e51 i34 (in_c 1 rfl) rfl; (first | have a6 := in_u ((in_c 1 rfl)) | (have a6 := (in_c 1 rfl); unfold In at a6)); have oc := oc_374_109; omega)))
        exact gg_w (by first | exact Nat.le_add_right _ _ | exact gw2 | exact gw3 | exact gwe rfl | exact gwf rfl | exact gwg rfl | exact gwh rfl | omega) (gg_f (gf_cons rfl (gf_cons rfl gf_nil)) (ih29 (sI (sI sc29 170 y29_1.toNatClampNeg (Int32.ofInt 0)) 169 y29_1.toNatClampNeg y29_1) z51 w29_109_80 hI50 (fr_sI rfl (fr_sI rfl hFc29)) (in_w 0 32 i51 rfl) v29 n29 n29a (m_up mm29 (t_add e51 i34 (in_c 1 rfl) rfl) (in_w 1 1 (in_c 1 rfl) rfl))))
  have ct7 : ∀ (k7 : Nat) (sc7 : GS) (y7_1 : Int32) (w7_109_80 : Int32), Inv sc7 → Fr fm_374 s sc7 → (In y7_1 0 1024) → (w7_109_80 = sc7.2.2.1 109 80) → ((w7_109_80).toInt = 0) → (∀ k : Nat, k < (y7_1).toNatClampNeg → ((sc7).1 171 k).toInt = 0) → 1024 - (y7_1).toInt < (k7 : Int) → GG Z (d - 1) 374 post (gx xp) (855025 + k7 * 900) 7 (fun j => xlook j [(0, .ref (A 109)), (1, .int y7_1)]) [] (WW Z A sc7 ++ ex) 0 0 := by
    intro k7
    induction k7 with
    | zero => intro sc7 y7_1 w7_109_80 hIc7 hFc7 j7_1 v7_109_80 n7_0 g7_0 mm7; exact m_no mm7 j7_1 rfl
    | succ k7 ih7 =>
      intro sc7 y7_1 w7_109_80 hIc7 hFc7 j7_1 v7_109_80 n7_0 g7_0 mm7
      refine gg_w (M := 855025 + k7 * 900 + 900) gws ?_
      refine g_iload_n 8 (gd rfl) rfl rfl ?_
      refine g_sipush 1024 11 (gd rfl) rfl rfl ?_
      refine g_cmp_ge 14 27 (gd rfl) rfl rfl (fun c11 => ?_) (fun c11 => ?_)
      · skip
        have i11 := r_le2 1024 1024 c11 (in_c 1024 rfl) j7_1 rfl
        refine g_iconst 0 28 (gd rfl) rfl rfl ?_
        refine g_istore_n 29 (gd rfl) rfl (Nat.le_of_ble_eq_true rfl) ?_
        have n29 : (w7_109_80).toInt = 0 := by first | exact n7_0 | ((first | have a0 := in_u ro_109_20 | (have a0 := ro_109_20; unfold In at a0)); (first | have a1 := in_u ro_109_19 | (have a1 := ro_109_19; unfold In at a1)); (first | have a2 := in_u ((inv_F hIc7 0 160 rfl v7_109_80)) | (have a2 := (inv_F hIc7 0 160 rfl v7_109_80); unfold In at a2)); (first | have a3 := in_u i11 | (have a3 := i11; unfold In at a3)); (first | have a4 := in_u ((in_c 0 rfl)) | (have a4 := (in_c 0 rfl); unfold In at a4)); have oc := oc_374_109; omega)
        have n29a : (∀ k : Nat, k < 1024 → ((sc7).1 171 k).toInt = 0) ∧ (∀ u : Nat, u < ((Int32.ofInt 0)).toNatClampNeg → ((sc7).1 170 u).toInt = 0) ∧ ∀ u : Nat, u < ((Int32.ofInt 0)).toNatClampNeg → ((sc7).1 169 u).toInt = (u : Int) := by refine ⟨fun k hk => g7_0 k (by show k < (y7_1).toInt.toNat; (first | have a0 := in_u ro_109_20 | (have a0 := ro_109_20; unfold In at a0)); (first | have a1 := in_u ro_109_19 | (have a1 := ro_109_19; unfold In at a1)); (first | have a2 := in_u ((inv_F hIc7 0 160 rfl v7_109_80)) | (have a2 := (inv_F hIc7 0 160 rfl v7_109_80); unfold In at a2)); (first | have a3 := in_u i11 | (have a3 := i11; unfold In at a3)); (first | have a4 := in_u ((in_c 0 rfl)) | (have a4 := (in_c 0 rfl); unfold In at a4)); have oc := oc_374_109; omega), ?_, ?_⟩; (intro k hk; exact absurd hk (Nat.not_lt_zero k)); (intro k hk; exact absurd hk (Nat.not_lt_zero k))
        exact gg_w (by first | exact Nat.le_add_right _ _ | exact gw2 | exact gw3 | exact gwe rfl | exact gwf rfl | exact gwg rfl | exact gwh rfl | omega) (gg_f (gf_cons rfl (gf_cons rfl gf_nil)) (ct29 33 sc7 (Int32.ofInt 0) w7_109_80 hIc7 hFc7 (in_w 0 32 (in_c 0 rfl) rfl) v7_109_80 n29 n29a (m_in 33 (in_w 0 32 (in_c 0 rfl) rfl) rfl)))
      · skip
        have i11 := r_lt1 0 1023 c11 j7_1 (in_c 1024 rfl) rfl
        refine g_aload_n 15 (gd rfl) rfl rfl ?_
        refine g_getA (q2 := 171) 18 (gd rfl) rfl rfl rfl rfl ?_
        refine g_iload_n 19 (gd rfl) rfl rfl ?_
        refine g_iconst 0 20 (gd rfl) rfl rfl ?_
        refine g_iastore 21 (gd rfl) rfl (n := 1024) rfl (in_ix i11 rfl) ?_
        have hI20 := inv_sI (q := 171) (j := y7_1.toNatClampNeg) hIc7 rfl (in_w (-2147483648) 2147483647 (in_c 0 rfl) rfl)
        refine g_iinc 24 (gd rfl) rfl rfl (Nat.le_of_ble_eq_true rfl) (fun z21 e21 => ?_)
        have i21 := in_add 1 1024 e21 i11 (in_c 1 rfl) rfl rfl
        refine g_goto 7 (gd rfl) rfl ?_
        have v7 : w7_109_80 = (sI sc7 171 y7_1.toNatClampNeg (Int32.ofInt 0)).2.2.1 109 80 := sI_F (v7_109_80)
        have n7 : (w7_109_80).toInt = 0 := by first | exact n7_0 | ((first | have a0 := in_u ro_109_20 | (have a0 := ro_109_20; unfold In at a0)); (first | have a1 := in_u ro_109_19 | (have a1 := ro_109_19; unfold In at a1)); (first | have a2 := in_u ((inv_F hIc7 0 160 rfl v7_109_80)) | (have a2 := (inv_F hIc7 0 160 rfl v7_109_80); unfold In at a2)); (first | have a3 := in_u i11 | (have a3 := i11; unfold In at a3)); (first | have a4 := in_u i21 | (have a4 := i21; unfold In at a4)); have a5 := t_add e21 i11 (in_c 1 rfl) rfl; (first | have a6 := in_u ((in_c 1 rfl)) | (have a6 := (in_c 1 rfl); unfold In at a6)); have oc := oc_374_109; omega)
        have n7a : ∀ k : Nat, k < (z21).toNatClampNeg → (((sI sc7 171 y7_1.toNatClampNeg (Int32.ofInt 0))).1 171 k).toInt = 0 := by rw [sI_q]; exact fil_s (P := fun _ x => x.toInt = 0) g7_0 rfl (show (z21).toNatClampNeg = (y7_1).toNatClampNeg + 1 from (by show (z21).toInt.toNat = (y7_1).toInt.toNat + 1; (first | have a0 := in_u ro_109_20 | (have a0 := ro_109_20; unfold In at a0)); (first | have a1 := in_u ro_109_19 | (have a1 := ro_109_19; unfold In at a1)); (first | have a2 := in_u ((inv_F hIc7 0 160 rfl v7_109_80)) | (have a2 := (inv_F hIc7 0 160 rfl v7_109_80); unfold In at a2)); (first | have a3 := in_u i11 | (have a3 := i11; unfold In at a3)); (first | have a4 := in_u i21 | (have a4 := i21; unfold In at a4)); have a5 := t_add e21 i11 (in_c 1 rfl) rfl; (first | have a6 := in_u ((in_c 1 rfl)) | (have a6 := (in_c 1 rfl); unfold In at a6)); have oc := oc_374_109; omega))
        exact gg_w (by first | exact Nat.le_add_right _ _ | exact gw2 | exact gw3 | exact gwe rfl | exact gwf rfl | exact gwg rfl | exact gwh rfl | omega) (gg_f (gf_cons rfl (gf_cons rfl gf_nil)) (ih7 (sI sc7 171 y7_1.toNatClampNeg (Int32.ofInt 0)) z21 w7_109_80 hI20 (fr_sI rfl hFc7) (in_w 0 1024 i21 rfl) v7 n7 n7a (m_up mm7 (t_add e21 i11 (in_c 1 rfl) rfl) (in_w 1 1 (in_c 1 rfl) rfl))))
  refine g_enter2 (k := 374) (N := 1778425) (by first | exact dq1 hd rfl | exact dq0 hd rfl | exact dq2 hd rfl | exact dq3 hd rfl | omega) rfl (Nat.le_of_ble_eq_true rfl) ?_
  refine g_aload_n 1 (gd rfl) rfl rfl ?_
  refine g_iconst 0 2 (gd rfl) rfl rfl ?_
  refine g_putI 5 (gd rfl) rfl rfl rfl rfl ?_
  have hI2 := inv_sF (q := 109) (j := 80) hI rfl (in_w 0 160 (in_c 0 rfl) rfl)
  refine g_iconst 0 6 (gd rfl) rfl rfl ?_
  refine g_istore_n 7 (gd rfl) rfl (Nat.le_of_ble_eq_true rfl) ?_
  have v7 : (Int32.ofInt 0) = (sF s 109 80 (Int32.ofInt 0)).2.2.1 109 80 := sF_get
  have n7 : ((Int32.ofInt 0)).toInt = 0 := by (first | have a0 := in_u ro_109_20 | (have a0 := ro_109_20; unfold In at a0)); (first | have a1 := in_u ro_109_19 | (have a1 := ro_109_19; unfold In at a1)); (first | have a2 := in_u ((in_c 0 rfl)) | (have a2 := (in_c 0 rfl); unfold In at a2)); have oc := oc_374_109; omega
  have n7a : ∀ k : Nat, k < ((Int32.ofInt 0)).toNatClampNeg → (((sF s 109 80 (Int32.ofInt 0))).1 171 k).toInt = 0 := by intro k hk; exact absurd hk (Nat.not_lt_zero k)
  exact gg_w (by first | exact Nat.le_of_ble_eq_true rfl | omega) (gg_f (gf_cons rfl (gf_cons rfl gf_nil)) (ct7 1025 (sF s 109 80 (Int32.ofInt 0)) (Int32.ofInt 0) (Int32.ofInt 0) hI2 (fr_sF rfl fr_rf) (in_w 0 1024 (in_c 0 rfl) rfl) v7 n7 n7a (m_in 1025 (in_w 0 1024 (in_c 0 rfl) rfl) rfl)))

theorem oc_378_109 : (Int32.ofInt (-1)).toInt = (-1) ∧ (Int32.ofInt 0).toInt = 0 ∧ (Int32.ofInt 1).toInt = 1 := ⟨rfl, rfl, rfl⟩
/-- GraphHouseModel.group -/
theorem f_378 {Z : AmZ} {A : Nat → Nat} {s : GS} {ex : va_W} {d : Nat} {X : AmX} {x1 : Int32} (hd : 6 ≤ d) (hI : Inv s)  : GC Z d 378 [.ref (A 109), .int x1] (WW Z A s ++ ex) 0 0 (fun v u => ∃ t : GS, Inv t ∧ Fr fm_378 s t ∧ ∃ z : Int32, v = some (.int z) ∧ u = WW Z A t ++ ex ∧ In z 0 40 ∧ (GPR s t x1 z)) X := by
  intro post xp hP hX
  obtain ⟨u_109_20, e_109_20⟩ : ∃ w, w = s.2.2.1 109 20 := ⟨_, rfl⟩
  have ro_109_20 := inv_F hI 0 32 rfl e_109_20
  refine g_enter2 (k := 378) (N := 900) (by first | exact dq1 hd rfl | exact dq0 hd rfl | exact dq2 hd rfl | exact dq3 hd rfl | omega) rfl (Nat.le_of_ble_eq_true rfl) ?_
  refine g_aload_n 1 (gd rfl) rfl rfl ?_
  refine g_aload_n 2 (gd rfl) rfl rfl ?_
  refine g_iload_n 3 (gd rfl) rfl rfl ?_
  refine g_callv (X := _) (As := [.int x1]) (r := [.ref (A 109)]) (b := A 109) (q := 109) 6 (gd rfl) rfl rfl rfl rfl rfl (ww_o rfl) (Nat.le_of_ble_eq_true rfl) (mc := 0) (ms := 0) (Nat.zero_le _) (Nat.zero_le _) (P := fun v u => _) ?_ (fun e u h => h) (fun v u h => h)
  intro po3 xx3 hp3 hx3
  refine g_enter2 (k := 272) (N := 300) (by first | exact dq1 hd rfl | exact dq0 hd rfl | exact dq2 hd rfl | exact dq3 hd rfl | omega) rfl (Nat.le_of_ble_eq_true rfl) ?_
  refine g_iload_n 1 (gd rfl) rfl rfl ?_
  refine g_if_lt 4 16 (gd rfl) rfl rfl (fun c3x1 => ?_) (fun c3x1 => ?_)
  · skip
    have i3x1 := z_lt (-2147483648) (-1) c3x1 (i_rng x1) rfl
    refine g_iconst 0 17 (gd rfl) rfl rfl ?_
    refine g_ireturn (gd rfl) rfl (nb01 (in_w 0 1 (in_c 0 rfl) rfl)) (hp3 _ _ ?_)
    show GG _ _ _ _ _ _ _ _ [.int (Int32.ofInt 0), .ref (A 109)] _ _ _
    refine g_callv (X := _) (As := [.int (Int32.ofInt 0)]) (r := []) (b := A 109) (q := 109) 9 (gd rfl) rfl rfl rfl rfl rfl (ww_o rfl) (Nat.le_of_ble_eq_true rfl) (mc := 0) (ms := 0) (Nat.zero_le _) (Nat.zero_le _) (P := fun v u => _) ?_ (fun e u h => h) (fun v u h => h)
    intro po6 xx6 hp6 hx6
    refine g_enter2 (k := 271) (N := 300) (by first | exact dq1 hd rfl | exact dq0 hd rfl | exact dq2 hd rfl | exact dq3 hd rfl | omega) rfl (Nat.le_of_ble_eq_true rfl) ?_
    refine g_aload_n 1 (gd rfl) rfl rfl ?_
    refine g_iload_n 2 (gd rfl) rfl rfl ?_
    refine g_iconst 1 3 (gd rfl) rfl rfl ?_
    refine g_callv (X := _) (As := [.int (Int32.ofInt 0), .int (Int32.ofInt 1)]) (r := []) (b := A 109) (q := 109) 6 (gd rfl) rfl rfl rfl rfl rfl (ww_o rfl) (Nat.le_of_ble_eq_true rfl) (mc := 0) (ms := 0) (Nat.zero_le _) (Nat.zero_le _) (P := fun v u => _) ?_ (fun e u h => h) (fun v u h => h)
    intro po6x3 xx6x3 hp6x3 hx6x3
    refine g_enter2 (k := 270) (N := 300) (by first | exact dq1 hd rfl | exact dq0 hd rfl | exact dq2 hd rfl | exact dq3 hd rfl | omega) rfl (Nat.le_of_ble_eq_true rfl) ?_
    refine g_aload_n 1 (gd rfl) rfl rfl ?_
    refine g_iload_n 2 (gd rfl) rfl rfl ?_
    refine g_if_ne 5 9 (gd rfl) rfl rfl (fun c6x3x2 => ?_) (fun c6x3x2 => ?_)
    · skip
      exact zn_ne c6x3x2 (in_c 0 rfl) rfl
    · skip
      refine g_iconst 1 6 (gd rfl) rfl rfl ?_
      refine g_goto 18 (gd rfl) rfl ?_
      refine g_putI 21 (gd rfl) rfl rfl rfl rfl ?_
      have hI6x3x18 := inv_sF (q := 109) (j := 0) hI rfl (in_w 0 2 (in_c 1 rfl) rfl)
      refine g_aload_n 22 (gd rfl) rfl rfl ?_
      refine g_getI 25 (gd rfl) rfl rfl rfl (fun z6x3x22 e6x3x22 => ?_)
      have q6x3x22 : (Int32.ofInt 1) = z6x3x22 := (sF_get).trans e6x3x22.symm
      subst q6x3x22
      refine g_if_le 28 32 (gd rfl) rfl rfl (fun c6x3x25 => ?_) (fun c6x3x25 => ?_)
      · skip
        exact zn_le c6x3x25 (in_c 1 rfl) rfl
      · skip
        refine g_iconst 1 29 (gd rfl) rfl rfl ?_
        refine g_goto 33 (gd rfl) rfl ?_
        refine g_ireturn (gd rfl) rfl (nb01 (in_w 0 1 (in_c 1 rfl) rfl)) (hp6x3 _ _ ?_)
        show GG _ _ _ _ _ _ _ _ [.int (Int32.ofInt 1)] _ _ _
        refine g_ireturn (gd rfl) rfl (nb01 (in_w 0 1 (in_c 1 rfl) rfl)) (hp6 _ _ ?_)
        show GG _ _ _ _ _ _ _ _ [.int (Int32.ofInt 1)] _ _ _
        refine g_if_eq 12 14 (gd rfl) rfl rfl (fun c9 => ?_) (fun c9 => ?_)
        · skip
          exact zn_eq c9 (in_c 1 rfl) rfl
        · skip
          refine g_iconst 0 13 (gd rfl) rfl rfl ?_
          have n13 : GPR s (sF s 109 0 (Int32.ofInt 1)) x1 (Int32.ofInt 0) := by exact Or.inl ⟨rfl, by rw [← e_109_20]; (first | have a0 := in_u ro_109_20 | (have a0 := ro_109_20; unfold In at a0)); (first | have a1 := in_u i3x1 | (have a1 := i3x1; unfold In at a1)); (first | have a2 := in_u ((in_c 1 rfl)) | (have a2 := (in_c 1 rfl); unfold In at a2)); have oc := oc_378_109; omega⟩
          exact g_ireturn (gd rfl) rfl rfl (hP _ _ ⟨(sF s 109 0 (Int32.ofInt 1)), hI6x3x18, (fr_sF rfl fr_rf), (Int32.ofInt 0), rfl, rfl, in_w 0 40 (in_c 0 rfl) rfl, n13⟩)
  · skip
    have i3x1 := z_ge 0 2147483647 c3x1 (i_rng x1) rfl
    refine g_iload_n 5 (gd rfl) rfl rfl ?_
    refine g_aload_n 6 (gd rfl) rfl rfl ?_
    refine g_getI 9 (gd rfl) rfl rfl rfl (fun z3x6 e3x6 => ?_)
    have q3x6 : u_109_20 = z3x6 := (e_109_20).trans e3x6.symm
    subst q3x6
    refine g_cmp_ge 12 16 (gd rfl) rfl rfl (fun c3x9 => ?_) (fun c3x9 => ?_)
    · skip
      refine g_iconst 0 17 (gd rfl) rfl rfl ?_
      refine g_ireturn (gd rfl) rfl (nb01 (in_w 0 1 (in_c 0 rfl) rfl)) (hp3 _ _ ?_)
      show GG _ _ _ _ _ _ _ _ [.int (Int32.ofInt 0), .ref (A 109)] _ _ _
      refine g_callv (X := _) (As := [.int (Int32.ofInt 0)]) (r := []) (b := A 109) (q := 109) 9 (gd rfl) rfl rfl rfl rfl rfl (ww_o rfl) (Nat.le_of_ble_eq_true rfl) (mc := 0) (ms := 0) (Nat.zero_le _) (Nat.zero_le _) (P := fun v u => _) ?_ (fun e u h => h) (fun v u h => h)
      intro po6 xx6 hp6 hx6
      refine g_enter2 (k := 271) (N := 300) (by first | exact dq1 hd rfl | exact dq0 hd rfl | exact dq2 hd rfl | exact dq3 hd rfl | omega) rfl (Nat.le_of_ble_eq_true rfl) ?_
      refine g_aload_n 1 (gd rfl) rfl rfl ?_
      refine g_iload_n 2 (gd rfl) rfl rfl ?_
      refine g_iconst 1 3 (gd rfl) rfl rfl ?_
      refine g_callv (X := _) (As := [.int (Int32.ofInt 0), .int (Int32.ofInt 1)]) (r := []) (b := A 109) (q := 109) 6 (gd rfl) rfl rfl rfl rfl rfl (ww_o rfl) (Nat.le_of_ble_eq_true rfl) (mc := 0) (ms := 0) (Nat.zero_le _) (Nat.zero_le _) (P := fun v u => _) ?_ (fun e u h => h) (fun v u h => h)
      intro po6x3 xx6x3 hp6x3 hx6x3
      refine g_enter2 (k := 270) (N := 300) (by first | exact dq1 hd rfl | exact dq0 hd rfl | exact dq2 hd rfl | exact dq3 hd rfl | omega) rfl (Nat.le_of_ble_eq_true rfl) ?_
      refine g_aload_n 1 (gd rfl) rfl rfl ?_
      refine g_iload_n 2 (gd rfl) rfl rfl ?_
      refine g_if_ne 5 9 (gd rfl) rfl rfl (fun c6x3x2 => ?_) (fun c6x3x2 => ?_)
      · skip
        exact zn_ne c6x3x2 (in_c 0 rfl) rfl
      · skip
        refine g_iconst 1 6 (gd rfl) rfl rfl ?_
        refine g_goto 18 (gd rfl) rfl ?_
        refine g_putI 21 (gd rfl) rfl rfl rfl rfl ?_
        have hI6x3x18 := inv_sF (q := 109) (j := 0) hI rfl (in_w 0 2 (in_c 1 rfl) rfl)
        refine g_aload_n 22 (gd rfl) rfl rfl ?_
        refine g_getI 25 (gd rfl) rfl rfl rfl (fun z6x3x22 e6x3x22 => ?_)
        have q6x3x22 : (Int32.ofInt 1) = z6x3x22 := (sF_get).trans e6x3x22.symm
        subst q6x3x22
        refine g_if_le 28 32 (gd rfl) rfl rfl (fun c6x3x25 => ?_) (fun c6x3x25 => ?_)
        · skip
          exact zn_le c6x3x25 (in_c 1 rfl) rfl
        · skip
          refine g_iconst 1 29 (gd rfl) rfl rfl ?_
          refine g_goto 33 (gd rfl) rfl ?_
          refine g_ireturn (gd rfl) rfl (nb01 (in_w 0 1 (in_c 1 rfl) rfl)) (hp6x3 _ _ ?_)
          show GG _ _ _ _ _ _ _ _ [.int (Int32.ofInt 1)] _ _ _
          refine g_ireturn (gd rfl) rfl (nb01 (in_w 0 1 (in_c 1 rfl) rfl)) (hp6 _ _ ?_)
          show GG _ _ _ _ _ _ _ _ [.int (Int32.ofInt 1)] _ _ _
          refine g_if_eq 12 14 (gd rfl) rfl rfl (fun c9 => ?_) (fun c9 => ?_)
          · skip
            exact zn_eq c9 (in_c 1 rfl) rfl
          · skip
            refine g_iconst 0 13 (gd rfl) rfl rfl ?_
            have n13 : GPR s (sF s 109 0 (Int32.ofInt 1)) x1 (Int32.ofInt 0) := by exact Or.inl ⟨rfl, by rw [← e_109_20]; (first | have a0 := in_u ro_109_20 | (have a0 := ro_109_20; unfold In at a0)); (first | have a1 := in_u i3x1 | (have a1 := i3x1; unfold In at a1)); (first | have a2 := in_u ((in_c 1 rfl)) | (have a2 := (in_c 1 rfl); unfold In at a2)); have oc := oc_378_109; omega⟩
            exact g_ireturn (gd rfl) rfl rfl (hP _ _ ⟨(sF s 109 0 (Int32.ofInt 1)), hI6x3x18, (fr_sF rfl fr_rf), (Int32.ofInt 0), rfl, rfl, in_w 0 40 (in_c 0 rfl) rfl, n13⟩)
    · skip
      have i3x9 := r_lt1 0 31 c3x9 i3x1 ro_109_20 rfl
      have i3x9a := r_lt2 1 32 c3x9 i3x1 ro_109_20 rfl
      refine g_iconst 1 13 (gd rfl) rfl rfl ?_
      refine g_goto 17 (gd rfl) rfl ?_
      refine g_ireturn (gd rfl) rfl (nb01 (in_w 0 1 (in_c 1 rfl) rfl)) (hp3 _ _ ?_)
      show GG _ _ _ _ _ _ _ _ [.int (Int32.ofInt 1), .ref (A 109)] _ _ _
      refine g_callv (X := _) (As := [.int (Int32.ofInt 1)]) (r := []) (b := A 109) (q := 109) 9 (gd rfl) rfl rfl rfl rfl rfl (ww_o rfl) (Nat.le_of_ble_eq_true rfl) (mc := 0) (ms := 0) (Nat.zero_le _) (Nat.zero_le _) (P := fun v u => _) ?_ (fun e u h => h) (fun v u h => h)
      intro po6 xx6 hp6 hx6
      refine g_enter2 (k := 271) (N := 300) (by first | exact dq1 hd rfl | exact dq0 hd rfl | exact dq2 hd rfl | exact dq3 hd rfl | omega) rfl (Nat.le_of_ble_eq_true rfl) ?_
      refine g_aload_n 1 (gd rfl) rfl rfl ?_
      refine g_iload_n 2 (gd rfl) rfl rfl ?_
      refine g_iconst 1 3 (gd rfl) rfl rfl ?_
      refine g_callv (X := _) (As := [.int (Int32.ofInt 1), .int (Int32.ofInt 1)]) (r := []) (b := A 109) (q := 109) 6 (gd rfl) rfl rfl rfl rfl rfl (ww_o rfl) (Nat.le_of_ble_eq_true rfl) (mc := 0) (ms := 0) (Nat.zero_le _) (Nat.zero_le _) (P := fun v u => _) ?_ (fun e u h => h) (fun v u h => h)
      intro po6x3 xx6x3 hp6x3 hx6x3
      refine g_enter2 (k := 270) (N := 300) (by first | exact dq1 hd rfl | exact dq0 hd rfl | exact dq2 hd rfl | exact dq3 hd rfl | omega) rfl (Nat.le_of_ble_eq_true rfl) ?_
      refine g_aload_n 1 (gd rfl) rfl rfl ?_
      refine g_iload_n 2 (gd rfl) rfl rfl ?_
      refine g_if_ne 5 9 (gd rfl) rfl rfl (fun c6x3x2 => ?_) (fun c6x3x2 => ?_)
      · skip
        refine g_iload_n 10 (gd rfl) rfl rfl ?_
        refine g_if_ne 13 17 (gd rfl) rfl rfl (fun c6x3x10 => ?_) (fun c6x3x10 => ?_)
        · skip
          refine g_iconst 0 18 (gd rfl) rfl rfl ?_
          refine g_putI 21 (gd rfl) rfl rfl rfl rfl ?_
          have hI6x3x18 := inv_sF (q := 109) (j := 0) hI rfl (in_w 0 2 (in_c 0 rfl) rfl)
          refine g_aload_n 22 (gd rfl) rfl rfl ?_
          refine g_getI 25 (gd rfl) rfl rfl rfl (fun z6x3x22 e6x3x22 => ?_)
          have q6x3x22 : (Int32.ofInt 0) = z6x3x22 := (sF_get).trans e6x3x22.symm
          subst q6x3x22
          refine g_if_le 28 32 (gd rfl) rfl rfl (fun c6x3x25 => ?_) (fun c6x3x25 => ?_)
          · skip
            refine g_iconst 0 33 (gd rfl) rfl rfl ?_
            refine g_ireturn (gd rfl) rfl (nb01 (in_w 0 1 (in_c 0 rfl) rfl)) (hp6x3 _ _ ?_)
            show GG _ _ _ _ _ _ _ _ [.int (Int32.ofInt 0)] _ _ _
            refine g_ireturn (gd rfl) rfl (nb01 (in_w 0 1 (in_c 0 rfl) rfl)) (hp6 _ _ ?_)
            show GG _ _ _ _ _ _ _ _ [.int (Int32.ofInt 0)] _ _ _
            refine g_if_eq 12 14 (gd rfl) rfl rfl (fun c9 => ?_) (fun c9 => ?_)
            · skip
              refine g_aload_n 15 (gd rfl) rfl rfl ?_
              refine g_callv (X := _) (As := []) (r := []) (b := A 109) (q := 109) 18 (gd rfl) rfl rfl rfl rfl rfl (ww_o rfl) (Nat.le_of_ble_eq_true rfl) (Nat.zero_le _) (Nat.zero_le _) (f_374 (by first | exact dq1 hd rfl | exact dq0 hd rfl | exact dq2 hd rfl | exact dq3 hd rfl | omega) hI6x3x18 ) (fun e u h => h) (fun v u h => ?_)
              obtain ⟨s15, hI15, hF15, rfl, rfl, p15⟩ := h
              show GG _ _ _ _ _ _ _ _ [] _ _ _
              refine g_aload_n 19 (gd rfl) rfl rfl ?_
              refine g_aload_n 20 (gd rfl) rfl rfl ?_
              refine g_getA (q2 := 169) 23 (gd rfl) rfl rfl rfl rfl ?_
              refine g_iload_n 24 (gd rfl) rfl rfl ?_
              refine g_iaload 25 (gd rfl) rfl (n := 32) rfl (in_ix i3x9 rfl) (fun z24 e24 => ?_)
              refine g_iconst (-1) 26 (gd rfl) rfl rfl ?_
              refine g_callv (X := _) (As := [.int z24, .int (Int32.ofInt (-1))]) (r := []) (b := A 109) (q := 109) 29 (gd rfl) rfl rfl rfl rfl rfl (ww_o rfl) (Nat.le_of_ble_eq_true rfl) (Nat.zero_le _) (Nat.zero_le _) (f_375 (by first | exact dq1 hd rfl | exact dq0 hd rfl | exact dq2 hd rfl | exact dq3 hd rfl | omega) hI15 (in_w (-1) 31 (in_c (-1) rfl) rfl)) (fun e u h => h) (fun v u h => ?_)
              obtain ⟨z26, rfl, rfl, i26, p26, p26a⟩ := h
              show GG _ _ _ _ _ _ _ _ [.int z26] _ _ _
              have n29 : GPR s s15 x1 z26 := by have en := nG_z hI; have gf : GRF (gvZ s) (lbl (nG (gvZ s)) (s15.1 169)) := (by unfold GRF; rw [en]; have h9 := p15.2; rw [(show gvZ (sF s 109 0 (Int32.ofInt 0)) = gvZ s from gvz_cg (F := ([], [], [(109, 0)], [])) (fr_sF rfl fr_rf) rfl), show (sF s 109 0 (Int32.ofInt 0)).2.2.1 109 20 = s.2.2.1 109 20 from rfl] at h9; exact h9); exact Or.inr ⟨(by rw [hF15.2.2.1 109 0 rfl]; rfl), ⟨by (first | have a0 := in_u i3x9 | (have a0 := i3x9; unfold In at a0)); (first | have a1 := in_u i3x9a | (have a1 := i3x9a; unfold In at a1)); (first | have a2 := in_u ((in_c 0 rfl)) | (have a2 := (in_c 0 rfl); unfold In at a2)); have oc := oc_378_109; omega, by rw [← e_109_20]; (first | have a0 := in_u i3x9 | (have a0 := i3x9; unfold In at a0)); (first | have a1 := in_u i3x9a | (have a1 := i3x9a; unfold In at a1)); (first | have a2 := in_u ((in_c 0 rfl)) | (have a2 := (in_c 0 rfl); unfold In at a2)); have oc := oc_378_109; omega⟩, gra_r gf (by rw [en]; exact (show (x1).toNatClampNeg < (s.2.2.1 109 20).toInt.toNat from (by show (x1).toInt.toNat < _; rw [← e_109_20]; (first | have a0 := in_u i3x9 | (have a0 := i3x9; unfold In at a0)); (first | have a1 := in_u i3x9a | (have a1 := i3x9a; unfold In at a1)); (first | have a2 := in_u ((in_c 0 rfl)) | (have a2 := (in_c 0 rfl); unfold In at a2)); have oc := oc_378_109; omega))) (by rw [en]; exact (show (s.2.2.1 109 20).toInt.toNat ≤ 32 from (by have i9 := inv_F hI (z := s.2.2.1 109 20) 0 32 rfl rfl; have h9 := i9.2; omega))) (by rw [en]; have h9 := p26a; rw [hF15.2.2.1 109 20 rfl, show (sF s 109 0 (Int32.ofInt 0)).2.2.1 109 20 = s.2.2.1 109 20 from rfl, e24] at h9; exact h9)⟩
              exact g_ireturn (gd rfl) rfl rfl (hP _ _ ⟨s15, hI15, (fr_tr rfl (fr_sF rfl fr_rf) hF15), z26, rfl, rfl, in_w 0 40 i26 rfl, n29⟩)
            · skip
              exact zn_ne c9 (in_c 0 rfl) rfl
          · skip
            exact zn_gt c6x3x25 (in_c 0 rfl) rfl
        · skip
          exact zn_eq c6x3x10 (in_c 1 rfl) rfl
      · skip
        exact zn_eq c6x3x2 (in_c 1 rfl) rfl

theorem oc_379_109 : (Int32.ofInt (-1)).toInt = (-1) ∧ (Int32.ofInt 0).toInt = 0 ∧ (Int32.ofInt 1).toInt = 1 ∧ (Int64.ofInt 0).toInt = 0 := ⟨rfl, rfl, rfl, rfl⟩
set_option maxHeartbeats 4000000 in
/-- GraphHouseModel.gain -/
theorem f_379 {Z : AmZ} {A : Nat → Nat} {s : GS} {ex : va_W} {d : Nat} {X : AmX}  (hd : 6 ≤ d) (hI : Inv s)  : GC Z d 379 [.ref (A 109)] (WW Z A s ++ ex) 0 0 (fun v u => ∃ t : GS, Inv t ∧ Fr fm_379 s t ∧ ∃ z : Int64, v = some (.long z) ∧ u = WW Z A t ++ ex ∧ (GNR s t z)) X := by
  intro post xp hP hX
  obtain ⟨u_109_20, e_109_20⟩ : ∃ w, w = s.2.2.1 109 20 := ⟨_, rfl⟩
  have ro_109_20 := inv_F hI 0 32 rfl e_109_20
  have ct13 : ∀ (k13 : Nat) (sc13 : GS) (y13_1 : Int64) (y13_3 : Int32), Inv sc13 → Fr fm_379 s sc13 → (In y13_3 0 32) → ((y13_3).toInt ≤ (u_109_20).toInt) → (RGB (ARE (gvZ s) 0) (ARE (gvZ s) 1) (s.2.2.1 109 20).toInt.toNat sc13 ∧ ITR (ARE (gvZ s) 0) (ARE (gvZ s) 1) (NBR (gvZ s)) (s.2.2.1 109 20).toInt.toNat 20 (idl (s.2.2.1 109 20).toInt.toNat) (lbl (s.2.2.1 109 20).toInt.toNat ((sc13).1 169)) ∧ ((sc13).2.2.1 109 0).toInt = 0) → (((y13_1).toInt = sm (fun u => SCR (ARE (gvZ s) 0) (ARE (gvZ s) 1) (lbl (s.2.2.1 109 20).toInt.toNat ((sc13).1 169)) (s.2.2.1 109 20).toInt.toNat u ((lbl (s.2.2.1 109 20).toInt.toNat ((sc13).1 169)) u)) (y13_3).toNatClampNeg)) → 32 - (y13_3).toInt < (k13 : Int) → GG Z (d - 1) 379 post (gx xp) (1 + k13 * 900) 13 (fun j => xlook j [(0, .ref (A 109)), (1, .long y13_1), (3, .int y13_3)]) [] (WW Z A sc13 ++ ex) 0 0 := by
    intro k13
    induction k13 with
    | zero => intro sc13 y13_1 y13_3 hIc13 hFc13 j13_3 n13_0 g13_0 g13_1 mm13; exact m_no mm13 j13_3 rfl
    | succ k13 ih13 =>
      intro sc13 y13_1 y13_3 hIc13 hFc13 j13_3 n13_0 g13_0 g13_1 mm13
      refine gg_w (M := 1 + k13 * 900 + 900) gws ?_
      refine g_iload_n 14 (gd rfl) rfl rfl ?_
      refine g_aload_n 15 (gd rfl) rfl rfl ?_
      refine g_getI 18 (gd rfl) rfl rfl rfl (fun z15 e15 => ?_)
      have q15 : u_109_20 = z15 := (fr_F e_109_20 hFc13 rfl).trans e15.symm
      subst q15
      refine g_cmp_ge 21 41 (gd rfl) rfl rfl (fun c18 => ?_) (fun c18 => ?_)
      · skip
        refine g_lload_n 42 (gd rfl) rfl rfl ?_
        have n42 : GNR s sc13 y13_1 := by have h9 := g13_1; rw [(show (y13_3).toNatClampNeg = (s.2.2.1 109 20).toInt.toNat from (by show (y13_3).toInt.toNat = _; rw [← e_109_20]; (first | have a0 := in_u ro_109_20 | (have a0 := ro_109_20; unfold In at a0)); (first | have a1 := in_u j13_3 | (have a1 := j13_3; unfold In at a1)); have oc := oc_379_109; omega))] at h9; refine ⟨g13_0.2.2, _, (show GRF (gvZ s) (lbl (s.2.2.1 109 20).toInt.toNat (sc13.1 169)) from (by unfold GRF; rw [nG_z hI]; exact g13_0.2.1)), ?_⟩; rw [nG_z hI]; exact h9
        exact g_lreturn (gd rfl) rfl (hP _ _ ⟨sc13, hIc13, hFc13, y13_1, rfl, rfl, n42⟩)
      · skip
        have i18 := r_lt1 0 31 c18 j13_3 ro_109_20 rfl
        have i18a := r_lt2 1 32 c18 j13_3 ro_109_20 rfl
        refine g_lload_n 22 (gd rfl) rfl rfl ?_
        refine g_aload_n 23 (gd rfl) rfl rfl ?_
        refine g_iload_n 24 (gd rfl) rfl rfl ?_
        refine g_aload_n 25 (gd rfl) rfl rfl ?_
        refine g_getA (q2 := 169) 28 (gd rfl) rfl rfl rfl rfl ?_
        refine g_iload_n 29 (gd rfl) rfl rfl ?_
        refine g_iaload 30 (gd rfl) rfl (n := 32) rfl (in_ix i18 rfl) (fun z29 e29 => ?_)
        refine g_callv (X := _) (As := [.int y13_3, .int z29]) (r := [.long y13_1]) (b := A 109) (q := 109) 33 (gd rfl) rfl rfl rfl rfl rfl (ww_o rfl) (Nat.le_of_ble_eq_true rfl) (Nat.zero_le _) (Nat.zero_le _) (f_373 (by first | exact dq1 hd rfl | exact dq0 hd rfl | exact dq2 hd rfl | exact dq3 hd rfl | omega) hIc13 (in_w 0 31 i18 rfl)) (fun e u h => h) (fun v u h => ?_)
        obtain ⟨z30, rfl, rfl, p30⟩ := h
        show GG _ _ _ _ _ _ _ _ [.long z30, .long y13_1] _ _ _
        refine g_ladd 34 (gd rfl) rfl (fun z33 e33 => ?_)
        refine g_lstore_n 35 (gd rfl) rfl (Nat.le_of_ble_eq_true rfl) ?_
        refine g_iinc 38 (gd rfl) rfl rfl (Nat.le_of_ble_eq_true rfl) (fun z35 e35 => ?_)
        have i35 := in_add 1 32 e35 i18 (in_c 1 rfl) rfl rfl
        refine g_goto 13 (gd rfl) rfl ?_
        have n13 : (z35).toInt ≤ (u_109_20).toInt := by (first | have a0 := in_u i18a | (have a0 := i18a; unfold In at a0)); (first | have a1 := in_u i18 | (have a1 := i18; unfold In at a1)); (first | have a2 := in_u i35 | (have a2 := i35; unfold In at a2)); have a3 := t_add e35 i18 (in_c 1 rfl) rfl; (first | have a4 := in_u ((in_c 1 rfl)) | (have a4 := (in_c 1 rfl); unfold In at a4)); have oc := oc_379_109; omega
        have n13a : RGB (ARE (gvZ s) 0) (ARE (gvZ s) 1) (s.2.2.1 109 20).toInt.toNat sc13 ∧ ITR (ARE (gvZ s) 0) (ARE (gvZ s) 1) (NBR (gvZ s)) (s.2.2.1 109 20).toInt.toNat 20 (idl (s.2.2.1 109 20).toInt.toNat) (lbl (s.2.2.1 109 20).toInt.toNat ((sc13).1 169)) ∧ ((sc13).2.2.1 109 0).toInt = 0 := by exact g13_0
        have n13b : ((z33).toInt = sm (fun u => SCR (ARE (gvZ s) 0) (ARE (gvZ s) 1) (lbl (s.2.2.1 109 20).toInt.toNat ((sc13).1 169)) (s.2.2.1 109 20).toInt.toNat u ((lbl (s.2.2.1 109 20).toInt.toNat ((sc13).1 169)) u)) (z35).toNatClampNeg) := by exact gsm_s g13_1 (show (s.2.2.1 109 20).toInt.toNat ≤ 32 from (by have i9 := inv_F hI (z := s.2.2.1 109 20) 0 32 rfl rfl; have h9 := i9.2; omega)) (show (y13_3).toNatClampNeg ≤ 32 from (by show (y13_3).toInt.toNat ≤ 32; (first | have a0 := in_u i18a | (have a0 := i18a; unfold In at a0)); (first | have a1 := in_u i18 | (have a1 := i18; unfold In at a1)); (first | have a2 := in_u i35 | (have a2 := i35; unfold In at a2)); have a3 := t_add e35 i18 (in_c 1 rfl) rfl; (first | have a4 := in_u ((in_c 1 rfl)) | (have a4 := (in_c 1 rfl); unfold In at a4)); have oc := oc_379_109; omega)) (show (z30).toInt = SCR (ARE (gvZ s) 0) (ARE (gvZ s) 1) (lbl (s.2.2.1 109 20).toInt.toNat (sc13.1 169)) (s.2.2.1 109 20).toInt.toNat (y13_3).toNatClampNeg (z29).toInt from (by have h9 := p30 (ARE (gvZ s) 0) (ARE (gvZ s) 1) (by rw [hFc13.2.2.1 109 20 rfl]; exact g13_0.1) (by rw [hFc13.2.2.1 109 20 rfl]; exact (show (y13_3).toNatClampNeg < (s.2.2.1 109 20).toInt.toNat from (by show (y13_3).toInt.toNat < _; rw [← e_109_20]; (first | have a0 := in_u i18a | (have a0 := i18a; unfold In at a0)); (first | have a1 := in_u i18 | (have a1 := i18; unfold In at a1)); (first | have a2 := in_u i35 | (have a2 := i35; unfold In at a2)); have a3 := t_add e35 i18 (in_c 1 rfl) rfl; (first | have a4 := in_u ((in_c 1 rfl)) | (have a4 := (in_c 1 rfl); unfold In at a4)); have oc := oc_379_109; omega))); rw [hFc13.2.2.1 109 20 rfl] at h9; rw [← gns_e (by have h9 := gvz_i hI; rw [nG_z hI] at h9; exact h9)]; exact h9)) (by rw [lbl_l (show (y13_3).toNatClampNeg < (s.2.2.1 109 20).toInt.toNat from (by show (y13_3).toInt.toNat < _; rw [← e_109_20]; (first | have a0 := in_u i18a | (have a0 := i18a; unfold In at a0)); (first | have a1 := in_u i18 | (have a1 := i18; unfold In at a1)); (first | have a2 := in_u i35 | (have a2 := i35; unfold In at a2)); have a3 := t_add e35 i18 (in_c 1 rfl) rfl; (first | have a4 := in_u ((in_c 1 rfl)) | (have a4 := (in_c 1 rfl); unfold In at a4)); have oc := oc_379_109; omega)), ← e29]) e33 (show (z35).toNatClampNeg = (y13_3).toNatClampNeg + 1 from (by show (z35).toInt.toNat = (y13_3).toInt.toNat + 1; (first | have a0 := in_u i18a | (have a0 := i18a; unfold In at a0)); (first | have a1 := in_u i18 | (have a1 := i18; unfold In at a1)); (first | have a2 := in_u i35 | (have a2 := i35; unfold In at a2)); have a3 := t_add e35 i18 (in_c 1 rfl) rfl; (first | have a4 := in_u ((in_c 1 rfl)) | (have a4 := (in_c 1 rfl); unfold In at a4)); have oc := oc_379_109; omega))
        exact gg_w (by first | exact Nat.le_add_right _ _ | exact gw2 | exact gw3 | exact gwe rfl | exact gwf rfl | exact gwg rfl | exact gwh rfl | omega) (gg_f (gf_cons rfl (gf_cons rfl (gf_cons rfl gf_nil))) (ih13 sc13 z33 z35 hIc13 hFc13 (in_w 0 32 i35 rfl) n13 n13a n13b (m_up mm13 (t_add e35 i18 (in_c 1 rfl) rfl) (in_w 1 1 (in_c 1 rfl) rfl))))
  refine g_enter2 (k := 379) (N := 30601) (by first | exact dq1 hd rfl | exact dq0 hd rfl | exact dq2 hd rfl | exact dq3 hd rfl | omega) rfl (Nat.le_of_ble_eq_true rfl) ?_
  refine g_aload_n 1 (gd rfl) rfl rfl ?_
  refine g_iconst 0 2 (gd rfl) rfl rfl ?_
  refine g_putI 5 (gd rfl) rfl rfl rfl rfl ?_
  have hI2 := inv_sF (q := 109) (j := 0) hI rfl (in_w 0 2 (in_c 0 rfl) rfl)
  refine g_aload_n 6 (gd rfl) rfl rfl ?_
  refine g_callv (X := _) (As := []) (r := []) (b := A 109) (q := 109) 9 (gd rfl) rfl rfl rfl rfl rfl (ww_o rfl) (Nat.le_of_ble_eq_true rfl) (Nat.zero_le _) (Nat.zero_le _) (f_374 (by first | exact dq1 hd rfl | exact dq0 hd rfl | exact dq2 hd rfl | exact dq3 hd rfl | omega) hI2 ) (fun e u h => h) (fun v u h => ?_)
  obtain ⟨s6, hI6, hF6, rfl, rfl, p6⟩ := h
  show GG _ _ _ _ _ _ _ _ [] _ _ _
  refine g_lconst 0 10 (gd rfl) rfl rfl ?_
  refine g_lstore_n 11 (gd rfl) rfl (Nat.le_of_ble_eq_true rfl) ?_
  refine g_iconst 0 12 (gd rfl) rfl rfl ?_
  refine g_istore_n 13 (gd rfl) rfl (Nat.le_of_ble_eq_true rfl) ?_
  have n13 : ((Int32.ofInt 0)).toInt ≤ (u_109_20).toInt := by (first | have a0 := in_u ro_109_20 | (have a0 := ro_109_20; unfold In at a0)); (first | have a1 := in_u ((in_c 0 rfl)) | (have a1 := (in_c 0 rfl); unfold In at a1)); have oc := oc_379_109; omega
  have n13a : RGB (ARE (gvZ s) 0) (ARE (gvZ s) 1) (s.2.2.1 109 20).toInt.toNat s6 ∧ ITR (ARE (gvZ s) 0) (ARE (gvZ s) 1) (NBR (gvZ s)) (s.2.2.1 109 20).toInt.toNat 20 (idl (s.2.2.1 109 20).toInt.toNat) (lbl (s.2.2.1 109 20).toInt.toNat ((s6).1 169)) ∧ ((s6).2.2.1 109 0).toInt = 0 := by have h9 := p6; rw [(show gvZ (sF s 109 0 (Int32.ofInt 0)) = gvZ s from gvz_cg (F := ([], [], [(109, 0)], [])) (fr_sF rfl fr_rf) rfl), show (sF s 109 0 (Int32.ofInt 0)).2.2.1 109 20 = s.2.2.1 109 20 from rfl] at h9; exact ⟨h9.1, h9.2, by rw [hF6.2.2.1 109 0 rfl]; rfl⟩
  have n13b : (((Int64.ofInt 0)).toInt = sm (fun u => SCR (ARE (gvZ s) 0) (ARE (gvZ s) 1) (lbl (s.2.2.1 109 20).toInt.toNat ((s6).1 169)) (s.2.2.1 109 20).toInt.toNat u ((lbl (s.2.2.1 109 20).toInt.toNat ((s6).1 169)) u)) ((Int32.ofInt 0)).toNatClampNeg) := by rfl
  exact gg_w (by first | exact Nat.le_of_ble_eq_true rfl | omega) (gg_f (gf_cons rfl (gf_cons rfl (gf_cons rfl gf_nil))) (ct13 33 s6 (Int64.ofInt 0) (Int32.ofInt 0) hI6 (fr_tr rfl (fr_sF rfl fr_rf) hF6) (in_w 0 32 (in_c 0 rfl) rfl) n13 n13a n13b (m_in 33 (in_w 0 32 (in_c 0 rfl) rfl) rfl)))
