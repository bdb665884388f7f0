/-! FUNCTIONAL CONTRACTS, by fgen.py -/
theorem oc_316_109 : (Int32.ofInt (-1)).toInt = (-1) ∧ (Int32.ofInt 0).toInt = 0 ∧ (Int32.ofInt 1).toInt = 1 ∧ (Int32.ofInt 159).toInt = 159 ∧ (Int64.ofInt 9000000000000000).toInt = 9000000000000000 := ⟨rfl, rfl, rfl, rfl, rfl⟩
set_option maxHeartbeats 4000000 in
/-- GraphHouseModel.way -/
theorem f_316 {Z : AmZ} {A : Nat → Nat} {s : GS} {ex : va_W} {d : Nat} {X : AmX} {x1 : Int32} {x2 : Int32} {x3 : Int32} (hd : 5 ≤ d) (hI : Inv s)  : GC Z d 316 [.ref (A 109), .int x1, .int x2, .int x3] (WW Z A s ++ ex) 0 0 (fun v u => ∃ t : GS, Inv t ∧ Fr fm_316 s t ∧ ∃ z : Int32, v = some (.int z) ∧ u = WW Z A t ++ ex ∧ In z (-1) 159 ∧ (WYR s t x1 x2 x3 z)) X := by
  intro post xp hP hX
  obtain ⟨u_109_19, e_109_19⟩ : ∃ w, w = s.2.2.1 109 19 := ⟨_, rfl⟩
  have ro_109_19 := inv_F hI 0 160 rfl e_109_19
  obtain ⟨u_109_20, e_109_20⟩ : ∃ w, w = s.2.2.1 109 20 := ⟨_, rfl⟩
  have ro_109_20 := inv_F hI 0 32 rfl e_109_20
  have ct78 : ∀ (k78 : Nat) (sc78 : GS) (y78_4 : Int32) (y78_5 : Int32) (y78_6 : Int32) (y78_7 : Int32), Inv sc78 → Fr fm_316 s sc78 → (In x1 0 31) → (In x2 0 31) → (In x3 0 2147483646) → (In y78_5 0 31) → (In y78_6 (-1) 159) → (In y78_7 0 1000) → ((y78_4).toInt ≠ 0) → (0 ≤ (y78_7).toInt) → (WFN sc78 (x2).toNatClampNeg (y78_4)) → (bt (y78_4) (y78_5).toNatClampNeg = true) → ((sc78.1 131 (y78_5).toNatClampNeg).toInt + (y78_7).toInt = (sc78.1 131 (x1).toNatClampNeg).toInt) → ((x3).toInt < (sc78.1 131 (x1).toNatClampNeg).toInt ∧ (sc78.1 131 (x1).toNatClampNeg).toInt ≤ 1000) → (WRF sc78 (x1).toNatClampNeg (x2).toNatClampNeg (y78_4)) → (bt (y78_4) (x2).toNatClampNeg = true) → (WYI (gvZ s) (x2).toNatClampNeg (x3).toInt (x1).toNatClampNeg (y78_5).toNatClampNeg (y78_7).toNatClampNeg (y78_6).toInt) → ((y78_7).toInt ≤ (x3).toInt + 1) → (((sc78).2.2.1 109 0).toInt = 0) → (((0 ≤ x1.toInt ∧ x1.toInt < (s.2.2.1 109 20).toInt) ∧ (0 ≤ x2.toInt ∧ x2.toInt < (s.2.2.1 109 20).toInt)) ∧ 0 ≤ x3.toInt) → 1000 - (y78_7).toInt < (k78 : Int) → GG Z (d - 1) 316 post (gx xp) (1 + k78 * 147601) 78 (fun j => xlook j [(0, .ref (A 109)), (1, .int x1), (2, .int x2), (3, .int x3), (4, .int y78_4), (5, .int y78_5), (6, .int y78_6), (7, .int y78_7)]) [] (WW Z A sc78 ++ ex) 0 0 := by
    intro k78
    induction k78 with
    | zero => intro sc78 y78_4 y78_5 y78_6 y78_7 hIc78 hFc78 j78_1 j78_2 j78_3 j78_5 j78_6 j78_7 nz78_4 n78_0 g78_0 g78_1 g78_2 g78_3 g78_4 g78_5 g78_6 g78_7 g78_8 g78_9 mm78; exact m_no mm78 j78_7 rfl
    | succ k78 ih78 =>
      intro sc78 y78_4 y78_5 y78_6 y78_7 hIc78 hFc78 j78_1 j78_2 j78_3 j78_5 j78_6 j78_7 nz78_4 n78_0 g78_0 g78_1 g78_2 g78_3 g78_4 g78_5 g78_6 g78_7 g78_8 g78_9 mm78
      refine gg_w (M := 1 + k78 * 147601 + 147601) gws ?_
      have ct92 : ∀ (k92 : Nat) (sc92 : GS) (y92_6 : Int32) (y92_8 : Int32), Inv sc92 → Fr fm_316 s sc92 → (In y92_6 (-1) 159) → (In y92_8 (-1) 159) → ((y78_4).toInt ≠ 0) → ((y78_7).toInt ≤ (x3).toInt) → (0 ≤ (y78_7).toInt) → (WFN sc92 (x2).toNatClampNeg (y78_4)) → (bt (y78_4) (y78_5).toNatClampNeg = true) → ((sc92.1 131 (y78_5).toNatClampNeg).toInt + (y78_7).toInt = (sc92.1 131 (x1).toNatClampNeg).toInt) → ((x3).toInt < (sc92.1 131 (x1).toNatClampNeg).toInt ∧ (sc92.1 131 (x1).toNatClampNeg).toInt ≤ 1000) → ((∀ a : Nat, (y92_8).toInt < (a : Int) → a < 160 → WOK sc92 (y78_4) (y78_5).toNatClampNeg a → 0 ≤ (y92_6).toInt) ∧ (0 ≤ (y92_6).toInt → WOK sc92 (y78_4) (y78_5).toNatClampNeg (y92_6).toNatClampNeg)) → (WRF sc92 (x1).toNatClampNeg (x2).toNatClampNeg (y78_4)) → (bt (y78_4) (x2).toNatClampNeg = true) → (WYI (gvZ s) (x2).toNatClampNeg (x3).toInt (x1).toNatClampNeg (y78_5).toNatClampNeg (y78_7).toNatClampNeg (y78_6).toInt) → (∀ a : Nat, (y92_8).toInt < (a : Int) → a < 160 → WOK sc92 (y78_4) (y78_5).toNatClampNeg a → (y92_6).toInt ≤ (a : Int)) → (((sc92).2.2.1 109 0).toInt = 0) → (((0 ≤ x1.toInt ∧ x1.toInt < (s.2.2.1 109 20).toInt) ∧ (0 ≤ x2.toInt ∧ x2.toInt < (s.2.2.1 109 20).toInt)) ∧ 0 ≤ x3.toInt) → (y92_8).toInt - (-1) < (k92 : Int) → GG Z (d - 1) 316 post (gx xp) (1 + k78 * 147601 + 1 + k92 * 900) 92 (fun j => xlook j [(0, .ref (A 109)), (1, .int x1), (2, .int x2), (3, .int x3), (4, .int y78_4), (5, .int y78_5), (6, .int y92_6), (7, .int y78_7), (8, .int y92_8)]) [] (WW Z A sc92 ++ ex) 0 0 := by
        intro k92
        induction k92 with
        | zero => intro sc92 y92_6 y92_8 hIc92 hFc92 j92_6 j92_8 nz92_4 n92_0 n92_1 g92_0 g92_1 g92_2 g92_3 g92_4 g92_5 g92_6 g92_7 g92_8 g92_9 g92_10 mm92; exact m_nod mm92 j92_8 rfl
        | succ k92 ih92 =>
          intro sc92 y92_6 y92_8 hIc92 hFc92 j92_6 j92_8 nz92_4 n92_0 n92_1 g92_0 g92_1 g92_2 g92_3 g92_4 g92_5 g92_6 g92_7 g92_8 g92_9 g92_10 mm92
          refine gg_w (M := 1 + k78 * 147601 + 1 + k92 * 900 + 900) gws ?_
          refine g_iload 94 (gd rfl) rfl rfl ?_
          refine g_if_lt 97 245 (gd rfl) rfl rfl (fun c94 => ?_) (fun c94 => ?_)
          · skip
            have i94 := z_lt (-1) (-1) c94 j92_8 rfl
            have i245 : In y92_6 0 159 := by obtain ⟨wa, wa1, wa2⟩ := (g92_0 y78_5.toNatClampNeg g92_1).2.2.2 (by have h1 := g92_2; have h2 := g92_3; exact (have a0 := in_u j78_7; have a1 := in_u j78_5; have a2 := in_u j78_2; have a3 := in_u j78_1; have a4 := in_u ro_109_20; have a5 := in_u ro_109_19; have a6 := in_u i94; have a7 := in_u j92_6; have a8 := in_u j78_3; have oc := oc_316_109; by omega)); have hge := g92_4.1 wa (by exact (have a0 := in_u j78_7; have a1 := in_u j78_5; have a2 := in_u j78_2; have a3 := in_u j78_1; have a4 := in_u ro_109_20; have a5 := in_u ro_109_19; have a6 := in_u i94; have a7 := in_u j92_6; have a8 := in_u j78_3; have oc := oc_316_109; by omega)) wa1 wa2; have h6 := j92_6; unfold In at h6; exact ⟨hge, by omega⟩
            refine g_aload_n 246 (gd rfl) rfl rfl ?_
            refine g_getA (q2 := 114) 249 (gd rfl) rfl rfl rfl rfl ?_
            refine g_aload_n 250 (gd rfl) rfl rfl ?_
            refine g_getI 253 (gd rfl) rfl rfl rfl (fun z250 e250 => ?_)
            have q250 : u_109_19 = z250 := (fr_F e_109_19 hFc92 rfl).trans e250.symm
            subst q250
            refine g_iload 255 (gd rfl) rfl rfl ?_
            refine g_iadd 256 (gd rfl) rfl (fun z255 e255 => ?_)
            have i255 := in_add 0 319 e255 ro_109_19 i245 rfl rfl
            refine g_iaload 257 (gd rfl) rfl (n := 480) rfl (in_ix i255 rfl) (fun z256 e256 => ?_)
            have i256 := inv_I hIc92 (n := 480) (t := 0) 0 31 rfl (in_ix i255 rfl) rfl e256
            have hw := g92_4.2 (by have h := i245; unfold In at h; omega); have hb6 : bs sc92 + y92_6.toNatClampNeg = z255.toNatClampNeg := bs_x (show u_109_19 = sc92.2.2.1 109 19 from fr_F e_109_19 hFc92 rfl) (by exact (have a0 := in_u j78_7; have a1 := in_u j78_5; have a2 := in_u j78_2; have a3 := in_u j78_1; have a4 := in_u ro_109_20; have a5 := in_u ro_109_19; have a6 := in_u i94; have a7 := in_u i245; have a8 := in_u j78_3; have a9 := in_u i255; have a10 := t_add e255 ro_109_19 i245 rfl; have oc := oc_316_109; by omega)) (by exact (have a0 := in_u j78_7; have a1 := in_u j78_5; have a2 := in_u j78_2; have a3 := in_u j78_1; have a4 := in_u ro_109_20; have a5 := in_u ro_109_19; have a6 := in_u i94; have a7 := in_u i245; have a8 := in_u j78_3; have a9 := in_u i255; have a10 := t_add e255 ro_109_19 i245 rfl; have oc := oc_316_109; by omega)) (by exact (have a0 := in_u j78_7; have a1 := in_u j78_5; have a2 := in_u j78_2; have a3 := in_u j78_1; have a4 := in_u ro_109_20; have a5 := in_u ro_109_19; have a6 := in_u i94; have a7 := in_u i245; have a8 := in_u j78_3; have a9 := in_u i255; have a10 := t_add e255 ro_109_19 i245 rfl; have oc := oc_316_109; by omega)); unfold WOK at hw; rw [hb6, ← e256] at hw
            refine g_istore 259 (gd rfl) rfl (Nat.le_of_ble_eq_true rfl) ?_
            refine g_iinc 262 (gd rfl) rfl rfl (Nat.le_of_ble_eq_true rfl) (fun z259 e259 => ?_)
            have i259 := in_add 1 1001 e259 j78_7 (in_c 1 rfl) rfl rfl
            refine g_goto 78 (gd rfl) rfl ?_
            have i78 : In z259 0 1000 := by have h3 := g92_3; exact ⟨by exact (have a0 := in_u j78_7; have a1 := in_u j78_5; have a2 := in_u j78_2; have a3 := in_u j78_1; have a4 := in_u ro_109_20; have a5 := in_u ro_109_19; have a6 := in_u i94; have a7 := in_u i245; have a8 := in_u i259; have a9 := t_add e259 j78_7 (in_c 1 rfl) rfl; have a10 := in_u ((in_c 1 rfl)); have a11 := in_u i256; have a12 := in_u j78_3; have a13 := in_u i255; have a14 := t_add e255 ro_109_19 i245 rfl; have oc := oc_316_109; by omega), by exact (have a0 := in_u j78_7; have a1 := in_u j78_5; have a2 := in_u j78_2; have a3 := in_u j78_1; have a4 := in_u ro_109_20; have a5 := in_u ro_109_19; have a6 := in_u i94; have a7 := in_u i245; have a8 := in_u i259; have a9 := t_add e259 j78_7 (in_c 1 rfl) rfl; have a10 := in_u ((in_c 1 rfl)); have a11 := in_u i256; have a12 := in_u j78_3; have a13 := in_u i255; have a14 := t_add e255 ro_109_19 i245 rfl; have oc := oc_316_109; by omega)⟩
            have n78 : 0 ≤ (z259).toInt := by exact (have a0 := in_u j78_7; have a1 := in_u j78_5; have a2 := in_u j78_2; have a3 := in_u j78_1; have a4 := in_u ro_109_20; have a5 := in_u ro_109_19; have a6 := in_u i94; have a7 := in_u i245; have a8 := in_u i78; have a9 := t_add e259 j78_7 (in_c 1 rfl) rfl; have a10 := in_u ((in_c 1 rfl)); have a11 := in_u i256; have a12 := in_u j78_3; have a13 := in_u i255; have a14 := t_add e255 ro_109_19 i245 rfl; have oc := oc_316_109; by omega)
            have n78a : WFN sc92 (x2).toNatClampNeg (y78_4) := by exact g92_0
            have n78b : bt (y78_4) (z256).toNatClampNeg = true := by exact hw.2.2.1
            have n78c : (sc92.1 131 (z256).toNatClampNeg).toInt + (z259).toInt = (sc92.1 131 (x1).toNatClampNeg).toInt := by have h1 := hw.2.2.2.2.2; have h2 := g92_2; exact (have a0 := in_u j78_7; have a1 := in_u j78_5; have a2 := in_u j78_2; have a3 := in_u j78_1; have a4 := in_u ro_109_20; have a5 := in_u ro_109_19; have a6 := in_u i94; have a7 := in_u i245; have a8 := in_u i78; have a9 := t_add e259 j78_7 (in_c 1 rfl) rfl; have a10 := in_u ((in_c 1 rfl)); have a11 := in_u i256; have a12 := in_u j78_3; have a13 := in_u i255; have a14 := t_add e255 ro_109_19 i245 rfl; have oc := oc_316_109; by omega)
            have n78d : (x3).toInt < (sc92.1 131 (x1).toNatClampNeg).toInt ∧ (sc92.1 131 (x1).toNatClampNeg).toInt ≤ 1000 := by exact g92_3
            have n78e : WRF sc92 (x1).toNatClampNeg (x2).toNatClampNeg (y78_4) := by exact g92_5
            have n78f : bt (y78_4) (x2).toNatClampNeg = true := by exact g92_6
            have n78g : WYI (gvZ s) (x2).toNatClampNeg (x3).toInt (x1).toNatClampNeg (z256).toNatClampNeg (z259).toNatClampNeg (y92_6).toInt := by have wk := g92_4.2 (by have h := i245; unfold In at h; omega); have nx := wok_nxl hIc92 g92_5 g92_6 g92_1 (show (y92_6).toNatClampNeg < 160 from (by show (y92_6).toInt.toNat < 160; have h := i245; unfold In at h; omega)) wk (fun b hb hwb => by have h8 := g92_8 b (by exact (have a0 := in_u j78_7; have a1 := in_u j78_5; have a2 := in_u j78_2; have a3 := in_u j78_1; have a4 := in_u ro_109_20; have a5 := in_u ro_109_19; have a6 := in_u i94; have a7 := in_u i245; have a8 := in_u i78; have a9 := t_add e259 j78_7 (in_c 1 rfl) rfl; have a10 := in_u ((in_c 1 rfl)); have a11 := in_u i256; have a12 := in_u j78_3; have a13 := in_u i255; have a14 := t_add e255 ro_109_19 i245 rfl; have oc := oc_316_109; by omega)) hb hwb; show (y92_6).toInt.toNat ≤ b; omega); rw [(show gvZ sc92 = gvZ s from gvz_cg hFc92 rfl), hb6, ← e256] at nx; exact wyi_s g92_7 nx (show (y92_6).toInt = (((y92_6).toNatClampNeg : Nat) : Int) from (by show _ = (((y92_6).toInt.toNat : Nat) : Int); have h := i245; unfold In at h; omega)) (show (z259).toNatClampNeg = (y78_7).toNatClampNeg + 1 from (by show (z259).toInt.toNat = (y78_7).toInt.toNat + 1; exact (have a0 := in_u j78_7; have a1 := in_u j78_5; have a2 := in_u j78_2; have a3 := in_u j78_1; have a4 := in_u ro_109_20; have a5 := in_u ro_109_19; have a6 := in_u i94; have a7 := in_u i245; have a8 := in_u i78; have a9 := t_add e259 j78_7 (in_c 1 rfl) rfl; have a10 := in_u ((in_c 1 rfl)); have a11 := in_u i256; have a12 := in_u j78_3; have a13 := in_u i255; have a14 := t_add e255 ro_109_19 i245 rfl; have oc := oc_316_109; by omega)))
            have n78h : (z259).toInt ≤ (x3).toInt + 1 := by exact (have a0 := in_u j78_7; have a1 := in_u j78_5; have a2 := in_u j78_2; have a3 := in_u j78_1; have a4 := in_u ro_109_20; have a5 := in_u ro_109_19; have a6 := in_u i94; have a7 := in_u i245; have a8 := in_u i78; have a9 := t_add e259 j78_7 (in_c 1 rfl) rfl; have a10 := in_u ((in_c 1 rfl)); have a11 := in_u i256; have a12 := in_u j78_3; have a13 := in_u i255; have a14 := t_add e255 ro_109_19 i245 rfl; have oc := oc_316_109; by omega)
            have n78i : ((sc92).2.2.1 109 0).toInt = 0 := by exact g92_9
            have n78j : ((0 ≤ x1.toInt ∧ x1.toInt < (s.2.2.1 109 20).toInt) ∧ (0 ≤ x2.toInt ∧ x2.toInt < (s.2.2.1 109 20).toInt)) ∧ 0 ≤ x3.toInt := by exact g92_10
            exact gg_w (by first | exact Nat.le_add_right _ _ | exact gw2 | exact gw3 | exact gwe rfl | exact gwf rfl | exact gwg rfl | exact gwh rfl | omega) (gg_f (gf_cons rfl (gf_cons rfl (gf_cons rfl (gf_cons rfl (gf_cons rfl (gf_cons rfl (gf_cons rfl (gf_cons rfl gf_nil)))))))) (ih78 sc92 y78_4 z256 y92_6 z259 hIc92 hFc92 (in_w 0 31 j78_1 rfl) (in_w 0 31 j78_2 rfl) (in_w 0 2147483646 j78_3 rfl) (in_w 0 31 i256 rfl) (in_w (-1) 159 i245 rfl) i78 nz92_4 n78 n78a n78b n78c n78d n78e n78f n78g n78h n78i n78j (m_up mm78 (t_add e259 j78_7 (in_c 1 rfl) rfl) (in_w 1 1 (in_c 1 rfl) rfl))))
          · skip
            have i94 := z_ge 0 159 c94 j92_8 rfl
            refine g_aload_n 98 (gd rfl) rfl rfl ?_
            refine g_getI 101 (gd rfl) rfl rfl rfl (fun z98 e98 => ?_)
            have q98 : u_109_19 = z98 := (fr_F e_109_19 hFc92 rfl).trans e98.symm
            subst q98
            refine g_iload 103 (gd rfl) rfl rfl ?_
            refine g_iadd 104 (gd rfl) rfl (fun z103 e103 => ?_)
            have i103 := in_add 0 319 e103 ro_109_19 i94 rfl rfl
            refine g_istore 106 (gd rfl) rfl (Nat.le_of_ble_eq_true rfl) ?_
            refine g_aload_n 107 (gd rfl) rfl rfl ?_
            refine g_getA (q2 := 112) 110 (gd rfl) rfl rfl rfl rfl ?_
            refine g_iload 112 (gd rfl) rfl rfl ?_
            refine g_baload 113 (gd rfl) rfl (n := 480) rfl (in_ix i103 rfl) (fun z112 e112 => ?_)
            have i112 := inv_I hIc92 (n := 480) (t := 3) 0 1 rfl (in_ix i103 rfl) rfl e112
            refine g_if_eq 116 166 (gd rfl) rfl rfl (fun c113 => ?_) (fun c113 => ?_)
            · skip
              have i113 := z_eq 0 0 c113 i112 rfl
              refine g_iconst 0 167 (gd rfl) rfl rfl ?_
              refine g_istore 169 (gd rfl) rfl (Nat.le_of_ble_eq_true rfl) ?_
              refine g_iload 171 (gd rfl) rfl rfl ?_
              refine g_if_eq 174 235 (gd rfl) rfl rfl (fun c171 => ?_) (fun c171 => ?_)
              · skip
                refine g_iload 237 (gd rfl) rfl rfl ?_
                refine g_istore 239 (gd rfl) rfl (Nat.le_of_ble_eq_true rfl) ?_
                refine g_iinc 242 (gd rfl) rfl rfl (Nat.le_of_ble_eq_true rfl) (fun z239 e239 => ?_)
                have i239 := in_add (-1) 158 e239 i94 (in_c (-1) rfl) rfl rfl
                refine g_goto 92 (gd rfl) rfl ?_
                have n92 : (y78_7).toInt ≤ (x3).toInt := by first | exact n92_0 | (exact (have a0 := in_u j78_7; have a1 := in_u j78_5; have a2 := in_u j78_2; have a3 := in_u j78_1; have a4 := in_u ro_109_20; have a5 := in_u ro_109_19; have a6 := in_u i94; have a7 := in_u j92_6; have a8 := in_u ((in_c 0 rfl)); have a9 := in_u i103; have a10 := t_add e103 ro_109_19 i94 rfl; have a11 := in_u i239; have a12 := t_add e239 i94 (in_c (-1) rfl) rfl; have a13 := in_u ((in_c (-1) rfl)); have a14 := in_u j78_3; have oc := oc_316_109; by omega))
                have n92a : 0 ≤ (y78_7).toInt := by first | exact n78_0 | (exact (have a0 := in_u j78_7; have a1 := in_u j78_5; have a2 := in_u j78_2; have a3 := in_u j78_1; have a4 := in_u ro_109_20; have a5 := in_u ro_109_19; have a6 := in_u i94; have a7 := in_u j92_6; have a8 := in_u ((in_c 0 rfl)); have a9 := in_u i103; have a10 := t_add e103 ro_109_19 i94 rfl; have a11 := in_u i239; have a12 := t_add e239 i94 (in_c (-1) rfl) rfl; have a13 := in_u ((in_c (-1) rfl)); have a14 := in_u j78_3; have oc := oc_316_109; by omega))
                have n92b : WFN sc92 (x2).toNatClampNeg (y78_4) := by exact g92_0
                have n92c : bt (y78_4) (y78_5).toNatClampNeg = true := by exact g92_1
                have n92d : (sc92.1 131 (y78_5).toNatClampNeg).toInt + (y78_7).toInt = (sc92.1 131 (x1).toNatClampNeg).toInt := by exact g92_2
                have n92e : (x3).toInt < (sc92.1 131 (x1).toNatClampNeg).toInt ∧ (sc92.1 131 (x1).toNatClampNeg).toInt ≤ 1000 := by exact g92_3
                have n92f : (∀ a : Nat, (z239).toInt < (a : Int) → a < 160 → WOK sc92 (y78_4) (y78_5).toNatClampNeg a → 0 ≤ (y92_6).toInt) ∧ (0 ≤ (y92_6).toInt → WOK sc92 (y78_4) (y78_5).toNatClampNeg (y92_6).toNatClampNeg) := by exact wa_no g92_4 (by exact (have a0 := in_u j78_7; have a1 := in_u j78_5; have a2 := in_u j78_2; have a3 := in_u j78_1; have a4 := in_u ro_109_20; have a5 := in_u ro_109_19; have a6 := in_u i94; have a7 := in_u j92_6; have a8 := in_u ((in_c 0 rfl)); have a9 := in_u i103; have a10 := t_add e103 ro_109_19 i94 rfl; have a11 := in_u i239; have a12 := t_add e239 i94 (in_c (-1) rfl) rfl; have a13 := in_u ((in_c (-1) rfl)); have a14 := in_u j78_3; have oc := oc_316_109; by omega)) (by exact (have a0 := in_u j78_7; have a1 := in_u j78_5; have a2 := in_u j78_2; have a3 := in_u j78_1; have a4 := in_u ro_109_20; have a5 := in_u ro_109_19; have a6 := in_u i94; have a7 := in_u j92_6; have a8 := in_u ((in_c 0 rfl)); have a9 := in_u i103; have a10 := t_add e103 ro_109_19 i94 rfl; have a11 := in_u i239; have a12 := t_add e239 i94 (in_c (-1) rfl) rfl; have a13 := in_u ((in_c (-1) rfl)); have a14 := in_u j78_3; have oc := oc_316_109; by omega)) (fun hw => by have h1 := hw.1; rw [(bs_x (x := z103) (a := y92_8) (show u_109_19 = sc92.2.2.1 109 19 from fr_F e_109_19 hFc92 rfl) (by exact (have a0 := in_u j78_7; have a1 := in_u j78_5; have a2 := in_u j78_2; have a3 := in_u j78_1; have a4 := in_u ro_109_20; have a5 := in_u ro_109_19; have a6 := in_u i94; have a7 := in_u j92_6; have a8 := in_u ((in_c 0 rfl)); have a9 := in_u i103; have a10 := t_add e103 ro_109_19 i94 rfl; have a11 := in_u i239; have a12 := t_add e239 i94 (in_c (-1) rfl) rfl; have a13 := in_u ((in_c (-1) rfl)); have a14 := in_u j78_3; have oc := oc_316_109; by omega)) (by exact (have a0 := in_u j78_7; have a1 := in_u j78_5; have a2 := in_u j78_2; have a3 := in_u j78_1; have a4 := in_u ro_109_20; have a5 := in_u ro_109_19; have a6 := in_u i94; have a7 := in_u j92_6; have a8 := in_u ((in_c 0 rfl)); have a9 := in_u i103; have a10 := t_add e103 ro_109_19 i94 rfl; have a11 := in_u i239; have a12 := t_add e239 i94 (in_c (-1) rfl) rfl; have a13 := in_u ((in_c (-1) rfl)); have a14 := in_u j78_3; have oc := oc_316_109; by omega)) (by exact (have a0 := in_u j78_7; have a1 := in_u j78_5; have a2 := in_u j78_2; have a3 := in_u j78_1; have a4 := in_u ro_109_20; have a5 := in_u ro_109_19; have a6 := in_u i94; have a7 := in_u j92_6; have a8 := in_u ((in_c 0 rfl)); have a9 := in_u i103; have a10 := t_add e103 ro_109_19 i94 rfl; have a11 := in_u i239; have a12 := t_add e239 i94 (in_c (-1) rfl) rfl; have a13 := in_u ((in_c (-1) rfl)); have a14 := in_u j78_3; have oc := oc_316_109; by omega))), ← e112] at h1; exact h1 c113)
                have n92g : WRF sc92 (x1).toNatClampNeg (x2).toNatClampNeg (y78_4) := by exact g92_5
                have n92h : bt (y78_4) (x2).toNatClampNeg = true := by exact g92_6
                have n92i : WYI (gvZ s) (x2).toNatClampNeg (x3).toInt (x1).toNatClampNeg (y78_5).toNatClampNeg (y78_7).toNatClampNeg (y78_6).toInt := by exact g92_7
                have n92j : ∀ a : Nat, (z239).toInt < (a : Int) → a < 160 → WOK sc92 (y78_4) (y78_5).toNatClampNeg a → (y92_6).toInt ≤ (a : Int) := by exact wb_no g92_8 (by exact (have a0 := in_u j78_7; have a1 := in_u j78_5; have a2 := in_u j78_2; have a3 := in_u j78_1; have a4 := in_u ro_109_20; have a5 := in_u ro_109_19; have a6 := in_u i94; have a7 := in_u j92_6; have a8 := in_u ((in_c 0 rfl)); have a9 := in_u i103; have a10 := t_add e103 ro_109_19 i94 rfl; have a11 := in_u i239; have a12 := t_add e239 i94 (in_c (-1) rfl) rfl; have a13 := in_u ((in_c (-1) rfl)); have a14 := in_u j78_3; have oc := oc_316_109; by omega)) (by exact (have a0 := in_u j78_7; have a1 := in_u j78_5; have a2 := in_u j78_2; have a3 := in_u j78_1; have a4 := in_u ro_109_20; have a5 := in_u ro_109_19; have a6 := in_u i94; have a7 := in_u j92_6; have a8 := in_u ((in_c 0 rfl)); have a9 := in_u i103; have a10 := t_add e103 ro_109_19 i94 rfl; have a11 := in_u i239; have a12 := t_add e239 i94 (in_c (-1) rfl) rfl; have a13 := in_u ((in_c (-1) rfl)); have a14 := in_u j78_3; have oc := oc_316_109; by omega)) (fun hw => by have h1 := hw.1; rw [(bs_x (x := z103) (a := y92_8) (show u_109_19 = sc92.2.2.1 109 19 from fr_F e_109_19 hFc92 rfl) (by exact (have a0 := in_u j78_7; have a1 := in_u j78_5; have a2 := in_u j78_2; have a3 := in_u j78_1; have a4 := in_u ro_109_20; have a5 := in_u ro_109_19; have a6 := in_u i94; have a7 := in_u j92_6; have a8 := in_u ((in_c 0 rfl)); have a9 := in_u i103; have a10 := t_add e103 ro_109_19 i94 rfl; have a11 := in_u i239; have a12 := t_add e239 i94 (in_c (-1) rfl) rfl; have a13 := in_u ((in_c (-1) rfl)); have a14 := in_u j78_3; have oc := oc_316_109; by omega)) (by exact (have a0 := in_u j78_7; have a1 := in_u j78_5; have a2 := in_u j78_2; have a3 := in_u j78_1; have a4 := in_u ro_109_20; have a5 := in_u ro_109_19; have a6 := in_u i94; have a7 := in_u j92_6; have a8 := in_u ((in_c 0 rfl)); have a9 := in_u i103; have a10 := t_add e103 ro_109_19 i94 rfl; have a11 := in_u i239; have a12 := t_add e239 i94 (in_c (-1) rfl) rfl; have a13 := in_u ((in_c (-1) rfl)); have a14 := in_u j78_3; have oc := oc_316_109; by omega)) (by exact (have a0 := in_u j78_7; have a1 := in_u j78_5; have a2 := in_u j78_2; have a3 := in_u j78_1; have a4 := in_u ro_109_20; have a5 := in_u ro_109_19; have a6 := in_u i94; have a7 := in_u j92_6; have a8 := in_u ((in_c 0 rfl)); have a9 := in_u i103; have a10 := t_add e103 ro_109_19 i94 rfl; have a11 := in_u i239; have a12 := t_add e239 i94 (in_c (-1) rfl) rfl; have a13 := in_u ((in_c (-1) rfl)); have a14 := in_u j78_3; have oc := oc_316_109; by omega))), ← e112] at h1; exact h1 c113)
                have n92k : ((sc92).2.2.1 109 0).toInt = 0 := by exact g92_9
                have n92l : ((0 ≤ x1.toInt ∧ x1.toInt < (s.2.2.1 109 20).toInt) ∧ (0 ≤ x2.toInt ∧ x2.toInt < (s.2.2.1 109 20).toInt)) ∧ 0 ≤ x3.toInt := by exact g92_10
                exact gg_w (by first | exact Nat.le_add_right _ _ | exact gw2 | exact gw3 | exact gwe rfl | exact gwf rfl | exact gwg rfl | exact gwh rfl | omega) (gg_f (gf_cons rfl (gf_cons rfl (gf_cons rfl (gf_cons rfl (gf_cons rfl (gf_cons rfl (gf_cons rfl (gf_cons rfl (gf_cons rfl gf_nil))))))))) (ih92 sc92 y92_6 z239 hIc92 hFc92 (in_w (-1) 159 j92_6 rfl) (in_w (-1) 159 i239 rfl) nz92_4 n92 n92a n92b n92c n92d n92e n92f n92g n92h n92i n92j n92k n92l (m_dn mm92 (t_add e239 i94 (in_c (-1) rfl) rfl) (in_w (-1) (-1) (in_c (-1) rfl) rfl))))
              · skip
                exact zn_ne c171 (in_c 0 rfl) rfl
            · skip
              have i113 := z_ne 1 1 c113 i112 rfl
              refine g_aload_n 117 (gd rfl) rfl rfl ?_
              refine g_getA (q2 := 113) 120 (gd rfl) rfl rfl rfl rfl ?_
              refine g_iload 122 (gd rfl) rfl rfl ?_
              refine g_iaload 123 (gd rfl) rfl (n := 480) rfl (in_ix i103 rfl) (fun z122 e122 => ?_)
              have i122 := inv_I hIc92 (n := 480) (t := 0) 0 31 rfl (in_ix i103 rfl) rfl e122
              refine g_iload 125 (gd rfl) rfl rfl ?_
              refine g_cmp_ne 128 166 (gd rfl) rfl rfl (fun c125 => ?_) (fun c125 => ?_)
              · skip
                refine g_iconst 0 167 (gd rfl) rfl rfl ?_
                refine g_istore 169 (gd rfl) rfl (Nat.le_of_ble_eq_true rfl) ?_
                refine g_iload 171 (gd rfl) rfl rfl ?_
                refine g_if_eq 174 235 (gd rfl) rfl rfl (fun c171 => ?_) (fun c171 => ?_)
                · skip
                  refine g_iload 237 (gd rfl) rfl rfl ?_
                  refine g_istore 239 (gd rfl) rfl (Nat.le_of_ble_eq_true rfl) ?_
                  refine g_iinc 242 (gd rfl) rfl rfl (Nat.le_of_ble_eq_true rfl) (fun z239 e239 => ?_)
                  have i239 := in_add (-1) 158 e239 i94 (in_c (-1) rfl) rfl rfl
                  refine g_goto 92 (gd rfl) rfl ?_
                  have n92 : (y78_7).toInt ≤ (x3).toInt := by first | exact n92_0 | (exact (have a0 := in_u j78_7; have a1 := in_u j78_5; have a2 := in_u j78_2; have a3 := in_u j78_1; have a4 := in_u ro_109_20; have a5 := in_u ro_109_19; have a6 := in_u i94; have a7 := in_u j92_6; have a8 := in_u ((in_c 0 rfl)); have a9 := in_u i103; have a10 := t_add e103 ro_109_19 i94 rfl; have a11 := in_u i239; have a12 := t_add e239 i94 (in_c (-1) rfl) rfl; have a13 := in_u ((in_c (-1) rfl)); have a14 := in_u j78_3; have oc := oc_316_109; by omega))
                  have n92a : 0 ≤ (y78_7).toInt := by first | exact n78_0 | (exact (have a0 := in_u j78_7; have a1 := in_u j78_5; have a2 := in_u j78_2; have a3 := in_u j78_1; have a4 := in_u ro_109_20; have a5 := in_u ro_109_19; have a6 := in_u i94; have a7 := in_u j92_6; have a8 := in_u ((in_c 0 rfl)); have a9 := in_u i103; have a10 := t_add e103 ro_109_19 i94 rfl; have a11 := in_u i239; have a12 := t_add e239 i94 (in_c (-1) rfl) rfl; have a13 := in_u ((in_c (-1) rfl)); have a14 := in_u j78_3; have oc := oc_316_109; by omega))
                  have n92b : WFN sc92 (x2).toNatClampNeg (y78_4) := by exact g92_0
                  have n92c : bt (y78_4) (y78_5).toNatClampNeg = true := by exact g92_1
                  have n92d : (sc92.1 131 (y78_5).toNatClampNeg).toInt + (y78_7).toInt = (sc92.1 131 (x1).toNatClampNeg).toInt := by exact g92_2
                  have n92e : (x3).toInt < (sc92.1 131 (x1).toNatClampNeg).toInt ∧ (sc92.1 131 (x1).toNatClampNeg).toInt ≤ 1000 := by exact g92_3
                  have n92f : (∀ a : Nat, (z239).toInt < (a : Int) → a < 160 → WOK sc92 (y78_4) (y78_5).toNatClampNeg a → 0 ≤ (y92_6).toInt) ∧ (0 ≤ (y92_6).toInt → WOK sc92 (y78_4) (y78_5).toNatClampNeg (y92_6).toNatClampNeg) := by exact wa_no g92_4 (by exact (have a0 := in_u j78_7; have a1 := in_u j78_5; have a2 := in_u j78_2; have a3 := in_u j78_1; have a4 := in_u ro_109_20; have a5 := in_u ro_109_19; have a6 := in_u i94; have a7 := in_u j92_6; have a8 := in_u ((in_c 0 rfl)); have a9 := in_u i103; have a10 := t_add e103 ro_109_19 i94 rfl; have a11 := in_u i239; have a12 := t_add e239 i94 (in_c (-1) rfl) rfl; have a13 := in_u ((in_c (-1) rfl)); have a14 := in_u j78_3; have oc := oc_316_109; by omega)) (by exact (have a0 := in_u j78_7; have a1 := in_u j78_5; have a2 := in_u j78_2; have a3 := in_u j78_1; have a4 := in_u ro_109_20; have a5 := in_u ro_109_19; have a6 := in_u i94; have a7 := in_u j92_6; have a8 := in_u ((in_c 0 rfl)); have a9 := in_u i103; have a10 := t_add e103 ro_109_19 i94 rfl; have a11 := in_u i239; have a12 := t_add e239 i94 (in_c (-1) rfl) rfl; have a13 := in_u ((in_c (-1) rfl)); have a14 := in_u j78_3; have oc := oc_316_109; by omega)) (fun hw => by have h1 := hw.2.1; rw [(bs_x (x := z103) (a := y92_8) (show u_109_19 = sc92.2.2.1 109 19 from fr_F e_109_19 hFc92 rfl) (by exact (have a0 := in_u j78_7; have a1 := in_u j78_5; have a2 := in_u j78_2; have a3 := in_u j78_1; have a4 := in_u ro_109_20; have a5 := in_u ro_109_19; have a6 := in_u i94; have a7 := in_u j92_6; have a8 := in_u ((in_c 0 rfl)); have a9 := in_u i103; have a10 := t_add e103 ro_109_19 i94 rfl; have a11 := in_u i239; have a12 := t_add e239 i94 (in_c (-1) rfl) rfl; have a13 := in_u ((in_c (-1) rfl)); have a14 := in_u j78_3; have oc := oc_316_109; by omega)) (by exact (have a0 := in_u j78_7; have a1 := in_u j78_5; have a2 := in_u j78_2; have a3 := in_u j78_1; have a4 := in_u ro_109_20; have a5 := in_u ro_109_19; have a6 := in_u i94; have a7 := in_u j92_6; have a8 := in_u ((in_c 0 rfl)); have a9 := in_u i103; have a10 := t_add e103 ro_109_19 i94 rfl; have a11 := in_u i239; have a12 := t_add e239 i94 (in_c (-1) rfl) rfl; have a13 := in_u ((in_c (-1) rfl)); have a14 := in_u j78_3; have oc := oc_316_109; by omega)) (by exact (have a0 := in_u j78_7; have a1 := in_u j78_5; have a2 := in_u j78_2; have a3 := in_u j78_1; have a4 := in_u ro_109_20; have a5 := in_u ro_109_19; have a6 := in_u i94; have a7 := in_u j92_6; have a8 := in_u ((in_c 0 rfl)); have a9 := in_u i103; have a10 := t_add e103 ro_109_19 i94 rfl; have a11 := in_u i239; have a12 := t_add e239 i94 (in_c (-1) rfl) rfl; have a13 := in_u ((in_c (-1) rfl)); have a14 := in_u j78_3; have oc := oc_316_109; by omega))), ← e122] at h1; have r1 := i122; have r2 := j78_5; unfold In at r1 r2; have e5 : y78_5.toNatClampNeg = y78_5.toInt.toNat := rfl; have e6 : z122.toNatClampNeg = z122.toInt.toNat := rfl; have hc := c125; omega)
                  have n92g : WRF sc92 (x1).toNatClampNeg (x2).toNatClampNeg (y78_4) := by exact g92_5
                  have n92h : bt (y78_4) (x2).toNatClampNeg = true := by exact g92_6
                  have n92i : WYI (gvZ s) (x2).toNatClampNeg (x3).toInt (x1).toNatClampNeg (y78_5).toNatClampNeg (y78_7).toNatClampNeg (y78_6).toInt := by exact g92_7
                  have n92j : ∀ a : Nat, (z239).toInt < (a : Int) → a < 160 → WOK sc92 (y78_4) (y78_5).toNatClampNeg a → (y92_6).toInt ≤ (a : Int) := by exact wb_no g92_8 (by exact (have a0 := in_u j78_7; have a1 := in_u j78_5; have a2 := in_u j78_2; have a3 := in_u j78_1; have a4 := in_u ro_109_20; have a5 := in_u ro_109_19; have a6 := in_u i94; have a7 := in_u j92_6; have a8 := in_u ((in_c 0 rfl)); have a9 := in_u i103; have a10 := t_add e103 ro_109_19 i94 rfl; have a11 := in_u i239; have a12 := t_add e239 i94 (in_c (-1) rfl) rfl; have a13 := in_u ((in_c (-1) rfl)); have a14 := in_u j78_3; have oc := oc_316_109; by omega)) (by exact (have a0 := in_u j78_7; have a1 := in_u j78_5; have a2 := in_u j78_2; have a3 := in_u j78_1; have a4 := in_u ro_109_20; have a5 := in_u ro_109_19; have a6 := in_u i94; have a7 := in_u j92_6; have a8 := in_u ((in_c 0 rfl)); have a9 := in_u i103; have a10 := t_add e103 ro_109_19 i94 rfl; have a11 := in_u i239; have a12 := t_add e239 i94 (in_c (-1) rfl) rfl; have a13 := in_u ((in_c (-1) rfl)); have a14 := in_u j78_3; have oc := oc_316_109; by omega)) (fun hw => by have h1 := hw.2.1; rw [(bs_x (x := z103) (a := y92_8) (show u_109_19 = sc92.2.2.1 109 19 from fr_F e_109_19 hFc92 rfl) (by exact (have a0 := in_u j78_7; have a1 := in_u j78_5; have a2 := in_u j78_2; have a3 := in_u j78_1; have a4 := in_u ro_109_20; have a5 := in_u ro_109_19; have a6 := in_u i94; have a7 := in_u j92_6; have a8 := in_u ((in_c 0 rfl)); have a9 := in_u i103; have a10 := t_add e103 ro_109_19 i94 rfl; have a11 := in_u i239; have a12 := t_add e239 i94 (in_c (-1) rfl) rfl; have a13 := in_u ((in_c (-1) rfl)); have a14 := in_u j78_3; have oc := oc_316_109; by omega)) (by exact (have a0 := in_u j78_7; have a1 := in_u j78_5; have a2 := in_u j78_2; have a3 := in_u j78_1; have a4 := in_u ro_109_20; have a5 := in_u ro_109_19; have a6 := in_u i94; have a7 := in_u j92_6; have a8 := in_u ((in_c 0 rfl)); have a9 := in_u i103; have a10 := t_add e103 ro_109_19 i94 rfl; have a11 := in_u i239; have a12 := t_add e239 i94 (in_c (-1) rfl) rfl; have a13 := in_u ((in_c (-1) rfl)); have a14 := in_u j78_3; have oc := oc_316_109; by omega)) (by exact (have a0 := in_u j78_7; have a1 := in_u j78_5; have a2 := in_u j78_2; have a3 := in_u j78_1; have a4 := in_u ro_109_20; have a5 := in_u ro_109_19; have a6 := in_u i94; have a7 := in_u j92_6; have a8 := in_u ((in_c 0 rfl)); have a9 := in_u i103; have a10 := t_add e103 ro_109_19 i94 rfl; have a11 := in_u i239; have a12 := t_add e239 i94 (in_c (-1) rfl) rfl; have a13 := in_u ((in_c (-1) rfl)); have a14 := in_u j78_3; have oc := oc_316_109; by omega))), ← e122] at h1; have r1 := i122; have r2 := j78_5; unfold In at r1 r2; have e5 : y78_5.toNatClampNeg = y78_5.toInt.toNat := rfl; have e6 : z122.toNatClampNeg = z122.toInt.toNat := rfl; have hc := c125; omega)
                  have n92k : ((sc92).2.2.1 109 0).toInt = 0 := by exact g92_9
                  have n92l : ((0 ≤ x1.toInt ∧ x1.toInt < (s.2.2.1 109 20).toInt) ∧ (0 ≤ x2.toInt ∧ x2.toInt < (s.2.2.1 109 20).toInt)) ∧ 0 ≤ x3.toInt := by exact g92_10
                  exact gg_w (by first | exact Nat.le_add_right _ _ | exact gw2 | exact gw3 | exact gwe rfl | exact gwf rfl | exact gwg rfl | exact gwh rfl | omega) (gg_f (gf_cons rfl (gf_cons rfl (gf_cons rfl (gf_cons rfl (gf_cons rfl (gf_cons rfl (gf_cons rfl (gf_cons rfl (gf_cons rfl gf_nil))))))))) (ih92 sc92 y92_6 z239 hIc92 hFc92 (in_w (-1) 159 j92_6 rfl) (in_w (-1) 159 i239 rfl) nz92_4 n92 n92a n92b n92c n92d n92e n92f n92g n92h n92i n92j n92k n92l (m_dn mm92 (t_add e239 i94 (in_c (-1) rfl) rfl) (in_w (-1) (-1) (in_c (-1) rfl) rfl))))
                · skip
                  exact zn_ne c171 (in_c 0 rfl) rfl
              · skip
                refine g_iload 130 (gd rfl) rfl rfl ?_
                refine g_aload_n 131 (gd rfl) rfl rfl ?_
                refine g_getA (q2 := 114) 134 (gd rfl) rfl rfl rfl rfl ?_
                refine g_iload 136 (gd rfl) rfl rfl ?_
                refine g_iaload 137 (gd rfl) rfl (n := 480) rfl (in_ix i103 rfl) (fun z136 e136 => ?_)
                have i136 := inv_I hIc92 (n := 480) (t := 0) 0 31 rfl (in_ix i103 rfl) rfl e136
                refine g_calls (As := [.int y78_4, .int z136]) (r := []) 140 (gd rfl) rfl rfl rfl rfl rfl (Nat.le_of_ble_eq_true rfl) (mc := 0) (ms := 0) (Nat.zero_le _) (Nat.zero_le _) (P := fun v u => _) ?_ (fun v u h => h)
                intro po137 xx137 hp137 hx137
                refine g_enter2 (k := 311) (N := 300) (by first | exact dq1 hd rfl | exact dq0 hd rfl | exact dq2 hd rfl | exact dq3 hd rfl | omega) rfl (Nat.le_of_ble_eq_true rfl) ?_
                refine g_iload_n 1 (gd rfl) rfl rfl ?_
                refine g_iload_n 2 (gd rfl) rfl rfl ?_
                refine g_ishr 3 (gd rfl) rfl (fun z137x2 e137x2 => ?_)
                refine g_iconst 1 4 (gd rfl) rfl rfl ?_
                refine g_iand 5 (gd rfl) rfl (fun z137x4 e137x4 => ?_)
                have i137x4 := in_and2 e137x4 (in_c 1 rfl) rfl
                refine g_iconst 1 6 (gd rfl) rfl rfl ?_
                refine g_cmp_ne 9 13 (gd rfl) rfl rfl (fun c137x6 => ?_) (fun c137x6 => ?_)
                · skip
                  have i137x6 := r_ne1 0 0 c137x6 i137x4 (in_c 1 rfl) rfl
                  refine g_iconst 0 14 (gd rfl) rfl rfl ?_
                  refine g_ireturn (gd rfl) rfl (nb01 (in_w 0 1 (in_c 0 rfl) rfl)) (hp137 _ _ ?_)
                  show GG _ _ _ _ _ _ _ _ [.int (Int32.ofInt 0)] _ _ _
                  refine g_if_eq 143 166 (gd rfl) rfl rfl (fun c140 => ?_) (fun c140 => ?_)
                  · skip
                    refine g_iconst 0 167 (gd rfl) rfl rfl ?_
                    refine g_istore 169 (gd rfl) rfl (Nat.le_of_ble_eq_true rfl) ?_
                    refine g_iload 171 (gd rfl) rfl rfl ?_
                    refine g_if_eq 174 235 (gd rfl) rfl rfl (fun c171 => ?_) (fun c171 => ?_)
                    · skip
                      refine g_iload 237 (gd rfl) rfl rfl ?_
                      refine g_istore 239 (gd rfl) rfl (Nat.le_of_ble_eq_true rfl) ?_
                      refine g_iinc 242 (gd rfl) rfl rfl (Nat.le_of_ble_eq_true rfl) (fun z239 e239 => ?_)
                      have i239 := in_add (-1) 158 e239 i94 (in_c (-1) rfl) rfl rfl
                      refine g_goto 92 (gd rfl) rfl ?_
                      have n92 : (y78_7).toInt ≤ (x3).toInt := by first | exact n92_0 | (exact (have a0 := in_u j78_7; have a1 := in_u j78_5; have a2 := in_u j78_2; have a3 := in_u j78_1; have a4 := in_u ro_109_20; have a5 := in_u ro_109_19; have a6 := in_u i94; have a7 := in_u j92_6; have a8 := in_u ((in_c 0 rfl)); have a9 := in_u i103; have a10 := t_add e103 ro_109_19 i94 rfl; have a11 := in_u i239; have a12 := t_add e239 i94 (in_c (-1) rfl) rfl; have a13 := in_u ((in_c (-1) rfl)); have a14 := in_u j78_3; have oc := oc_316_109; by omega))
                      have n92a : 0 ≤ (y78_7).toInt := by first | exact n78_0 | (exact (have a0 := in_u j78_7; have a1 := in_u j78_5; have a2 := in_u j78_2; have a3 := in_u j78_1; have a4 := in_u ro_109_20; have a5 := in_u ro_109_19; have a6 := in_u i94; have a7 := in_u j92_6; have a8 := in_u ((in_c 0 rfl)); have a9 := in_u i103; have a10 := t_add e103 ro_109_19 i94 rfl; have a11 := in_u i239; have a12 := t_add e239 i94 (in_c (-1) rfl) rfl; have a13 := in_u ((in_c (-1) rfl)); have a14 := in_u j78_3; have oc := oc_316_109; by omega))
                      have n92b : WFN sc92 (x2).toNatClampNeg (y78_4) := by exact g92_0
                      have n92c : bt (y78_4) (y78_5).toNatClampNeg = true := by exact g92_1
                      have n92d : (sc92.1 131 (y78_5).toNatClampNeg).toInt + (y78_7).toInt = (sc92.1 131 (x1).toNatClampNeg).toInt := by exact g92_2
                      have n92e : (x3).toInt < (sc92.1 131 (x1).toNatClampNeg).toInt ∧ (sc92.1 131 (x1).toNatClampNeg).toInt ≤ 1000 := by exact g92_3
                      have n92f : (∀ a : Nat, (z239).toInt < (a : Int) → a < 160 → WOK sc92 (y78_4) (y78_5).toNatClampNeg a → 0 ≤ (y92_6).toInt) ∧ (0 ≤ (y92_6).toInt → WOK sc92 (y78_4) (y78_5).toNatClampNeg (y92_6).toNatClampNeg) := by exact wa_no g92_4 (by exact (have a0 := in_u j78_7; have a1 := in_u j78_5; have a2 := in_u j78_2; have a3 := in_u j78_1; have a4 := in_u ro_109_20; have a5 := in_u ro_109_19; have a6 := in_u i94; have a7 := in_u j92_6; have a8 := in_u ((in_c 0 rfl)); have a9 := in_u i103; have a10 := t_add e103 ro_109_19 i94 rfl; have a11 := in_u i239; have a12 := t_add e239 i94 (in_c (-1) rfl) rfl; have a13 := in_u ((in_c (-1) rfl)); have a14 := in_u j78_3; have oc := oc_316_109; by omega)) (by exact (have a0 := in_u j78_7; have a1 := in_u j78_5; have a2 := in_u j78_2; have a3 := in_u j78_1; have a4 := in_u ro_109_20; have a5 := in_u ro_109_19; have a6 := in_u i94; have a7 := in_u j92_6; have a8 := in_u ((in_c 0 rfl)); have a9 := in_u i103; have a10 := t_add e103 ro_109_19 i94 rfl; have a11 := in_u i239; have a12 := t_add e239 i94 (in_c (-1) rfl) rfl; have a13 := in_u ((in_c (-1) rfl)); have a14 := in_u j78_3; have oc := oc_316_109; by omega)) (fun hw => by have h1 := hw.2.2.1; have hb := bt_no e137x2 e137x4 i136 c137x6; rw [(bs_x (x := z103) (a := y92_8) (show u_109_19 = sc92.2.2.1 109 19 from fr_F e_109_19 hFc92 rfl) (by exact (have a0 := in_u j78_7; have a1 := in_u j78_5; have a2 := in_u j78_2; have a3 := in_u j78_1; have a4 := in_u ro_109_20; have a5 := in_u ro_109_19; have a6 := in_u i94; have a7 := in_u j92_6; have a8 := in_u ((in_c 0 rfl)); have a9 := in_u i103; have a10 := t_add e103 ro_109_19 i94 rfl; have a11 := in_u i239; have a12 := t_add e239 i94 (in_c (-1) rfl) rfl; have a13 := in_u ((in_c (-1) rfl)); have a14 := in_u j78_3; have oc := oc_316_109; by omega)) (by exact (have a0 := in_u j78_7; have a1 := in_u j78_5; have a2 := in_u j78_2; have a3 := in_u j78_1; have a4 := in_u ro_109_20; have a5 := in_u ro_109_19; have a6 := in_u i94; have a7 := in_u j92_6; have a8 := in_u ((in_c 0 rfl)); have a9 := in_u i103; have a10 := t_add e103 ro_109_19 i94 rfl; have a11 := in_u i239; have a12 := t_add e239 i94 (in_c (-1) rfl) rfl; have a13 := in_u ((in_c (-1) rfl)); have a14 := in_u j78_3; have oc := oc_316_109; by omega)) (by exact (have a0 := in_u j78_7; have a1 := in_u j78_5; have a2 := in_u j78_2; have a3 := in_u j78_1; have a4 := in_u ro_109_20; have a5 := in_u ro_109_19; have a6 := in_u i94; have a7 := in_u j92_6; have a8 := in_u ((in_c 0 rfl)); have a9 := in_u i103; have a10 := t_add e103 ro_109_19 i94 rfl; have a11 := in_u i239; have a12 := t_add e239 i94 (in_c (-1) rfl) rfl; have a13 := in_u ((in_c (-1) rfl)); have a14 := in_u j78_3; have oc := oc_316_109; by omega))), ← e136, hb] at h1; cases h1)
                      have n92g : WRF sc92 (x1).toNatClampNeg (x2).toNatClampNeg (y78_4) := by exact g92_5
                      have n92h : bt (y78_4) (x2).toNatClampNeg = true := by exact g92_6
                      have n92i : WYI (gvZ s) (x2).toNatClampNeg (x3).toInt (x1).toNatClampNeg (y78_5).toNatClampNeg (y78_7).toNatClampNeg (y78_6).toInt := by exact g92_7
                      have n92j : ∀ a : Nat, (z239).toInt < (a : Int) → a < 160 → WOK sc92 (y78_4) (y78_5).toNatClampNeg a → (y92_6).toInt ≤ (a : Int) := by exact wb_no g92_8 (by exact (have a0 := in_u j78_7; have a1 := in_u j78_5; have a2 := in_u j78_2; have a3 := in_u j78_1; have a4 := in_u ro_109_20; have a5 := in_u ro_109_19; have a6 := in_u i94; have a7 := in_u j92_6; have a8 := in_u ((in_c 0 rfl)); have a9 := in_u i103; have a10 := t_add e103 ro_109_19 i94 rfl; have a11 := in_u i239; have a12 := t_add e239 i94 (in_c (-1) rfl) rfl; have a13 := in_u ((in_c (-1) rfl)); have a14 := in_u j78_3; have oc := oc_316_109; by omega)) (by exact (have a0 := in_u j78_7; have a1 := in_u j78_5; have a2 := in_u j78_2; have a3 := in_u j78_1; have a4 := in_u ro_109_20; have a5 := in_u ro_109_19; have a6 := in_u i94; have a7 := in_u j92_6; have a8 := in_u ((in_c 0 rfl)); have a9 := in_u i103; have a10 := t_add e103 ro_109_19 i94 rfl; have a11 := in_u i239; have a12 := t_add e239 i94 (in_c (-1) rfl) rfl; have a13 := in_u ((in_c (-1) rfl)); have a14 := in_u j78_3; have oc := oc_316_109; by omega)) (fun hw => by have h1 := hw.2.2.1; have hb := bt_no e137x2 e137x4 i136 c137x6; rw [(bs_x (x := z103) (a := y92_8) (show u_109_19 = sc92.2.2.1 109 19 from fr_F e_109_19 hFc92 rfl) (by exact (have a0 := in_u j78_7; have a1 := in_u j78_5; have a2 := in_u j78_2; have a3 := in_u j78_1; have a4 := in_u ro_109_20; have a5 := in_u ro_109_19; have a6 := in_u i94; have a7 := in_u j92_6; have a8 := in_u ((in_c 0 rfl)); have a9 := in_u i103; have a10 := t_add e103 ro_109_19 i94 rfl; have a11 := in_u i239; have a12 := t_add e239 i94 (in_c (-1) rfl) rfl; have a13 := in_u ((in_c (-1) rfl)); have a14 := in_u j78_3; have oc := oc_316_109; by omega)) (by exact (have a0 := in_u j78_7; have a1 := in_u j78_5; have a2 := in_u j78_2; have a3 := in_u j78_1; have a4 := in_u ro_109_20; have a5 := in_u ro_109_19; have a6 := in_u i94; have a7 := in_u j92_6; have a8 := in_u ((in_c 0 rfl)); have a9 := in_u i103; have a10 := t_add e103 ro_109_19 i94 rfl; have a11 := in_u i239; have a12 := t_add e239 i94 (in_c (-1) rfl) rfl; have a13 := in_u ((in_c (-1) rfl)); have a14 := in_u j78_3; have oc := oc_316_109; by omega)) (by exact (have a0 := in_u j78_7; have a1 := in_u j78_5; have a2 := in_u j78_2; have a3 := in_u j78_1; have a4 := in_u ro_109_20; have a5 := in_u ro_109_19; have a6 := in_u i94; have a7 := in_u j92_6; have a8 := in_u ((in_c 0 rfl)); have a9 := in_u i103; have a10 := t_add e103 ro_109_19 i94 rfl; have a11 := in_u i239; have a12 := t_add e239 i94 (in_c (-1) rfl) rfl; have a13 := in_u ((in_c (-1) rfl)); have a14 := in_u j78_3; have oc := oc_316_109; by omega))), ← e136, hb] at h1; cases h1)
                      have n92k : ((sc92).2.2.1 109 0).toInt = 0 := by exact g92_9
                      have n92l : ((0 ≤ x1.toInt ∧ x1.toInt < (s.2.2.1 109 20).toInt) ∧ (0 ≤ x2.toInt ∧ x2.toInt < (s.2.2.1 109 20).toInt)) ∧ 0 ≤ x3.toInt := by exact g92_10
                      exact gg_w (by first | exact Nat.le_add_right _ _ | exact gw2 | exact gw3 | exact gwe rfl | exact gwf rfl | exact gwg rfl | exact gwh rfl | omega) (gg_f (gf_cons rfl (gf_cons rfl (gf_cons rfl (gf_cons rfl (gf_cons rfl (gf_cons rfl (gf_cons rfl (gf_cons rfl (gf_cons rfl gf_nil))))))))) (ih92 sc92 y92_6 z239 hIc92 hFc92 (in_w (-1) 159 j92_6 rfl) (in_w (-1) 159 i239 rfl) nz92_4 n92 n92a n92b n92c n92d n92e n92f n92g n92h n92i n92j n92k n92l (m_dn mm92 (t_add e239 i94 (in_c (-1) rfl) rfl) (in_w (-1) (-1) (in_c (-1) rfl) rfl))))
                    · skip
                      exact zn_ne c171 (in_c 0 rfl) rfl
                  · skip
                    exact zn_ne c140 (in_c 0 rfl) rfl
                · skip
                  have i137x6 := r_eq1 1 1 c137x6 i137x4 (in_c 1 rfl) rfl
                  refine g_iconst 1 10 (gd rfl) rfl rfl ?_
                  refine g_goto 14 (gd rfl) rfl ?_
                  refine g_ireturn (gd rfl) rfl (nb01 (in_w 0 1 (in_c 1 rfl) rfl)) (hp137 _ _ ?_)
                  show GG _ _ _ _ _ _ _ _ [.int (Int32.ofInt 1)] _ _ _
                  refine g_if_eq 143 166 (gd rfl) rfl rfl (fun c140 => ?_) (fun c140 => ?_)
                  · skip
                    exact zn_eq c140 (in_c 1 rfl) rfl
                  · skip
                    refine g_aload_n 144 (gd rfl) rfl rfl ?_
                    refine g_getA (q2 := 130) 147 (gd rfl) rfl rfl rfl rfl ?_
                    refine g_aload_n 148 (gd rfl) rfl rfl ?_
                    refine g_getA (q2 := 114) 151 (gd rfl) rfl rfl rfl rfl ?_
                    refine g_iload 153 (gd rfl) rfl rfl ?_
                    refine g_iaload 154 (gd rfl) rfl (n := 480) rfl (in_ix i103 rfl) (fun z153 e153 => ?_)
                    have q153 : z136 = z153 := (e136).trans e153.symm
                    subst q153
                    refine g_laload 155 (gd rfl) rfl (n := 32) rfl (in_ix i136 rfl) (fun z154 e154 => ?_)
                    refine g_ldc2_w 9000000000000000 158 (gd rfl) rfl rfl ?_
                    refine g_lcmp 159 (gd rfl) rfl (fun z158 e158 => ?_)
                    have i158 := lc_in e158
                    refine g_if_ge 162 166 (gd rfl) rfl rfl (fun c159 => ?_) (fun c159 => ?_)
                    · skip
                      have i159 := z_ge 0 1 c159 i158 rfl
                      have c159a := lc_ge e158 c159
                      have i159a := lr_le2 9000000000000000 9223372036854775807 c159a (l_c 9000000000000000 rfl) (l_rng z154) rfl
                      refine g_iconst 0 167 (gd rfl) rfl rfl ?_
                      refine g_istore 169 (gd rfl) rfl (Nat.le_of_ble_eq_true rfl) ?_
                      refine g_iload 171 (gd rfl) rfl rfl ?_
                      refine g_if_eq 174 235 (gd rfl) rfl rfl (fun c171 => ?_) (fun c171 => ?_)
                      · skip
                        refine g_iload 237 (gd rfl) rfl rfl ?_
                        refine g_istore 239 (gd rfl) rfl (Nat.le_of_ble_eq_true rfl) ?_
                        refine g_iinc 242 (gd rfl) rfl rfl (Nat.le_of_ble_eq_true rfl) (fun z239 e239 => ?_)
                        have i239 := in_add (-1) 158 e239 i94 (in_c (-1) rfl) rfl rfl
                        refine g_goto 92 (gd rfl) rfl ?_
                        have n92 : (y78_7).toInt ≤ (x3).toInt := by first | exact n92_0 | (exact (have a0 := in_u j78_7; have a1 := in_u j78_5; have a2 := in_u j78_2; have a3 := in_u j78_1; have a4 := in_u ro_109_20; have a5 := in_u ro_109_19; have a6 := in_u i94; have a7 := in_u j92_6; have a8 := in_u ((in_c 0 rfl)); have a9 := in_u i103; have a10 := t_add e103 ro_109_19 i94 rfl; have a11 := in_u i239; have a12 := t_add e239 i94 (in_c (-1) rfl) rfl; have a13 := in_u ((in_c (-1) rfl)); have a14 := in_u j78_3; have oc := oc_316_109; by omega))
                        have n92a : 0 ≤ (y78_7).toInt := by first | exact n78_0 | (exact (have a0 := in_u j78_7; have a1 := in_u j78_5; have a2 := in_u j78_2; have a3 := in_u j78_1; have a4 := in_u ro_109_20; have a5 := in_u ro_109_19; have a6 := in_u i94; have a7 := in_u j92_6; have a8 := in_u ((in_c 0 rfl)); have a9 := in_u i103; have a10 := t_add e103 ro_109_19 i94 rfl; have a11 := in_u i239; have a12 := t_add e239 i94 (in_c (-1) rfl) rfl; have a13 := in_u ((in_c (-1) rfl)); have a14 := in_u j78_3; have oc := oc_316_109; by omega))
                        have n92b : WFN sc92 (x2).toNatClampNeg (y78_4) := by exact g92_0
                        have n92c : bt (y78_4) (y78_5).toNatClampNeg = true := by exact g92_1
                        have n92d : (sc92.1 131 (y78_5).toNatClampNeg).toInt + (y78_7).toInt = (sc92.1 131 (x1).toNatClampNeg).toInt := by exact g92_2
                        have n92e : (x3).toInt < (sc92.1 131 (x1).toNatClampNeg).toInt ∧ (sc92.1 131 (x1).toNatClampNeg).toInt ≤ 1000 := by exact g92_3
                        have n92f : (∀ a : Nat, (z239).toInt < (a : Int) → a < 160 → WOK sc92 (y78_4) (y78_5).toNatClampNeg a → 0 ≤ (y92_6).toInt) ∧ (0 ≤ (y92_6).toInt → WOK sc92 (y78_4) (y78_5).toNatClampNeg (y92_6).toNatClampNeg) := by exact wa_no g92_4 (by exact (have a0 := in_u j78_7; have a1 := in_u j78_5; have a2 := in_u j78_2; have a3 := in_u j78_1; have a4 := in_u ro_109_20; have a5 := in_u ro_109_19; have a6 := in_u i94; have a7 := in_u j92_6; have a8 := in_u ((in_c 0 rfl)); have a9 := in_u i103; have a10 := t_add e103 ro_109_19 i94 rfl; have a11 := in_u i239; have a12 := t_add e239 i94 (in_c (-1) rfl) rfl; have a13 := in_u ((in_c (-1) rfl)); have a14 := in_u j78_3; have oc := oc_316_109; by omega)) (by exact (have a0 := in_u j78_7; have a1 := in_u j78_5; have a2 := in_u j78_2; have a3 := in_u j78_1; have a4 := in_u ro_109_20; have a5 := in_u ro_109_19; have a6 := in_u i94; have a7 := in_u j92_6; have a8 := in_u ((in_c 0 rfl)); have a9 := in_u i103; have a10 := t_add e103 ro_109_19 i94 rfl; have a11 := in_u i239; have a12 := t_add e239 i94 (in_c (-1) rfl) rfl; have a13 := in_u ((in_c (-1) rfl)); have a14 := in_u j78_3; have oc := oc_316_109; by omega)) (fun hw => by have h1 := hw.2.2.2.1; rw [(bs_x (x := z103) (a := y92_8) (show u_109_19 = sc92.2.2.1 109 19 from fr_F e_109_19 hFc92 rfl) (by exact (have a0 := in_u j78_7; have a1 := in_u j78_5; have a2 := in_u j78_2; have a3 := in_u j78_1; have a4 := in_u ro_109_20; have a5 := in_u ro_109_19; have a6 := in_u i94; have a7 := in_u j92_6; have a8 := in_u ((in_c 0 rfl)); have a9 := in_u i103; have a10 := t_add e103 ro_109_19 i94 rfl; have a11 := in_u i239; have a12 := t_add e239 i94 (in_c (-1) rfl) rfl; have a13 := in_u ((in_c (-1) rfl)); have a14 := in_u j78_3; have oc := oc_316_109; by omega)) (by exact (have a0 := in_u j78_7; have a1 := in_u j78_5; have a2 := in_u j78_2; have a3 := in_u j78_1; have a4 := in_u ro_109_20; have a5 := in_u ro_109_19; have a6 := in_u i94; have a7 := in_u j92_6; have a8 := in_u ((in_c 0 rfl)); have a9 := in_u i103; have a10 := t_add e103 ro_109_19 i94 rfl; have a11 := in_u i239; have a12 := t_add e239 i94 (in_c (-1) rfl) rfl; have a13 := in_u ((in_c (-1) rfl)); have a14 := in_u j78_3; have oc := oc_316_109; by omega)) (by exact (have a0 := in_u j78_7; have a1 := in_u j78_5; have a2 := in_u j78_2; have a3 := in_u j78_1; have a4 := in_u ro_109_20; have a5 := in_u ro_109_19; have a6 := in_u i94; have a7 := in_u j92_6; have a8 := in_u ((in_c 0 rfl)); have a9 := in_u i103; have a10 := t_add e103 ro_109_19 i94 rfl; have a11 := in_u i239; have a12 := t_add e239 i94 (in_c (-1) rfl) rfl; have a13 := in_u ((in_c (-1) rfl)); have a14 := in_u j78_3; have oc := oc_316_109; by omega))), ← e136, ← e154] at h1; have h := i159a.1; omega)
                        have n92g : WRF sc92 (x1).toNatClampNeg (x2).toNatClampNeg (y78_4) := by exact g92_5
                        have n92h : bt (y78_4) (x2).toNatClampNeg = true := by exact g92_6
                        have n92i : WYI (gvZ s) (x2).toNatClampNeg (x3).toInt (x1).toNatClampNeg (y78_5).toNatClampNeg (y78_7).toNatClampNeg (y78_6).toInt := by exact g92_7
                        have n92j : ∀ a : Nat, (z239).toInt < (a : Int) → a < 160 → WOK sc92 (y78_4) (y78_5).toNatClampNeg a → (y92_6).toInt ≤ (a : Int) := by exact wb_no g92_8 (by exact (have a0 := in_u j78_7; have a1 := in_u j78_5; have a2 := in_u j78_2; have a3 := in_u j78_1; have a4 := in_u ro_109_20; have a5 := in_u ro_109_19; have a6 := in_u i94; have a7 := in_u j92_6; have a8 := in_u ((in_c 0 rfl)); have a9 := in_u i103; have a10 := t_add e103 ro_109_19 i94 rfl; have a11 := in_u i239; have a12 := t_add e239 i94 (in_c (-1) rfl) rfl; have a13 := in_u ((in_c (-1) rfl)); have a14 := in_u j78_3; have oc := oc_316_109; by omega)) (by exact (have a0 := in_u j78_7; have a1 := in_u j78_5; have a2 := in_u j78_2; have a3 := in_u j78_1; have a4 := in_u ro_109_20; have a5 := in_u ro_109_19; have a6 := in_u i94; have a7 := in_u j92_6; have a8 := in_u ((in_c 0 rfl)); have a9 := in_u i103; have a10 := t_add e103 ro_109_19 i94 rfl; have a11 := in_u i239; have a12 := t_add e239 i94 (in_c (-1) rfl) rfl; have a13 := in_u ((in_c (-1) rfl)); have a14 := in_u j78_3; have oc := oc_316_109; by omega)) (fun hw => by have h1 := hw.2.2.2.1; rw [(bs_x (x := z103) (a := y92_8) (show u_109_19 = sc92.2.2.1 109 19 from fr_F e_109_19 hFc92 rfl) (by exact (have a0 := in_u j78_7; have a1 := in_u j78_5; have a2 := in_u j78_2; have a3 := in_u j78_1; have a4 := in_u ro_109_20; have a5 := in_u ro_109_19; have a6 := in_u i94; have a7 := in_u j92_6; have a8 := in_u ((in_c 0 rfl)); have a9 := in_u i103; have a10 := t_add e103 ro_109_19 i94 rfl; have a11 := in_u i239; have a12 := t_add e239 i94 (in_c (-1) rfl) rfl; have a13 := in_u ((in_c (-1) rfl)); have a14 := in_u j78_3; have oc := oc_316_109; by omega)) (by exact (have a0 := in_u j78_7; have a1 := in_u j78_5; have a2 := in_u j78_2; have a3 := in_u j78_1; have a4 := in_u ro_109_20; have a5 := in_u ro_109_19; have a6 := in_u i94; have a7 := in_u j92_6; have a8 := in_u ((in_c 0 rfl)); have a9 := in_u i103; have a10 := t_add e103 ro_109_19 i94 rfl; have a11 := in_u i239; have a12 := t_add e239 i94 (in_c (-1) rfl) rfl; have a13 := in_u ((in_c (-1) rfl)); have a14 := in_u j78_3; have oc := oc_316_109; by omega)) (by exact (have a0 := in_u j78_7; have a1 := in_u j78_5; have a2 := in_u j78_2; have a3 := in_u j78_1; have a4 := in_u ro_109_20; have a5 := in_u ro_109_19; have a6 := in_u i94; have a7 := in_u j92_6; have a8 := in_u ((in_c 0 rfl)); have a9 := in_u i103; have a10 := t_add e103 ro_109_19 i94 rfl; have a11 := in_u i239; have a12 := t_add e239 i94 (in_c (-1) rfl) rfl; have a13 := in_u ((in_c (-1) rfl)); have a14 := in_u j78_3; have oc := oc_316_109; by omega))), ← e136, ← e154] at h1; have h := i159a.1; omega)
                        have n92k : ((sc92).2.2.1 109 0).toInt = 0 := by exact g92_9
                        have n92l : ((0 ≤ x1.toInt ∧ x1.toInt < (s.2.2.1 109 20).toInt) ∧ (0 ≤ x2.toInt ∧ x2.toInt < (s.2.2.1 109 20).toInt)) ∧ 0 ≤ x3.toInt := by exact g92_10
                        exact gg_w (by first | exact Nat.le_add_right _ _ | exact gw2 | exact gw3 | exact gwe rfl | exact gwf rfl | exact gwg rfl | exact gwh rfl | omega) (gg_f (gf_cons rfl (gf_cons rfl (gf_cons rfl (gf_cons rfl (gf_cons rfl (gf_cons rfl (gf_cons rfl (gf_cons rfl (gf_cons rfl gf_nil))))))))) (ih92 sc92 y92_6 z239 hIc92 hFc92 (in_w (-1) 159 j92_6 rfl) (in_w (-1) 159 i239 rfl) nz92_4 n92 n92a n92b n92c n92d n92e n92f n92g n92h n92i n92j n92k n92l (m_dn mm92 (t_add e239 i94 (in_c (-1) rfl) rfl) (in_w (-1) (-1) (in_c (-1) rfl) rfl))))
                      · skip
                        exact zn_ne c171 (in_c 0 rfl) rfl
                    · skip
                      have i159 := z_lt (-1) (-1) c159 i158 rfl
                      have c159a := lc_lt e158 c159
                      have i159a := lr_lt1 (-9223372036854775808) 8999999999999999 c159a (l_rng z154) (l_c 9000000000000000 rfl) rfl
                      refine g_iconst 1 163 (gd rfl) rfl rfl ?_
                      refine g_goto 167 (gd rfl) rfl ?_
                      refine g_istore 169 (gd rfl) rfl (Nat.le_of_ble_eq_true rfl) ?_
                      refine g_iload 171 (gd rfl) rfl rfl ?_
                      refine g_if_eq 174 235 (gd rfl) rfl rfl (fun c171 => ?_) (fun c171 => ?_)
                      · skip
                        exact zn_eq c171 (in_c 1 rfl) rfl
                      · skip
                        refine g_aload_n 175 (gd rfl) rfl rfl ?_
                        refine g_getA (q2 := 130) 178 (gd rfl) rfl rfl rfl rfl ?_
                        refine g_iload 180 (gd rfl) rfl rfl ?_
                        refine g_laload 181 (gd rfl) rfl (n := 32) rfl (in_ix j78_5 rfl) (fun z180 e180 => ?_)
                        refine g_aload_n 182 (gd rfl) rfl rfl ?_
                        refine g_getA (q2 := 130) 185 (gd rfl) rfl rfl rfl rfl ?_
                        refine g_aload_n 186 (gd rfl) rfl rfl ?_
                        refine g_getA (q2 := 114) 189 (gd rfl) rfl rfl rfl rfl ?_
                        refine g_iload 191 (gd rfl) rfl rfl ?_
                        refine g_iaload 192 (gd rfl) rfl (n := 480) rfl (in_ix i103 rfl) (fun z191 e191 => ?_)
                        have q191 : z136 = z191 := (e136).trans e191.symm
                        subst q191
                        refine g_laload 193 (gd rfl) rfl (n := 32) rfl (in_ix i136 rfl) (fun z192 e192 => ?_)
                        refine g_aload_n 194 (gd rfl) rfl rfl ?_
                        refine g_getA (q2 := 115) 197 (gd rfl) rfl rfl rfl rfl ?_
                        refine g_iload 199 (gd rfl) rfl rfl ?_
                        refine g_iaload 200 (gd rfl) rfl (n := 480) rfl (in_ix i103 rfl) (fun z199 e199 => ?_)
                        have i199 := inv_I hIc92 (n := 480) (t := 0) (-1000000) 1000000 rfl (in_ix i103 rfl) rfl e199
                        refine g_i2l 201 (gd rfl) rfl (fun z200 e200 => ?_)
                        have i200 := l_i e200 i199
                        refine g_ladd 202 (gd rfl) rfl (fun z201 e201 => ?_)
                        refine g_lcmp 203 (gd rfl) rfl (fun z202 e202 => ?_)
                        have i202 := lc_in e202
                        refine g_if_ne 206 235 (gd rfl) rfl rfl (fun c203 => ?_) (fun c203 => ?_)
                        · skip
                          have c203a := lc_ne e202 c203
                          refine g_iload 237 (gd rfl) rfl rfl ?_
                          refine g_istore 239 (gd rfl) rfl (Nat.le_of_ble_eq_true rfl) ?_
                          refine g_iinc 242 (gd rfl) rfl rfl (Nat.le_of_ble_eq_true rfl) (fun z239 e239 => ?_)
                          have i239 := in_add (-1) 158 e239 i94 (in_c (-1) rfl) rfl rfl
                          refine g_goto 92 (gd rfl) rfl ?_
                          have n92 : (y78_7).toInt ≤ (x3).toInt := by first | exact n92_0 | (exact (have a0 := in_u j78_7; have a1 := in_u j78_5; have a2 := in_u j78_2; have a3 := in_u j78_1; have a4 := in_u ro_109_20; have a5 := in_u ro_109_19; have a6 := in_u i94; have a7 := in_u j92_6; have a8 := in_u ((in_c 1 rfl)); have a9 := in_u i103; have a10 := t_add e103 ro_109_19 i94 rfl; have a11 := in_u i239; have a12 := t_add e239 i94 (in_c (-1) rfl) rfl; have a13 := in_u ((in_c (-1) rfl)); have a14 := in_u j78_3; have a15 := tx_i2l e200; have a16 := in_u i199; have oc := oc_316_109; by omega))
                          have n92a : 0 ≤ (y78_7).toInt := by first | exact n78_0 | (exact (have a0 := in_u j78_7; have a1 := in_u j78_5; have a2 := in_u j78_2; have a3 := in_u j78_1; have a4 := in_u ro_109_20; have a5 := in_u ro_109_19; have a6 := in_u i94; have a7 := in_u j92_6; have a8 := in_u ((in_c 1 rfl)); have a9 := in_u i103; have a10 := t_add e103 ro_109_19 i94 rfl; have a11 := in_u i239; have a12 := t_add e239 i94 (in_c (-1) rfl) rfl; have a13 := in_u ((in_c (-1) rfl)); have a14 := in_u j78_3; have a15 := tx_i2l e200; have a16 := in_u i199; have oc := oc_316_109; by omega))
                          have n92b : WFN sc92 (x2).toNatClampNeg (y78_4) := by exact g92_0
                          have n92c : bt (y78_4) (y78_5).toNatClampNeg = true := by exact g92_1
                          have n92d : (sc92.1 131 (y78_5).toNatClampNeg).toInt + (y78_7).toInt = (sc92.1 131 (x1).toNatClampNeg).toInt := by exact g92_2
                          have n92e : (x3).toInt < (sc92.1 131 (x1).toNatClampNeg).toInt ∧ (sc92.1 131 (x1).toNatClampNeg).toInt ≤ 1000 := by exact g92_3
                          have n92f : (∀ a : Nat, (z239).toInt < (a : Int) → a < 160 → WOK sc92 (y78_4) (y78_5).toNatClampNeg a → 0 ≤ (y92_6).toInt) ∧ (0 ≤ (y92_6).toInt → WOK sc92 (y78_4) (y78_5).toNatClampNeg (y92_6).toNatClampNeg) := by exact wa_no g92_4 (by exact (have a0 := in_u j78_7; have a1 := in_u j78_5; have a2 := in_u j78_2; have a3 := in_u j78_1; have a4 := in_u ro_109_20; have a5 := in_u ro_109_19; have a6 := in_u i94; have a7 := in_u j92_6; have a8 := in_u ((in_c 1 rfl)); have a9 := in_u i103; have a10 := t_add e103 ro_109_19 i94 rfl; have a11 := in_u i239; have a12 := t_add e239 i94 (in_c (-1) rfl) rfl; have a13 := in_u ((in_c (-1) rfl)); have a14 := in_u j78_3; have a15 := tx_i2l e200; have a16 := in_u i199; have oc := oc_316_109; by omega)) (by exact (have a0 := in_u j78_7; have a1 := in_u j78_5; have a2 := in_u j78_2; have a3 := in_u j78_1; have a4 := in_u ro_109_20; have a5 := in_u ro_109_19; have a6 := in_u i94; have a7 := in_u j92_6; have a8 := in_u ((in_c 1 rfl)); have a9 := in_u i103; have a10 := t_add e103 ro_109_19 i94 rfl; have a11 := in_u i239; have a12 := t_add e239 i94 (in_c (-1) rfl) rfl; have a13 := in_u ((in_c (-1) rfl)); have a14 := in_u j78_3; have a15 := tx_i2l e200; have a16 := in_u i199; have oc := oc_316_109; by omega)) (fun hw => by have hto := g92_0 z136.toNatClampNeg (bt_yes e137x2 e137x4 i136 c137x6); have hbd := hto.2.1; rw [← e192] at hbd; have hz201 : z201.toInt = z192.toInt + z199.toInt := (by have hw9 := i199; unfold In at hw9; rw [ladd_t e201 (by rw [tx_i2l e200]; omega) (by rw [tx_i2l e200]; omega), tx_i2l e200]); have h1 := hw.2.2.2.2.1; rw [(bs_x (x := z103) (a := y92_8) (show u_109_19 = sc92.2.2.1 109 19 from fr_F e_109_19 hFc92 rfl) (by exact (have a0 := in_u j78_7; have a1 := in_u j78_5; have a2 := in_u j78_2; have a3 := in_u j78_1; have a4 := in_u ro_109_20; have a5 := in_u ro_109_19; have a6 := in_u i94; have a7 := in_u j92_6; have a8 := in_u ((in_c 1 rfl)); have a9 := in_u i103; have a10 := t_add e103 ro_109_19 i94 rfl; have a11 := in_u i239; have a12 := t_add e239 i94 (in_c (-1) rfl) rfl; have a13 := in_u ((in_c (-1) rfl)); have a14 := in_u j78_3; have a15 := tx_i2l e200; have a16 := in_u i199; have oc := oc_316_109; by omega)) (by exact (have a0 := in_u j78_7; have a1 := in_u j78_5; have a2 := in_u j78_2; have a3 := in_u j78_1; have a4 := in_u ro_109_20; have a5 := in_u ro_109_19; have a6 := in_u i94; have a7 := in_u j92_6; have a8 := in_u ((in_c 1 rfl)); have a9 := in_u i103; have a10 := t_add e103 ro_109_19 i94 rfl; have a11 := in_u i239; have a12 := t_add e239 i94 (in_c (-1) rfl) rfl; have a13 := in_u ((in_c (-1) rfl)); have a14 := in_u j78_3; have a15 := tx_i2l e200; have a16 := in_u i199; have oc := oc_316_109; by omega)) (by exact (have a0 := in_u j78_7; have a1 := in_u j78_5; have a2 := in_u j78_2; have a3 := in_u j78_1; have a4 := in_u ro_109_20; have a5 := in_u ro_109_19; have a6 := in_u i94; have a7 := in_u j92_6; have a8 := in_u ((in_c 1 rfl)); have a9 := in_u i103; have a10 := t_add e103 ro_109_19 i94 rfl; have a11 := in_u i239; have a12 := t_add e239 i94 (in_c (-1) rfl) rfl; have a13 := in_u ((in_c (-1) rfl)); have a14 := in_u j78_3; have a15 := tx_i2l e200; have a16 := in_u i199; have oc := oc_316_109; by omega))), ← e136, ← e199, ← e180, ← e192] at h1; have h := c203a; omega)
                          have n92g : WRF sc92 (x1).toNatClampNeg (x2).toNatClampNeg (y78_4) := by exact g92_5
                          have n92h : bt (y78_4) (x2).toNatClampNeg = true := by exact g92_6
                          have n92i : WYI (gvZ s) (x2).toNatClampNeg (x3).toInt (x1).toNatClampNeg (y78_5).toNatClampNeg (y78_7).toNatClampNeg (y78_6).toInt := by exact g92_7
                          have n92j : ∀ a : Nat, (z239).toInt < (a : Int) → a < 160 → WOK sc92 (y78_4) (y78_5).toNatClampNeg a → (y92_6).toInt ≤ (a : Int) := by exact wb_no g92_8 (by exact (have a0 := in_u j78_7; have a1 := in_u j78_5; have a2 := in_u j78_2; have a3 := in_u j78_1; have a4 := in_u ro_109_20; have a5 := in_u ro_109_19; have a6 := in_u i94; have a7 := in_u j92_6; have a8 := in_u ((in_c 1 rfl)); have a9 := in_u i103; have a10 := t_add e103 ro_109_19 i94 rfl; have a11 := in_u i239; have a12 := t_add e239 i94 (in_c (-1) rfl) rfl; have a13 := in_u ((in_c (-1) rfl)); have a14 := in_u j78_3; have a15 := tx_i2l e200; have a16 := in_u i199; have oc := oc_316_109; by omega)) (by exact (have a0 := in_u j78_7; have a1 := in_u j78_5; have a2 := in_u j78_2; have a3 := in_u j78_1; have a4 := in_u ro_109_20; have a5 := in_u ro_109_19; have a6 := in_u i94; have a7 := in_u j92_6; have a8 := in_u ((in_c 1 rfl)); have a9 := in_u i103; have a10 := t_add e103 ro_109_19 i94 rfl; have a11 := in_u i239; have a12 := t_add e239 i94 (in_c (-1) rfl) rfl; have a13 := in_u ((in_c (-1) rfl)); have a14 := in_u j78_3; have a15 := tx_i2l e200; have a16 := in_u i199; have oc := oc_316_109; by omega)) (fun hw => by have hto := g92_0 z136.toNatClampNeg (bt_yes e137x2 e137x4 i136 c137x6); have hbd := hto.2.1; rw [← e192] at hbd; have hz201 : z201.toInt = z192.toInt + z199.toInt := (by have hw9 := i199; unfold In at hw9; rw [ladd_t e201 (by rw [tx_i2l e200]; omega) (by rw [tx_i2l e200]; omega), tx_i2l e200]); have h1 := hw.2.2.2.2.1; rw [(bs_x (x := z103) (a := y92_8) (show u_109_19 = sc92.2.2.1 109 19 from fr_F e_109_19 hFc92 rfl) (by exact (have a0 := in_u j78_7; have a1 := in_u j78_5; have a2 := in_u j78_2; have a3 := in_u j78_1; have a4 := in_u ro_109_20; have a5 := in_u ro_109_19; have a6 := in_u i94; have a7 := in_u j92_6; have a8 := in_u ((in_c 1 rfl)); have a9 := in_u i103; have a10 := t_add e103 ro_109_19 i94 rfl; have a11 := in_u i239; have a12 := t_add e239 i94 (in_c (-1) rfl) rfl; have a13 := in_u ((in_c (-1) rfl)); have a14 := in_u j78_3; have a15 := tx_i2l e200; have a16 := in_u i199; have oc := oc_316_109; by omega)) (by exact (have a0 := in_u j78_7; have a1 := in_u j78_5; have a2 := in_u j78_2; have a3 := in_u j78_1; have a4 := in_u ro_109_20; have a5 := in_u ro_109_19; have a6 := in_u i94; have a7 := in_u j92_6; have a8 := in_u ((in_c 1 rfl)); have a9 := in_u i103; have a10 := t_add e103 ro_109_19 i94 rfl; have a11 := in_u i239; have a12 := t_add e239 i94 (in_c (-1) rfl) rfl; have a13 := in_u ((in_c (-1) rfl)); have a14 := in_u j78_3; have a15 := tx_i2l e200; have a16 := in_u i199; have oc := oc_316_109; by omega)) (by exact (have a0 := in_u j78_7; have a1 := in_u j78_5; have a2 := in_u j78_2; have a3 := in_u j78_1; have a4 := in_u ro_109_20; have a5 := in_u ro_109_19; have a6 := in_u i94; have a7 := in_u j92_6; have a8 := in_u ((in_c 1 rfl)); have a9 := in_u i103; have a10 := t_add e103 ro_109_19 i94 rfl; have a11 := in_u i239; have a12 := t_add e239 i94 (in_c (-1) rfl) rfl; have a13 := in_u ((in_c (-1) rfl)); have a14 := in_u j78_3; have a15 := tx_i2l e200; have a16 := in_u i199; have oc := oc_316_109; by omega))), ← e136, ← e199, ← e180, ← e192] at h1; have h := c203a; omega)
                          have n92k : ((sc92).2.2.1 109 0).toInt = 0 := by exact g92_9
                          have n92l : ((0 ≤ x1.toInt ∧ x1.toInt < (s.2.2.1 109 20).toInt) ∧ (0 ≤ x2.toInt ∧ x2.toInt < (s.2.2.1 109 20).toInt)) ∧ 0 ≤ x3.toInt := by exact g92_10
                          exact gg_w (by first | exact Nat.le_add_right _ _ | exact gw2 | exact gw3 | exact gwe rfl | exact gwf rfl | exact gwg rfl | exact gwh rfl | omega) (gg_f (gf_cons rfl (gf_cons rfl (gf_cons rfl (gf_cons rfl (gf_cons rfl (gf_cons rfl (gf_cons rfl (gf_cons rfl (gf_cons rfl gf_nil))))))))) (ih92 sc92 y92_6 z239 hIc92 hFc92 (in_w (-1) 159 j92_6 rfl) (in_w (-1) 159 i239 rfl) nz92_4 n92 n92a n92b n92c n92d n92e n92f n92g n92h n92i n92j n92k n92l (m_dn mm92 (t_add e239 i94 (in_c (-1) rfl) rfl) (in_w (-1) (-1) (in_c (-1) rfl) rfl))))
                        · skip
                          have i203 := z_eq 0 0 c203 i202 rfl
                          have c203a := lc_eq e202 c203
                          refine g_aload_n 207 (gd rfl) rfl rfl ?_
                          refine g_getA (q2 := 131) 210 (gd rfl) rfl rfl rfl rfl ?_
                          refine g_iload 212 (gd rfl) rfl rfl ?_
                          refine g_iaload 213 (gd rfl) rfl (n := 32) rfl (in_ix j78_5 rfl) (fun z212 e212 => ?_)
                          refine g_aload_n 214 (gd rfl) rfl rfl ?_
                          refine g_getA (q2 := 131) 217 (gd rfl) rfl rfl rfl rfl ?_
                          refine g_aload_n 218 (gd rfl) rfl rfl ?_
                          refine g_getA (q2 := 114) 221 (gd rfl) rfl rfl rfl rfl ?_
                          refine g_iload 223 (gd rfl) rfl rfl ?_
                          refine g_iaload 224 (gd rfl) rfl (n := 480) rfl (in_ix i103 rfl) (fun z223 e223 => ?_)
                          have q223 : z136 = z223 := (e136).trans e223.symm
                          subst q223
                          refine g_iaload 225 (gd rfl) rfl (n := 32) rfl (in_ix i136 rfl) (fun z224 e224 => ?_)
                          refine g_iconst 1 226 (gd rfl) rfl rfl ?_
                          refine g_iadd 227 (gd rfl) rfl (fun z226 e226 => ?_)
                          refine g_cmp_ne 230 235 (gd rfl) rfl rfl (fun c227 => ?_) (fun c227 => ?_)
                          · skip
                            refine g_iload 237 (gd rfl) rfl rfl ?_
                            refine g_istore 239 (gd rfl) rfl (Nat.le_of_ble_eq_true rfl) ?_
                            refine g_iinc 242 (gd rfl) rfl rfl (Nat.le_of_ble_eq_true rfl) (fun z239 e239 => ?_)
                            have i239 := in_add (-1) 158 e239 i94 (in_c (-1) rfl) rfl rfl
                            refine g_goto 92 (gd rfl) rfl ?_
                            have n92 : (y78_7).toInt ≤ (x3).toInt := by first | exact n92_0 | (exact (have a0 := in_u j78_7; have a1 := in_u j78_5; have a2 := in_u j78_2; have a3 := in_u j78_1; have a4 := in_u ro_109_20; have a5 := in_u ro_109_19; have a6 := in_u i94; have a7 := in_u j92_6; have a8 := in_u ((in_c 1 rfl)); have a9 := in_u i103; have a10 := t_add e103 ro_109_19 i94 rfl; have a11 := in_u i239; have a12 := t_add e239 i94 (in_c (-1) rfl) rfl; have a13 := in_u ((in_c (-1) rfl)); have a14 := in_u j78_3; have a15 := tx_i2l e200; have a16 := in_u i199; have oc := oc_316_109; by omega))
                            have n92a : 0 ≤ (y78_7).toInt := by first | exact n78_0 | (exact (have a0 := in_u j78_7; have a1 := in_u j78_5; have a2 := in_u j78_2; have a3 := in_u j78_1; have a4 := in_u ro_109_20; have a5 := in_u ro_109_19; have a6 := in_u i94; have a7 := in_u j92_6; have a8 := in_u ((in_c 1 rfl)); have a9 := in_u i103; have a10 := t_add e103 ro_109_19 i94 rfl; have a11 := in_u i239; have a12 := t_add e239 i94 (in_c (-1) rfl) rfl; have a13 := in_u ((in_c (-1) rfl)); have a14 := in_u j78_3; have a15 := tx_i2l e200; have a16 := in_u i199; have oc := oc_316_109; by omega))
                            have n92b : WFN sc92 (x2).toNatClampNeg (y78_4) := by exact g92_0
                            have n92c : bt (y78_4) (y78_5).toNatClampNeg = true := by exact g92_1
                            have n92d : (sc92.1 131 (y78_5).toNatClampNeg).toInt + (y78_7).toInt = (sc92.1 131 (x1).toNatClampNeg).toInt := by exact g92_2
                            have n92e : (x3).toInt < (sc92.1 131 (x1).toNatClampNeg).toInt ∧ (sc92.1 131 (x1).toNatClampNeg).toInt ≤ 1000 := by exact g92_3
                            have n92f : (∀ a : Nat, (z239).toInt < (a : Int) → a < 160 → WOK sc92 (y78_4) (y78_5).toNatClampNeg a → 0 ≤ (y92_6).toInt) ∧ (0 ≤ (y92_6).toInt → WOK sc92 (y78_4) (y78_5).toNatClampNeg (y92_6).toNatClampNeg) := by first | exact wa_yes (by exact (have a0 := in_u j78_7; have a1 := in_u j78_5; have a2 := in_u j78_2; have a3 := in_u j78_1; have a4 := in_u ro_109_20; have a5 := in_u ro_109_19; have a6 := in_u i94; have a7 := in_u j92_6; have a8 := in_u ((in_c 1 rfl)); have a9 := in_u i103; have a10 := t_add e103 ro_109_19 i94 rfl; have a11 := in_u i239; have a12 := t_add e239 i94 (in_c (-1) rfl) rfl; have a13 := in_u ((in_c (-1) rfl)); have a14 := in_u j78_3; have a15 := tx_i2l e200; have a16 := in_u i199; have oc := oc_316_109; by omega)) (by have hto := g92_0 z136.toNatClampNeg (bt_yes e137x2 e137x4 i136 c137x6); have hbd := hto.2.1; rw [← e192] at hbd; have hz201 : z201.toInt = z192.toInt + z199.toInt := (by have hw9 := i199; unfold In at hw9; rw [ladd_t e201 (by rw [tx_i2l e200]; omega) (by rw [tx_i2l e200]; omega), tx_i2l e200]); have hst := hto.2.2.1; rw [← e224] at hst; have hz226 : z226.toInt = z224.toInt + 1 := t_add (a := 0) (b := 1000) e226 ⟨hst.1, hst.2⟩ (in_c 1 rfl) rfl; unfold WOK; rw [(bs_x (x := z103) (a := y92_8) (show u_109_19 = sc92.2.2.1 109 19 from fr_F e_109_19 hFc92 rfl) (by exact (have a0 := in_u j78_7; have a1 := in_u j78_5; have a2 := in_u j78_2; have a3 := in_u j78_1; have a4 := in_u ro_109_20; have a5 := in_u ro_109_19; have a6 := in_u i94; have a7 := in_u j92_6; have a8 := in_u ((in_c 1 rfl)); have a9 := in_u i103; have a10 := t_add e103 ro_109_19 i94 rfl; have a11 := in_u i239; have a12 := t_add e239 i94 (in_c (-1) rfl) rfl; have a13 := in_u ((in_c (-1) rfl)); have a14 := in_u j78_3; have a15 := tx_i2l e200; have a16 := in_u i199; have oc := oc_316_109; by omega)) (by exact (have a0 := in_u j78_7; have a1 := in_u j78_5; have a2 := in_u j78_2; have a3 := in_u j78_1; have a4 := in_u ro_109_20; have a5 := in_u ro_109_19; have a6 := in_u i94; have a7 := in_u j92_6; have a8 := in_u ((in_c 1 rfl)); have a9 := in_u i103; have a10 := t_add e103 ro_109_19 i94 rfl; have a11 := in_u i239; have a12 := t_add e239 i94 (in_c (-1) rfl) rfl; have a13 := in_u ((in_c (-1) rfl)); have a14 := in_u j78_3; have a15 := tx_i2l e200; have a16 := in_u i199; have oc := oc_316_109; by omega)) (by exact (have a0 := in_u j78_7; have a1 := in_u j78_5; have a2 := in_u j78_2; have a3 := in_u j78_1; have a4 := in_u ro_109_20; have a5 := in_u ro_109_19; have a6 := in_u i94; have a7 := in_u j92_6; have a8 := in_u ((in_c 1 rfl)); have a9 := in_u i103; have a10 := t_add e103 ro_109_19 i94 rfl; have a11 := in_u i239; have a12 := t_add e239 i94 (in_c (-1) rfl) rfl; have a13 := in_u ((in_c (-1) rfl)); have a14 := in_u j78_3; have a15 := tx_i2l e200; have a16 := in_u i199; have oc := oc_316_109; by omega))), ← e136, ← e112, ← e122, ← e199, ← e154, ← e180, ← e212, ← e224]; exact ⟨c113, by rw [Int32.toInt_inj.mp c125], bt_yes e137x2 e137x4 i136 c137x6, by have h := i159a.2; omega, by rw [show z154 = z192 from (e154.trans e192.symm)]; have h := c203a; omega, by have h := c227; omega⟩) | exact wa_no g92_4 (by exact (have a0 := in_u j78_7; have a1 := in_u j78_5; have a2 := in_u j78_2; have a3 := in_u j78_1; have a4 := in_u ro_109_20; have a5 := in_u ro_109_19; have a6 := in_u i94; have a7 := in_u j92_6; have a8 := in_u ((in_c 1 rfl)); have a9 := in_u i103; have a10 := t_add e103 ro_109_19 i94 rfl; have a11 := in_u i239; have a12 := t_add e239 i94 (in_c (-1) rfl) rfl; have a13 := in_u ((in_c (-1) rfl)); have a14 := in_u j78_3; have a15 := tx_i2l e200; have a16 := in_u i199; have oc := oc_316_109; by omega)) (by exact (have a0 := in_u j78_7; have a1 := in_u j78_5; have a2 := in_u j78_2; have a3 := in_u j78_1; have a4 := in_u ro_109_20; have a5 := in_u ro_109_19; have a6 := in_u i94; have a7 := in_u j92_6; have a8 := in_u ((in_c 1 rfl)); have a9 := in_u i103; have a10 := t_add e103 ro_109_19 i94 rfl; have a11 := in_u i239; have a12 := t_add e239 i94 (in_c (-1) rfl) rfl; have a13 := in_u ((in_c (-1) rfl)); have a14 := in_u j78_3; have a15 := tx_i2l e200; have a16 := in_u i199; have oc := oc_316_109; by omega)) (fun hw => by have hto := g92_0 z136.toNatClampNeg (bt_yes e137x2 e137x4 i136 c137x6); have hbd := hto.2.1; rw [← e192] at hbd; have hz201 : z201.toInt = z192.toInt + z199.toInt := (by have hw9 := i199; unfold In at hw9; rw [ladd_t e201 (by rw [tx_i2l e200]; omega) (by rw [tx_i2l e200]; omega), tx_i2l e200]); have hst := hto.2.2.1; rw [← e224] at hst; have hz226 : z226.toInt = z224.toInt + 1 := t_add (a := 0) (b := 1000) e226 ⟨hst.1, hst.2⟩ (in_c 1 rfl) rfl; have h1 := hw.2.2.2.2.2; rw [(bs_x (x := z103) (a := y92_8) (show u_109_19 = sc92.2.2.1 109 19 from fr_F e_109_19 hFc92 rfl) (by exact (have a0 := in_u j78_7; have a1 := in_u j78_5; have a2 := in_u j78_2; have a3 := in_u j78_1; have a4 := in_u ro_109_20; have a5 := in_u ro_109_19; have a6 := in_u i94; have a7 := in_u j92_6; have a8 := in_u ((in_c 1 rfl)); have a9 := in_u i103; have a10 := t_add e103 ro_109_19 i94 rfl; have a11 := in_u i239; have a12 := t_add e239 i94 (in_c (-1) rfl) rfl; have a13 := in_u ((in_c (-1) rfl)); have a14 := in_u j78_3; have a15 := tx_i2l e200; have a16 := in_u i199; have oc := oc_316_109; by omega)) (by exact (have a0 := in_u j78_7; have a1 := in_u j78_5; have a2 := in_u j78_2; have a3 := in_u j78_1; have a4 := in_u ro_109_20; have a5 := in_u ro_109_19; have a6 := in_u i94; have a7 := in_u j92_6; have a8 := in_u ((in_c 1 rfl)); have a9 := in_u i103; have a10 := t_add e103 ro_109_19 i94 rfl; have a11 := in_u i239; have a12 := t_add e239 i94 (in_c (-1) rfl) rfl; have a13 := in_u ((in_c (-1) rfl)); have a14 := in_u j78_3; have a15 := tx_i2l e200; have a16 := in_u i199; have oc := oc_316_109; by omega)) (by exact (have a0 := in_u j78_7; have a1 := in_u j78_5; have a2 := in_u j78_2; have a3 := in_u j78_1; have a4 := in_u ro_109_20; have a5 := in_u ro_109_19; have a6 := in_u i94; have a7 := in_u j92_6; have a8 := in_u ((in_c 1 rfl)); have a9 := in_u i103; have a10 := t_add e103 ro_109_19 i94 rfl; have a11 := in_u i239; have a12 := t_add e239 i94 (in_c (-1) rfl) rfl; have a13 := in_u ((in_c (-1) rfl)); have a14 := in_u j78_3; have a15 := tx_i2l e200; have a16 := in_u i199; have oc := oc_316_109; by omega))), ← e136, ← e212, ← e224] at h1; have h := c227; omega)
                            have n92g : WRF sc92 (x1).toNatClampNeg (x2).toNatClampNeg (y78_4) := by exact g92_5
                            have n92h : bt (y78_4) (x2).toNatClampNeg = true := by exact g92_6
                            have n92i : WYI (gvZ s) (x2).toNatClampNeg (x3).toInt (x1).toNatClampNeg (y78_5).toNatClampNeg (y78_7).toNatClampNeg (y78_6).toInt := by exact g92_7
                            have n92j : ∀ a : Nat, (z239).toInt < (a : Int) → a < 160 → WOK sc92 (y78_4) (y78_5).toNatClampNeg a → (y92_6).toInt ≤ (a : Int) := by first | (intro a ha h160 hw; exact (have a0 := in_u j78_7; have a1 := in_u j78_5; have a2 := in_u j78_2; have a3 := in_u j78_1; have a4 := in_u ro_109_20; have a5 := in_u ro_109_19; have a6 := in_u i94; have a7 := in_u j92_6; have a8 := in_u ((in_c 1 rfl)); have a9 := in_u i103; have a10 := t_add e103 ro_109_19 i94 rfl; have a11 := in_u i239; have a12 := t_add e239 i94 (in_c (-1) rfl) rfl; have a13 := in_u ((in_c (-1) rfl)); have a14 := in_u j78_3; have a15 := tx_i2l e200; have a16 := in_u i199; have oc := oc_316_109; by omega)) | (exact wb_no g92_8 (by exact (have a0 := in_u j78_7; have a1 := in_u j78_5; have a2 := in_u j78_2; have a3 := in_u j78_1; have a4 := in_u ro_109_20; have a5 := in_u ro_109_19; have a6 := in_u i94; have a7 := in_u j92_6; have a8 := in_u ((in_c 1 rfl)); have a9 := in_u i103; have a10 := t_add e103 ro_109_19 i94 rfl; have a11 := in_u i239; have a12 := t_add e239 i94 (in_c (-1) rfl) rfl; have a13 := in_u ((in_c (-1) rfl)); have a14 := in_u j78_3; have a15 := tx_i2l e200; have a16 := in_u i199; have oc := oc_316_109; by omega)) (by exact (have a0 := in_u j78_7; have a1 := in_u j78_5; have a2 := in_u j78_2; have a3 := in_u j78_1; have a4 := in_u ro_109_20; have a5 := in_u ro_109_19; have a6 := in_u i94; have a7 := in_u j92_6; have a8 := in_u ((in_c 1 rfl)); have a9 := in_u i103; have a10 := t_add e103 ro_109_19 i94 rfl; have a11 := in_u i239; have a12 := t_add e239 i94 (in_c (-1) rfl) rfl; have a13 := in_u ((in_c (-1) rfl)); have a14 := in_u j78_3; have a15 := tx_i2l e200; have a16 := in_u i199; have oc := oc_316_109; by omega)) (fun hw => by have hto := g92_0 z136.toNatClampNeg (bt_yes e137x2 e137x4 i136 c137x6); have hbd := hto.2.1; rw [← e192] at hbd; have hz201 : z201.toInt = z192.toInt + z199.toInt := (by have hw9 := i199; unfold In at hw9; rw [ladd_t e201 (by rw [tx_i2l e200]; omega) (by rw [tx_i2l e200]; omega), tx_i2l e200]); have hst := hto.2.2.1; rw [← e224] at hst; have hz226 : z226.toInt = z224.toInt + 1 := t_add (a := 0) (b := 1000) e226 ⟨hst.1, hst.2⟩ (in_c 1 rfl) rfl; have h1 := hw.2.2.2.2.2; rw [(bs_x (x := z103) (a := y92_8) (show u_109_19 = sc92.2.2.1 109 19 from fr_F e_109_19 hFc92 rfl) (by exact (have a0 := in_u j78_7; have a1 := in_u j78_5; have a2 := in_u j78_2; have a3 := in_u j78_1; have a4 := in_u ro_109_20; have a5 := in_u ro_109_19; have a6 := in_u i94; have a7 := in_u j92_6; have a8 := in_u ((in_c 1 rfl)); have a9 := in_u i103; have a10 := t_add e103 ro_109_19 i94 rfl; have a11 := in_u i239; have a12 := t_add e239 i94 (in_c (-1) rfl) rfl; have a13 := in_u ((in_c (-1) rfl)); have a14 := in_u j78_3; have a15 := tx_i2l e200; have a16 := in_u i199; have oc := oc_316_109; by omega)) (by exact (have a0 := in_u j78_7; have a1 := in_u j78_5; have a2 := in_u j78_2; have a3 := in_u j78_1; have a4 := in_u ro_109_20; have a5 := in_u ro_109_19; have a6 := in_u i94; have a7 := in_u j92_6; have a8 := in_u ((in_c 1 rfl)); have a9 := in_u i103; have a10 := t_add e103 ro_109_19 i94 rfl; have a11 := in_u i239; have a12 := t_add e239 i94 (in_c (-1) rfl) rfl; have a13 := in_u ((in_c (-1) rfl)); have a14 := in_u j78_3; have a15 := tx_i2l e200; have a16 := in_u i199; have oc := oc_316_109; by omega)) (by exact (have a0 := in_u j78_7; have a1 := in_u j78_5; have a2 := in_u j78_2; have a3 := in_u j78_1; have a4 := in_u ro_109_20; have a5 := in_u ro_109_19; have a6 := in_u i94; have a7 := in_u j92_6; have a8 := in_u ((in_c 1 rfl)); have a9 := in_u i103; have a10 := t_add e103 ro_109_19 i94 rfl; have a11 := in_u i239; have a12 := t_add e239 i94 (in_c (-1) rfl) rfl; have a13 := in_u ((in_c (-1) rfl)); have a14 := in_u j78_3; have a15 := tx_i2l e200; have a16 := in_u i199; have oc := oc_316_109; by omega))), ← e136, ← e212, ← e224] at h1; have h := c227; omega))
                            have n92k : ((sc92).2.2.1 109 0).toInt = 0 := by exact g92_9
                            have n92l : ((0 ≤ x1.toInt ∧ x1.toInt < (s.2.2.1 109 20).toInt) ∧ (0 ≤ x2.toInt ∧ x2.toInt < (s.2.2.1 109 20).toInt)) ∧ 0 ≤ x3.toInt := by exact g92_10
                            exact gg_w (by first | exact Nat.le_add_right _ _ | exact gw2 | exact gw3 | exact gwe rfl | exact gwf rfl | exact gwg rfl | exact gwh rfl | omega) (gg_f (gf_cons rfl (gf_cons rfl (gf_cons rfl (gf_cons rfl (gf_cons rfl (gf_cons rfl (gf_cons rfl (gf_cons rfl (gf_cons rfl gf_nil))))))))) (ih92 sc92 y92_6 z239 hIc92 hFc92 (in_w (-1) 159 j92_6 rfl) (in_w (-1) 159 i239 rfl) nz92_4 n92 n92a n92b n92c n92d n92e n92f n92g n92h n92i n92j n92k n92l (m_dn mm92 (t_add e239 i94 (in_c (-1) rfl) rfl) (in_w (-1) (-1) (in_c (-1) rfl) rfl))))
                          · skip
                            refine g_iload 232 (gd rfl) rfl rfl ?_
                            refine g_goto 237 (gd rfl) rfl ?_
                            refine g_istore 239 (gd rfl) rfl (Nat.le_of_ble_eq_true rfl) ?_
                            refine g_iinc 242 (gd rfl) rfl rfl (Nat.le_of_ble_eq_true rfl) (fun z239 e239 => ?_)
                            have i239 := in_add (-1) 158 e239 i94 (in_c (-1) rfl) rfl rfl
                            refine g_goto 92 (gd rfl) rfl ?_
                            have n92 : (y78_7).toInt ≤ (x3).toInt := by first | exact n92_0 | (exact (have a0 := in_u j78_7; have a1 := in_u j78_5; have a2 := in_u j78_2; have a3 := in_u j78_1; have a4 := in_u ro_109_20; have a5 := in_u ro_109_19; have a6 := in_u i94; have a7 := in_u j92_6; have a8 := in_u ((in_c 1 rfl)); have a9 := in_u i103; have a10 := t_add e103 ro_109_19 i94 rfl; have a11 := in_u i239; have a12 := t_add e239 i94 (in_c (-1) rfl) rfl; have a13 := in_u ((in_c (-1) rfl)); have a14 := in_u j78_3; have a15 := tx_i2l e200; have a16 := in_u i199; have oc := oc_316_109; by omega))
                            have n92a : 0 ≤ (y78_7).toInt := by first | exact n78_0 | (exact (have a0 := in_u j78_7; have a1 := in_u j78_5; have a2 := in_u j78_2; have a3 := in_u j78_1; have a4 := in_u ro_109_20; have a5 := in_u ro_109_19; have a6 := in_u i94; have a7 := in_u j92_6; have a8 := in_u ((in_c 1 rfl)); have a9 := in_u i103; have a10 := t_add e103 ro_109_19 i94 rfl; have a11 := in_u i239; have a12 := t_add e239 i94 (in_c (-1) rfl) rfl; have a13 := in_u ((in_c (-1) rfl)); have a14 := in_u j78_3; have a15 := tx_i2l e200; have a16 := in_u i199; have oc := oc_316_109; by omega))
                            have n92b : WFN sc92 (x2).toNatClampNeg (y78_4) := by exact g92_0
                            have n92c : bt (y78_4) (y78_5).toNatClampNeg = true := by exact g92_1
                            have n92d : (sc92.1 131 (y78_5).toNatClampNeg).toInt + (y78_7).toInt = (sc92.1 131 (x1).toNatClampNeg).toInt := by exact g92_2
                            have n92e : (x3).toInt < (sc92.1 131 (x1).toNatClampNeg).toInt ∧ (sc92.1 131 (x1).toNatClampNeg).toInt ≤ 1000 := by exact g92_3
                            have n92f : (∀ a : Nat, (z239).toInt < (a : Int) → a < 160 → WOK sc92 (y78_4) (y78_5).toNatClampNeg a → 0 ≤ (y92_8).toInt) ∧ (0 ≤ (y92_8).toInt → WOK sc92 (y78_4) (y78_5).toNatClampNeg (y92_8).toNatClampNeg) := by first | exact wa_yes (by exact (have a0 := in_u j78_7; have a1 := in_u j78_5; have a2 := in_u j78_2; have a3 := in_u j78_1; have a4 := in_u ro_109_20; have a5 := in_u ro_109_19; have a6 := in_u i94; have a7 := in_u j92_6; have a8 := in_u ((in_c 1 rfl)); have a9 := in_u i103; have a10 := t_add e103 ro_109_19 i94 rfl; have a11 := in_u i239; have a12 := t_add e239 i94 (in_c (-1) rfl) rfl; have a13 := in_u ((in_c (-1) rfl)); have a14 := in_u j78_3; have a15 := tx_i2l e200; have a16 := in_u i199; have oc := oc_316_109; by omega)) (by have hto := g92_0 z136.toNatClampNeg (bt_yes e137x2 e137x4 i136 c137x6); have hbd := hto.2.1; rw [← e192] at hbd; have hz201 : z201.toInt = z192.toInt + z199.toInt := (by have hw9 := i199; unfold In at hw9; rw [ladd_t e201 (by rw [tx_i2l e200]; omega) (by rw [tx_i2l e200]; omega), tx_i2l e200]); have hst := hto.2.2.1; rw [← e224] at hst; have hz226 : z226.toInt = z224.toInt + 1 := t_add (a := 0) (b := 1000) e226 ⟨hst.1, hst.2⟩ (in_c 1 rfl) rfl; unfold WOK; rw [(bs_x (x := z103) (a := y92_8) (show u_109_19 = sc92.2.2.1 109 19 from fr_F e_109_19 hFc92 rfl) (by exact (have a0 := in_u j78_7; have a1 := in_u j78_5; have a2 := in_u j78_2; have a3 := in_u j78_1; have a4 := in_u ro_109_20; have a5 := in_u ro_109_19; have a6 := in_u i94; have a7 := in_u j92_6; have a8 := in_u ((in_c 1 rfl)); have a9 := in_u i103; have a10 := t_add e103 ro_109_19 i94 rfl; have a11 := in_u i239; have a12 := t_add e239 i94 (in_c (-1) rfl) rfl; have a13 := in_u ((in_c (-1) rfl)); have a14 := in_u j78_3; have a15 := tx_i2l e200; have a16 := in_u i199; have oc := oc_316_109; by omega)) (by exact (have a0 := in_u j78_7; have a1 := in_u j78_5; have a2 := in_u j78_2; have a3 := in_u j78_1; have a4 := in_u ro_109_20; have a5 := in_u ro_109_19; have a6 := in_u i94; have a7 := in_u j92_6; have a8 := in_u ((in_c 1 rfl)); have a9 := in_u i103; have a10 := t_add e103 ro_109_19 i94 rfl; have a11 := in_u i239; have a12 := t_add e239 i94 (in_c (-1) rfl) rfl; have a13 := in_u ((in_c (-1) rfl)); have a14 := in_u j78_3; have a15 := tx_i2l e200; have a16 := in_u i199; have oc := oc_316_109; by omega)) (by exact (have a0 := in_u j78_7; have a1 := in_u j78_5; have a2 := in_u j78_2; have a3 := in_u j78_1; have a4 := in_u ro_109_20; have a5 := in_u ro_109_19; have a6 := in_u i94; have a7 := in_u j92_6; have a8 := in_u ((in_c 1 rfl)); have a9 := in_u i103; have a10 := t_add e103 ro_109_19 i94 rfl; have a11 := in_u i239; have a12 := t_add e239 i94 (in_c (-1) rfl) rfl; have a13 := in_u ((in_c (-1) rfl)); have a14 := in_u j78_3; have a15 := tx_i2l e200; have a16 := in_u i199; have oc := oc_316_109; by omega))), ← e136, ← e112, ← e122, ← e199, ← e154, ← e180, ← e212, ← e224]; exact ⟨c113, by rw [Int32.toInt_inj.mp c125], bt_yes e137x2 e137x4 i136 c137x6, by have h := i159a.2; omega, by rw [show z154 = z192 from (e154.trans e192.symm)]; have h := c203a; omega, by have h := c227; omega⟩) | exact wa_no g92_4 (by exact (have a0 := in_u j78_7; have a1 := in_u j78_5; have a2 := in_u j78_2; have a3 := in_u j78_1; have a4 := in_u ro_109_20; have a5 := in_u ro_109_19; have a6 := in_u i94; have a7 := in_u j92_6; have a8 := in_u ((in_c 1 rfl)); have a9 := in_u i103; have a10 := t_add e103 ro_109_19 i94 rfl; have a11 := in_u i239; have a12 := t_add e239 i94 (in_c (-1) rfl) rfl; have a13 := in_u ((in_c (-1) rfl)); have a14 := in_u j78_3; have a15 := tx_i2l e200; have a16 := in_u i199; have oc := oc_316_109; by omega)) (by exact (have a0 := in_u j78_7; have a1 := in_u j78_5; have a2 := in_u j78_2; have a3 := in_u j78_1; have a4 := in_u ro_109_20; have a5 := in_u ro_109_19; have a6 := in_u i94; have a7 := in_u j92_6; have a8 := in_u ((in_c 1 rfl)); have a9 := in_u i103; have a10 := t_add e103 ro_109_19 i94 rfl; have a11 := in_u i239; have a12 := t_add e239 i94 (in_c (-1) rfl) rfl; have a13 := in_u ((in_c (-1) rfl)); have a14 := in_u j78_3; have a15 := tx_i2l e200; have a16 := in_u i199; have oc := oc_316_109; by omega)) (fun hw => by have hto := g92_0 z136.toNatClampNeg (bt_yes e137x2 e137x4 i136 c137x6); have hbd := hto.2.1; rw [← e192] at hbd; have hz201 : z201.toInt = z192.toInt + z199.toInt := (by have hw9 := i199; unfold In at hw9; rw [ladd_t e201 (by rw [tx_i2l e200]; omega) (by rw [tx_i2l e200]; omega), tx_i2l e200]); have hst := hto.2.2.1; rw [← e224] at hst; have hz226 : z226.toInt = z224.toInt + 1 := t_add (a := 0) (b := 1000) e226 ⟨hst.1, hst.2⟩ (in_c 1 rfl) rfl; have h1 := hw.2.2.2.2.2; rw [(bs_x (x := z103) (a := y92_8) (show u_109_19 = sc92.2.2.1 109 19 from fr_F e_109_19 hFc92 rfl) (by exact (have a0 := in_u j78_7; have a1 := in_u j78_5; have a2 := in_u j78_2; have a3 := in_u j78_1; have a4 := in_u ro_109_20; have a5 := in_u ro_109_19; have a6 := in_u i94; have a7 := in_u j92_6; have a8 := in_u ((in_c 1 rfl)); have a9 := in_u i103; have a10 := t_add e103 ro_109_19 i94 rfl; have a11 := in_u i239; have a12 := t_add e239 i94 (in_c (-1) rfl) rfl; have a13 := in_u ((in_c (-1) rfl)); have a14 := in_u j78_3; have a15 := tx_i2l e200; have a16 := in_u i199; have oc := oc_316_109; by omega)) (by exact (have a0 := in_u j78_7; have a1 := in_u j78_5; have a2 := in_u j78_2; have a3 := in_u j78_1; have a4 := in_u ro_109_20; have a5 := in_u ro_109_19; have a6 := in_u i94; have a7 := in_u j92_6; have a8 := in_u ((in_c 1 rfl)); have a9 := in_u i103; have a10 := t_add e103 ro_109_19 i94 rfl; have a11 := in_u i239; have a12 := t_add e239 i94 (in_c (-1) rfl) rfl; have a13 := in_u ((in_c (-1) rfl)); have a14 := in_u j78_3; have a15 := tx_i2l e200; have a16 := in_u i199; have oc := oc_316_109; by omega)) (by exact (have a0 := in_u j78_7; have a1 := in_u j78_5; have a2 := in_u j78_2; have a3 := in_u j78_1; have a4 := in_u ro_109_20; have a5 := in_u ro_109_19; have a6 := in_u i94; have a7 := in_u j92_6; have a8 := in_u ((in_c 1 rfl)); have a9 := in_u i103; have a10 := t_add e103 ro_109_19 i94 rfl; have a11 := in_u i239; have a12 := t_add e239 i94 (in_c (-1) rfl) rfl; have a13 := in_u ((in_c (-1) rfl)); have a14 := in_u j78_3; have a15 := tx_i2l e200; have a16 := in_u i199; have oc := oc_316_109; by omega))), ← e136, ← e212, ← e224] at h1; have h := c227; omega)
                            have n92g : WRF sc92 (x1).toNatClampNeg (x2).toNatClampNeg (y78_4) := by exact g92_5
                            have n92h : bt (y78_4) (x2).toNatClampNeg = true := by exact g92_6
                            have n92i : WYI (gvZ s) (x2).toNatClampNeg (x3).toInt (x1).toNatClampNeg (y78_5).toNatClampNeg (y78_7).toNatClampNeg (y78_6).toInt := by exact g92_7
                            have n92j : ∀ a : Nat, (z239).toInt < (a : Int) → a < 160 → WOK sc92 (y78_4) (y78_5).toNatClampNeg a → (y92_8).toInt ≤ (a : Int) := by first | (intro a ha h160 hw; exact (have a0 := in_u j78_7; have a1 := in_u j78_5; have a2 := in_u j78_2; have a3 := in_u j78_1; have a4 := in_u ro_109_20; have a5 := in_u ro_109_19; have a6 := in_u i94; have a7 := in_u j92_6; have a8 := in_u ((in_c 1 rfl)); have a9 := in_u i103; have a10 := t_add e103 ro_109_19 i94 rfl; have a11 := in_u i239; have a12 := t_add e239 i94 (in_c (-1) rfl) rfl; have a13 := in_u ((in_c (-1) rfl)); have a14 := in_u j78_3; have a15 := tx_i2l e200; have a16 := in_u i199; have oc := oc_316_109; by omega)) | (exact wb_no g92_8 (by exact (have a0 := in_u j78_7; have a1 := in_u j78_5; have a2 := in_u j78_2; have a3 := in_u j78_1; have a4 := in_u ro_109_20; have a5 := in_u ro_109_19; have a6 := in_u i94; have a7 := in_u j92_6; have a8 := in_u ((in_c 1 rfl)); have a9 := in_u i103; have a10 := t_add e103 ro_109_19 i94 rfl; have a11 := in_u i239; have a12 := t_add e239 i94 (in_c (-1) rfl) rfl; have a13 := in_u ((in_c (-1) rfl)); have a14 := in_u j78_3; have a15 := tx_i2l e200; have a16 := in_u i199; have oc := oc_316_109; by omega)) (by exact (have a0 := in_u j78_7; have a1 := in_u j78_5; have a2 := in_u j78_2; have a3 := in_u j78_1; have a4 := in_u ro_109_20; have a5 := in_u ro_109_19; have a6 := in_u i94; have a7 := in_u j92_6; have a8 := in_u ((in_c 1 rfl)); have a9 := in_u i103; have a10 := t_add e103 ro_109_19 i94 rfl; have a11 := in_u i239; have a12 := t_add e239 i94 (in_c (-1) rfl) rfl; have a13 := in_u ((in_c (-1) rfl)); have a14 := in_u j78_3; have a15 := tx_i2l e200; have a16 := in_u i199; have oc := oc_316_109; by omega)) (fun hw => by have hto := g92_0 z136.toNatClampNeg (bt_yes e137x2 e137x4 i136 c137x6); have hbd := hto.2.1; rw [← e192] at hbd; have hz201 : z201.toInt = z192.toInt + z199.toInt := (by have hw9 := i199; unfold In at hw9; rw [ladd_t e201 (by rw [tx_i2l e200]; omega) (by rw [tx_i2l e200]; omega), tx_i2l e200]); have hst := hto.2.2.1; rw [← e224] at hst; have hz226 : z226.toInt = z224.toInt + 1 := t_add (a := 0) (b := 1000) e226 ⟨hst.1, hst.2⟩ (in_c 1 rfl) rfl; have h1 := hw.2.2.2.2.2; rw [(bs_x (x := z103) (a := y92_8) (show u_109_19 = sc92.2.2.1 109 19 from fr_F e_109_19 hFc92 rfl) (by exact (have a0 := in_u j78_7; have a1 := in_u j78_5; have a2 := in_u j78_2; have a3 := in_u j78_1; have a4 := in_u ro_109_20; have a5 := in_u ro_109_19; have a6 := in_u i94; have a7 := in_u j92_6; have a8 := in_u ((in_c 1 rfl)); have a9 := in_u i103; have a10 := t_add e103 ro_109_19 i94 rfl; have a11 := in_u i239; have a12 := t_add e239 i94 (in_c (-1) rfl) rfl; have a13 := in_u ((in_c (-1) rfl)); have a14 := in_u j78_3; have a15 := tx_i2l e200; have a16 := in_u i199; have oc := oc_316_109; by omega)) (by exact (have a0 := in_u j78_7; have a1 := in_u j78_5; have a2 := in_u j78_2; have a3 := in_u j78_1; have a4 := in_u ro_109_20; have a5 := in_u ro_109_19; have a6 := in_u i94; have a7 := in_u j92_6; have a8 := in_u ((in_c 1 rfl)); have a9 := in_u i103; have a10 := t_add e103 ro_109_19 i94 rfl; have a11 := in_u i239; have a12 := t_add e239 i94 (in_c (-1) rfl) rfl; have a13 := in_u ((in_c (-1) rfl)); have a14 := in_u j78_3; have a15 := tx_i2l e200; have a16 := in_u i199; have oc := oc_316_109; by omega)) (by exact (have a0 := in_u j78_7; have a1 := in_u j78_5; have a2 := in_u j78_2; have a3 := in_u j78_1; have a4 := in_u ro_109_20; have a5 := in_u ro_109_19; have a6 := in_u i94; have a7 := in_u j92_6; have a8 := in_u ((in_c 1 rfl)); have a9 := in_u i103; have a10 := t_add e103 ro_109_19 i94 rfl; have a11 := in_u i239; have a12 := t_add e239 i94 (in_c (-1) rfl) rfl; have a13 := in_u ((in_c (-1) rfl)); have a14 := in_u j78_3; have a15 := tx_i2l e200; have a16 := in_u i199; have oc := oc_316_109; by omega))), ← e136, ← e212, ← e224] at h1; have h := c227; omega))
                            have n92k : ((sc92).2.2.1 109 0).toInt = 0 := by exact g92_9
                            have n92l : ((0 ≤ x1.toInt ∧ x1.toInt < (s.2.2.1 109 20).toInt) ∧ (0 ≤ x2.toInt ∧ x2.toInt < (s.2.2.1 109 20).toInt)) ∧ 0 ≤ x3.toInt := by exact g92_10
                            exact gg_w (by first | exact Nat.le_add_right _ _ | exact gw2 | exact gw3 | exact gwe rfl | exact gwf rfl | exact gwg rfl | exact gwh rfl | omega) (gg_f (gf_cons rfl (gf_cons rfl (gf_cons rfl (gf_cons rfl (gf_cons rfl (gf_cons rfl (gf_cons rfl (gf_cons rfl (gf_cons rfl gf_nil))))))))) (ih92 sc92 y92_8 z239 hIc92 hFc92 (in_w (-1) 159 i94 rfl) (in_w (-1) 159 i239 rfl) nz92_4 n92 n92a n92b n92c n92d n92e n92f n92g n92h n92i n92j n92k n92l (m_dn mm92 (t_add e239 i94 (in_c (-1) rfl) rfl) (in_w (-1) (-1) (in_c (-1) rfl) rfl))))
      refine g_iload 80 (gd rfl) rfl rfl ?_
      refine g_iload_n 81 (gd rfl) rfl rfl ?_
      refine g_cmp_gt 84 265 (gd rfl) rfl rfl (fun c81 => ?_) (fun c81 => ?_)
      · skip
        have i81 := r_lt1 0 999 c81 j78_3 j78_7 rfl
        have i81a := r_lt2 1 1000 c81 j78_3 j78_7 rfl
        refine g_iload 267 (gd rfl) rfl rfl ?_
        have n267 : WYR s sc78 x1 x2 x3 y78_6 := by exact Or.inr ⟨g78_8, g78_9, wyi_e g78_6 g78_9.2 (by show (((y78_7).toInt.toNat : Nat) : Int) = _; have h9 := g78_7; exact (have a0 := in_u i81; have a1 := in_u j78_2; have a2 := in_u j78_1; have a3 := in_u ro_109_20; have a4 := in_u ro_109_19; have a5 := in_u i81a; have a6 := in_u j78_6; have a7 := in_u j78_5; have oc := oc_316_109; by omega))⟩
        exact g_ireturn (gd rfl) rfl rfl (hP _ _ ⟨sc78, hIc78, hFc78, y78_6, rfl, rfl, in_w (-1) 159 j78_6 rfl, n267⟩)
      · skip
        refine g_iconst (-1) 85 (gd rfl) rfl rfl ?_
        refine g_istore 87 (gd rfl) rfl (Nat.le_of_ble_eq_true rfl) ?_
        refine g_sipush 159 90 (gd rfl) rfl rfl ?_
        refine g_istore 92 (gd rfl) rfl (Nat.le_of_ble_eq_true rfl) ?_
        have n92 : (y78_7).toInt ≤ (x3).toInt := by exact (have a0 := in_u j78_2; have a1 := in_u j78_1; have a2 := in_u ro_109_20; have a3 := in_u ro_109_19; have a4 := in_u j78_7; have a5 := in_u j78_6; have a6 := in_u j78_5; have a7 := in_u ((in_c 159 rfl)); have a8 := in_u ((in_c (-1) rfl)); have a9 := in_u j78_3; have oc := oc_316_109; by omega)
        have n92a : 0 ≤ (y78_7).toInt := by first | exact n78_0 | (exact (have a0 := in_u j78_2; have a1 := in_u j78_1; have a2 := in_u ro_109_20; have a3 := in_u ro_109_19; have a4 := in_u j78_7; have a5 := in_u j78_6; have a6 := in_u j78_5; have a7 := in_u ((in_c 159 rfl)); have a8 := in_u ((in_c (-1) rfl)); have a9 := in_u j78_3; have oc := oc_316_109; by omega))
        have n92b : WFN sc78 (x2).toNatClampNeg (y78_4) := by exact g78_0
        have n92c : bt (y78_4) (y78_5).toNatClampNeg = true := by exact g78_1
        have n92d : (sc78.1 131 (y78_5).toNatClampNeg).toInt + (y78_7).toInt = (sc78.1 131 (x1).toNatClampNeg).toInt := by exact g78_2
        have n92e : (x3).toInt < (sc78.1 131 (x1).toNatClampNeg).toInt ∧ (sc78.1 131 (x1).toNatClampNeg).toInt ≤ 1000 := by exact g78_3
        have n92f : (∀ a : Nat, ((Int32.ofInt 159)).toInt < (a : Int) → a < 160 → WOK sc78 (y78_4) (y78_5).toNatClampNeg a → 0 ≤ ((Int32.ofInt (-1))).toInt) ∧ (0 ≤ ((Int32.ofInt (-1))).toInt → WOK sc78 (y78_4) (y78_5).toNatClampNeg ((Int32.ofInt (-1))).toNatClampNeg) := by exact ⟨fun a h1 h2 => (by exfalso; have h0 : (Int32.ofInt 159).toInt = 159 := rfl; omega), fun h => (by exfalso; have h0 : (Int32.ofInt (-1)).toInt = -1 := rfl; omega)⟩
        have n92g : WRF sc78 (x1).toNatClampNeg (x2).toNatClampNeg (y78_4) := by exact g78_4
        have n92h : bt (y78_4) (x2).toNatClampNeg = true := by exact g78_5
        have n92i : WYI (gvZ s) (x2).toNatClampNeg (x3).toInt (x1).toNatClampNeg (y78_5).toNatClampNeg (y78_7).toNatClampNeg (y78_6).toInt := by exact g78_6
        have n92j : ∀ a : Nat, ((Int32.ofInt 159)).toInt < (a : Int) → a < 160 → WOK sc78 (y78_4) (y78_5).toNatClampNeg a → ((Int32.ofInt (-1))).toInt ≤ (a : Int) := by intro a h1 h2 _; exfalso; have h0 : (Int32.ofInt 159).toInt = 159 := rfl; omega
        have n92k : ((sc78).2.2.1 109 0).toInt = 0 := by exact g78_8
        have n92l : ((0 ≤ x1.toInt ∧ x1.toInt < (s.2.2.1 109 20).toInt) ∧ (0 ≤ x2.toInt ∧ x2.toInt < (s.2.2.1 109 20).toInt)) ∧ 0 ≤ x3.toInt := by exact g78_9
        exact gg_w (by first | exact Nat.le_add_right _ _ | exact gw2 | exact gw3 | exact gwe rfl | exact gwf rfl | exact gwg rfl | exact gwh rfl | omega) (gg_f (gf_cons rfl (gf_cons rfl (gf_cons rfl (gf_cons rfl (gf_cons rfl (gf_cons rfl (gf_cons rfl (gf_cons rfl (gf_cons rfl gf_nil))))))))) (ct92 161 sc78 (Int32.ofInt (-1)) (Int32.ofInt 159) hIc78 hFc78 (in_w (-1) 159 (in_c (-1) rfl) rfl) (in_w (-1) 159 (in_c 159 rfl) rfl) nz78_4 n92 n92a n92b n92c n92d n92e n92f n92g n92h n92i n92j n92k n92l (m_ind 161 (in_w (-1) 159 (in_c 159 rfl) rfl) rfl)))
  refine g_enter2 (k := 316) (N := 147749502) (by first | exact dq1 hd rfl | exact dq0 hd rfl | exact dq2 hd rfl | exact dq3 hd rfl | omega) rfl (Nat.le_of_ble_eq_true rfl) ?_
  refine g_aload_n 1 (gd rfl) rfl rfl ?_
  refine g_aload_n 2 (gd rfl) rfl rfl ?_
  refine g_iload_n 3 (gd rfl) rfl rfl ?_
  refine g_callv (X := _) (As := [.int x1]) (r := [.ref (A 109)]) (b := A 109) (q := 109) 6 (gd rfl) rfl rfl rfl rfl rfl (ww_o rfl) (Nat.le_of_ble_eq_true rfl) (mc := 0) (ms := 0) (Nat.zero_le _) (Nat.zero_le _) (P := fun v u => _) ?_ (fun e u h => h) (fun v u h => h)
  intro po3 xx3 hp3 hx3
  refine g_enter2 (k := 272) (N := 300) (by first | exact dq1 hd rfl | exact dq0 hd rfl | exact dq2 hd rfl | exact dq3 hd rfl | omega) rfl (Nat.le_of_ble_eq_true rfl) ?_
  refine g_iload_n 1 (gd rfl) rfl rfl ?_
  refine g_if_lt 4 16 (gd rfl) rfl rfl (fun c3x1 => ?_) (fun c3x1 => ?_)
  · skip
    have i3x1 := z_lt (-2147483648) (-1) c3x1 (i_rng x1) rfl
    refine g_iconst 0 17 (gd rfl) rfl rfl ?_
    refine g_ireturn (gd rfl) rfl (nb01 (in_w 0 1 (in_c 0 rfl) rfl)) (hp3 _ _ ?_)
    show GG _ _ _ _ _ _ _ _ [.int (Int32.ofInt 0), .ref (A 109)] _ _ _
    refine g_if_eq 9 25 (gd rfl) rfl rfl (fun c6 => ?_) (fun c6 => ?_)
    · skip
      refine g_iconst 0 26 (gd rfl) rfl rfl ?_
      refine g_callv (X := _) (As := [.int (Int32.ofInt 0)]) (r := []) (b := A 109) (q := 109) 29 (gd rfl) rfl rfl rfl rfl rfl (ww_o rfl) (Nat.le_of_ble_eq_true rfl) (mc := 0) (ms := 0) (Nat.zero_le _) (Nat.zero_le _) (P := fun v u => _) ?_ (fun e u h => h) (fun v u h => h)
      intro po26 xx26 hp26 hx26
      refine g_enter2 (k := 271) (N := 300) (by first | exact dq1 hd rfl | exact dq0 hd rfl | exact dq2 hd rfl | exact dq3 hd rfl | omega) rfl (Nat.le_of_ble_eq_true rfl) ?_
      refine g_aload_n 1 (gd rfl) rfl rfl ?_
      refine g_iload_n 2 (gd rfl) rfl rfl ?_
      refine g_iconst 1 3 (gd rfl) rfl rfl ?_
      refine g_callv (X := _) (As := [.int (Int32.ofInt 0), .int (Int32.ofInt 1)]) (r := []) (b := A 109) (q := 109) 6 (gd rfl) rfl rfl rfl rfl rfl (ww_o rfl) (Nat.le_of_ble_eq_true rfl) (mc := 0) (ms := 0) (Nat.zero_le _) (Nat.zero_le _) (P := fun v u => _) ?_ (fun e u h => h) (fun v u h => h)
      intro po26x3 xx26x3 hp26x3 hx26x3
      refine g_enter2 (k := 270) (N := 300) (by first | exact dq1 hd rfl | exact dq0 hd rfl | exact dq2 hd rfl | exact dq3 hd rfl | omega) rfl (Nat.le_of_ble_eq_true rfl) ?_
      refine g_aload_n 1 (gd rfl) rfl rfl ?_
      refine g_iload_n 2 (gd rfl) rfl rfl ?_
      refine g_if_ne 5 9 (gd rfl) rfl rfl (fun c26x3x2 => ?_) (fun c26x3x2 => ?_)
      · skip
        exact zn_ne c26x3x2 (in_c 0 rfl) rfl
      · skip
        refine g_iconst 1 6 (gd rfl) rfl rfl ?_
        refine g_goto 18 (gd rfl) rfl ?_
        refine g_putI 21 (gd rfl) rfl rfl rfl rfl ?_
        have hI26x3x18 := inv_sF (q := 109) (j := 0) hI rfl (in_w 0 2 (in_c 1 rfl) rfl)
        refine g_aload_n 22 (gd rfl) rfl rfl ?_
        refine g_getI 25 (gd rfl) rfl rfl rfl (fun z26x3x22 e26x3x22 => ?_)
        have q26x3x22 : (Int32.ofInt 1) = z26x3x22 := (sF_get).trans e26x3x22.symm
        subst q26x3x22
        refine g_if_le 28 32 (gd rfl) rfl rfl (fun c26x3x25 => ?_) (fun c26x3x25 => ?_)
        · skip
          exact zn_le c26x3x25 (in_c 1 rfl) rfl
        · skip
          refine g_iconst 1 29 (gd rfl) rfl rfl ?_
          refine g_goto 33 (gd rfl) rfl ?_
          refine g_ireturn (gd rfl) rfl (nb01 (in_w 0 1 (in_c 1 rfl) rfl)) (hp26x3 _ _ ?_)
          show GG _ _ _ _ _ _ _ _ [.int (Int32.ofInt 1)] _ _ _
          refine g_ireturn (gd rfl) rfl (nb01 (in_w 0 1 (in_c 1 rfl) rfl)) (hp26 _ _ ?_)
          show GG _ _ _ _ _ _ _ _ [.int (Int32.ofInt 1)] _ _ _
          refine g_if_eq 32 34 (gd rfl) rfl rfl (fun c29 => ?_) (fun c29 => ?_)
          · skip
            exact zn_eq c29 (in_c 1 rfl) rfl
          · skip
            refine g_iconst 0 33 (gd rfl) rfl rfl ?_
            have n33 : WYR s (sF s 109 0 (Int32.ofInt 1)) x1 x2 x3 (Int32.ofInt 0) := by exact Or.inl ⟨rfl, by rw [← e_109_20]; exact (have a0 := in_u ro_109_20; have a1 := in_u ro_109_19; have a2 := in_u i3x1; have a3 := in_u ((in_c 1 rfl)); have oc := oc_316_109; by omega)⟩
            exact g_ireturn (gd rfl) rfl rfl (hP _ _ ⟨(sF s 109 0 (Int32.ofInt 1)), hI26x3x18, (fr_sF rfl fr_rf), (Int32.ofInt 0), rfl, rfl, in_w (-1) 159 (in_c 0 rfl) rfl, n33⟩)
    · skip
      exact zn_ne c6 (in_c 0 rfl) rfl
  · skip
    have i3x1 := z_ge 0 2147483647 c3x1 (i_rng x1) rfl
    refine g_iload_n 5 (gd rfl) rfl rfl ?_
    refine g_aload_n 6 (gd rfl) rfl rfl ?_
    refine g_getI 9 (gd rfl) rfl rfl rfl (fun z3x6 e3x6 => ?_)
    have q3x6 : u_109_20 = z3x6 := (e_109_20).trans e3x6.symm
    subst q3x6
    refine g_cmp_ge 12 16 (gd rfl) rfl rfl (fun c3x9 => ?_) (fun c3x9 => ?_)
    · skip
      refine g_iconst 0 17 (gd rfl) rfl rfl ?_
      refine g_ireturn (gd rfl) rfl (nb01 (in_w 0 1 (in_c 0 rfl) rfl)) (hp3 _ _ ?_)
      show GG _ _ _ _ _ _ _ _ [.int (Int32.ofInt 0), .ref (A 109)] _ _ _
      refine g_if_eq 9 25 (gd rfl) rfl rfl (fun c6 => ?_) (fun c6 => ?_)
      · skip
        refine g_iconst 0 26 (gd rfl) rfl rfl ?_
        refine g_callv (X := _) (As := [.int (Int32.ofInt 0)]) (r := []) (b := A 109) (q := 109) 29 (gd rfl) rfl rfl rfl rfl rfl (ww_o rfl) (Nat.le_of_ble_eq_true rfl) (mc := 0) (ms := 0) (Nat.zero_le _) (Nat.zero_le _) (P := fun v u => _) ?_ (fun e u h => h) (fun v u h => h)
        intro po26 xx26 hp26 hx26
        refine g_enter2 (k := 271) (N := 300) (by first | exact dq1 hd rfl | exact dq0 hd rfl | exact dq2 hd rfl | exact dq3 hd rfl | omega) rfl (Nat.le_of_ble_eq_true rfl) ?_
        refine g_aload_n 1 (gd rfl) rfl rfl ?_
        refine g_iload_n 2 (gd rfl) rfl rfl ?_
        refine g_iconst 1 3 (gd rfl) rfl rfl ?_
        refine g_callv (X := _) (As := [.int (Int32.ofInt 0), .int (Int32.ofInt 1)]) (r := []) (b := A 109) (q := 109) 6 (gd rfl) rfl rfl rfl rfl rfl (ww_o rfl) (Nat.le_of_ble_eq_true rfl) (mc := 0) (ms := 0) (Nat.zero_le _) (Nat.zero_le _) (P := fun v u => _) ?_ (fun e u h => h) (fun v u h => h)
        intro po26x3 xx26x3 hp26x3 hx26x3
        refine g_enter2 (k := 270) (N := 300) (by first | exact dq1 hd rfl | exact dq0 hd rfl | exact dq2 hd rfl | exact dq3 hd rfl | omega) rfl (Nat.le_of_ble_eq_true rfl) ?_
        refine g_aload_n 1 (gd rfl) rfl rfl ?_
        refine g_iload_n 2 (gd rfl) rfl rfl ?_
        refine g_if_ne 5 9 (gd rfl) rfl rfl (fun c26x3x2 => ?_) (fun c26x3x2 => ?_)
        · skip
          exact zn_ne c26x3x2 (in_c 0 rfl) rfl
        · skip
          refine g_iconst 1 6 (gd rfl) rfl rfl ?_
          refine g_goto 18 (gd rfl) rfl ?_
          refine g_putI 21 (gd rfl) rfl rfl rfl rfl ?_
          have hI26x3x18 := inv_sF (q := 109) (j := 0) hI rfl (in_w 0 2 (in_c 1 rfl) rfl)
          refine g_aload_n 22 (gd rfl) rfl rfl ?_
          refine g_getI 25 (gd rfl) rfl rfl rfl (fun z26x3x22 e26x3x22 => ?_)
          have q26x3x22 : (Int32.ofInt 1) = z26x3x22 := (sF_get).trans e26x3x22.symm
          subst q26x3x22
          refine g_if_le 28 32 (gd rfl) rfl rfl (fun c26x3x25 => ?_) (fun c26x3x25 => ?_)
          · skip
            exact zn_le c26x3x25 (in_c 1 rfl) rfl
          · skip
            refine g_iconst 1 29 (gd rfl) rfl rfl ?_
            refine g_goto 33 (gd rfl) rfl ?_
            refine g_ireturn (gd rfl) rfl (nb01 (in_w 0 1 (in_c 1 rfl) rfl)) (hp26x3 _ _ ?_)
            show GG _ _ _ _ _ _ _ _ [.int (Int32.ofInt 1)] _ _ _
            refine g_ireturn (gd rfl) rfl (nb01 (in_w 0 1 (in_c 1 rfl) rfl)) (hp26 _ _ ?_)
            show GG _ _ _ _ _ _ _ _ [.int (Int32.ofInt 1)] _ _ _
            refine g_if_eq 32 34 (gd rfl) rfl rfl (fun c29 => ?_) (fun c29 => ?_)
            · skip
              exact zn_eq c29 (in_c 1 rfl) rfl
            · skip
              refine g_iconst 0 33 (gd rfl) rfl rfl ?_
              have n33 : WYR s (sF s 109 0 (Int32.ofInt 1)) x1 x2 x3 (Int32.ofInt 0) := by exact Or.inl ⟨rfl, by rw [← e_109_20]; exact (have a0 := in_u ro_109_20; have a1 := in_u ro_109_19; have a2 := in_u i3x1; have a3 := in_u ((in_c 1 rfl)); have oc := oc_316_109; by omega)⟩
              exact g_ireturn (gd rfl) rfl rfl (hP _ _ ⟨(sF s 109 0 (Int32.ofInt 1)), hI26x3x18, (fr_sF rfl fr_rf), (Int32.ofInt 0), rfl, rfl, in_w (-1) 159 (in_c 0 rfl) rfl, n33⟩)
      · skip
        exact zn_ne c6 (in_c 0 rfl) rfl
    · skip
      have i3x9 := r_lt1 0 31 c3x9 i3x1 ro_109_20 rfl
      have i3x9a := r_lt2 1 32 c3x9 i3x1 ro_109_20 rfl
      refine g_iconst 1 13 (gd rfl) rfl rfl ?_
      refine g_goto 17 (gd rfl) rfl ?_
      refine g_ireturn (gd rfl) rfl (nb01 (in_w 0 1 (in_c 1 rfl) rfl)) (hp3 _ _ ?_)
      show GG _ _ _ _ _ _ _ _ [.int (Int32.ofInt 1), .ref (A 109)] _ _ _
      refine g_if_eq 9 25 (gd rfl) rfl rfl (fun c6 => ?_) (fun c6 => ?_)
      · skip
        exact zn_eq c6 (in_c 1 rfl) rfl
      · skip
        refine g_aload_n 10 (gd rfl) rfl rfl ?_
        refine g_iload_n 11 (gd rfl) rfl rfl ?_
        refine g_callv (X := _) (As := [.int x2]) (r := [.ref (A 109)]) (b := A 109) (q := 109) 14 (gd rfl) rfl rfl rfl rfl rfl (ww_o rfl) (Nat.le_of_ble_eq_true rfl) (mc := 0) (ms := 0) (Nat.zero_le _) (Nat.zero_le _) (P := fun v u => _) ?_ (fun e u h => h) (fun v u h => h)
        intro po11 xx11 hp11 hx11
        refine g_enter2 (k := 272) (N := 300) (by first | exact dq1 hd rfl | exact dq0 hd rfl | exact dq2 hd rfl | exact dq3 hd rfl | omega) rfl (Nat.le_of_ble_eq_true rfl) ?_
        refine g_iload_n 1 (gd rfl) rfl rfl ?_
        refine g_if_lt 4 16 (gd rfl) rfl rfl (fun c11x1 => ?_) (fun c11x1 => ?_)
        · skip
          have i11x1 := z_lt (-2147483648) (-1) c11x1 (i_rng x2) rfl
          refine g_iconst 0 17 (gd rfl) rfl rfl ?_
          refine g_ireturn (gd rfl) rfl (nb01 (in_w 0 1 (in_c 0 rfl) rfl)) (hp11 _ _ ?_)
          show GG _ _ _ _ _ _ _ _ [.int (Int32.ofInt 0), .ref (A 109)] _ _ _
          refine g_if_eq 17 25 (gd rfl) rfl rfl (fun c14 => ?_) (fun c14 => ?_)
          · skip
            refine g_iconst 0 26 (gd rfl) rfl rfl ?_
            refine g_callv (X := _) (As := [.int (Int32.ofInt 0)]) (r := []) (b := A 109) (q := 109) 29 (gd rfl) rfl rfl rfl rfl rfl (ww_o rfl) (Nat.le_of_ble_eq_true rfl) (mc := 0) (ms := 0) (Nat.zero_le _) (Nat.zero_le _) (P := fun v u => _) ?_ (fun e u h => h) (fun v u h => h)
            intro po26 xx26 hp26 hx26
            refine g_enter2 (k := 271) (N := 300) (by first | exact dq1 hd rfl | exact dq0 hd rfl | exact dq2 hd rfl | exact dq3 hd rfl | omega) rfl (Nat.le_of_ble_eq_true rfl) ?_
            refine g_aload_n 1 (gd rfl) rfl rfl ?_
            refine g_iload_n 2 (gd rfl) rfl rfl ?_
            refine g_iconst 1 3 (gd rfl) rfl rfl ?_
            refine g_callv (X := _) (As := [.int (Int32.ofInt 0), .int (Int32.ofInt 1)]) (r := []) (b := A 109) (q := 109) 6 (gd rfl) rfl rfl rfl rfl rfl (ww_o rfl) (Nat.le_of_ble_eq_true rfl) (mc := 0) (ms := 0) (Nat.zero_le _) (Nat.zero_le _) (P := fun v u => _) ?_ (fun e u h => h) (fun v u h => h)
            intro po26x3 xx26x3 hp26x3 hx26x3
            refine g_enter2 (k := 270) (N := 300) (by first | exact dq1 hd rfl | exact dq0 hd rfl | exact dq2 hd rfl | exact dq3 hd rfl | omega) rfl (Nat.le_of_ble_eq_true rfl) ?_
            refine g_aload_n 1 (gd rfl) rfl rfl ?_
            refine g_iload_n 2 (gd rfl) rfl rfl ?_
            refine g_if_ne 5 9 (gd rfl) rfl rfl (fun c26x3x2 => ?_) (fun c26x3x2 => ?_)
            · skip
              exact zn_ne c26x3x2 (in_c 0 rfl) rfl
            · skip
              refine g_iconst 1 6 (gd rfl) rfl rfl ?_
              refine g_goto 18 (gd rfl) rfl ?_
              refine g_putI 21 (gd rfl) rfl rfl rfl rfl ?_
              have hI26x3x18 := inv_sF (q := 109) (j := 0) hI rfl (in_w 0 2 (in_c 1 rfl) rfl)
              refine g_aload_n 22 (gd rfl) rfl rfl ?_
              refine g_getI 25 (gd rfl) rfl rfl rfl (fun z26x3x22 e26x3x22 => ?_)
              have q26x3x22 : (Int32.ofInt 1) = z26x3x22 := (sF_get).trans e26x3x22.symm
              subst q26x3x22
              refine g_if_le 28 32 (gd rfl) rfl rfl (fun c26x3x25 => ?_) (fun c26x3x25 => ?_)
              · skip
                exact zn_le c26x3x25 (in_c 1 rfl) rfl
              · skip
                refine g_iconst 1 29 (gd rfl) rfl rfl ?_
                refine g_goto 33 (gd rfl) rfl ?_
                refine g_ireturn (gd rfl) rfl (nb01 (in_w 0 1 (in_c 1 rfl) rfl)) (hp26x3 _ _ ?_)
                show GG _ _ _ _ _ _ _ _ [.int (Int32.ofInt 1)] _ _ _
                refine g_ireturn (gd rfl) rfl (nb01 (in_w 0 1 (in_c 1 rfl) rfl)) (hp26 _ _ ?_)
                show GG _ _ _ _ _ _ _ _ [.int (Int32.ofInt 1)] _ _ _
                refine g_if_eq 32 34 (gd rfl) rfl rfl (fun c29 => ?_) (fun c29 => ?_)
                · skip
                  exact zn_eq c29 (in_c 1 rfl) rfl
                · skip
                  refine g_iconst 0 33 (gd rfl) rfl rfl ?_
                  have n33 : WYR s (sF s 109 0 (Int32.ofInt 1)) x1 x2 x3 (Int32.ofInt 0) := by exact Or.inl ⟨rfl, by rw [← e_109_20]; exact (have a0 := in_u i3x9; have a1 := in_u i3x9a; have a2 := in_u ro_109_19; have a3 := in_u i11x1; have a4 := in_u ((in_c 1 rfl)); have oc := oc_316_109; by omega)⟩
                  exact g_ireturn (gd rfl) rfl rfl (hP _ _ ⟨(sF s 109 0 (Int32.ofInt 1)), hI26x3x18, (fr_sF rfl fr_rf), (Int32.ofInt 0), rfl, rfl, in_w (-1) 159 (in_c 0 rfl) rfl, n33⟩)
          · skip
            exact zn_ne c14 (in_c 0 rfl) rfl
        · skip
          have i11x1 := z_ge 0 2147483647 c11x1 (i_rng x2) rfl
          refine g_iload_n 5 (gd rfl) rfl rfl ?_
          refine g_aload_n 6 (gd rfl) rfl rfl ?_
          refine g_getI 9 (gd rfl) rfl rfl rfl (fun z11x6 e11x6 => ?_)
          have q11x6 : u_109_20 = z11x6 := (e_109_20).trans e11x6.symm
          subst q11x6
          refine g_cmp_ge 12 16 (gd rfl) rfl rfl (fun c11x9 => ?_) (fun c11x9 => ?_)
          · skip
            have i11x9 := r_le2 1 2147483647 c11x9 i3x9a i11x1 rfl
            refine g_iconst 0 17 (gd rfl) rfl rfl ?_
            refine g_ireturn (gd rfl) rfl (nb01 (in_w 0 1 (in_c 0 rfl) rfl)) (hp11 _ _ ?_)
            show GG _ _ _ _ _ _ _ _ [.int (Int32.ofInt 0), .ref (A 109)] _ _ _
            refine g_if_eq 17 25 (gd rfl) rfl rfl (fun c14 => ?_) (fun c14 => ?_)
            · skip
              refine g_iconst 0 26 (gd rfl) rfl rfl ?_
              refine g_callv (X := _) (As := [.int (Int32.ofInt 0)]) (r := []) (b := A 109) (q := 109) 29 (gd rfl) rfl rfl rfl rfl rfl (ww_o rfl) (Nat.le_of_ble_eq_true rfl) (mc := 0) (ms := 0) (Nat.zero_le _) (Nat.zero_le _) (P := fun v u => _) ?_ (fun e u h => h) (fun v u h => h)
              intro po26 xx26 hp26 hx26
              refine g_enter2 (k := 271) (N := 300) (by first | exact dq1 hd rfl | exact dq0 hd rfl | exact dq2 hd rfl | exact dq3 hd rfl | omega) rfl (Nat.le_of_ble_eq_true rfl) ?_
              refine g_aload_n 1 (gd rfl) rfl rfl ?_
              refine g_iload_n 2 (gd rfl) rfl rfl ?_
              refine g_iconst 1 3 (gd rfl) rfl rfl ?_
              refine g_callv (X := _) (As := [.int (Int32.ofInt 0), .int (Int32.ofInt 1)]) (r := []) (b := A 109) (q := 109) 6 (gd rfl) rfl rfl rfl rfl rfl (ww_o rfl) (Nat.le_of_ble_eq_true rfl) (mc := 0) (ms := 0) (Nat.zero_le _) (Nat.zero_le _) (P := fun v u => _) ?_ (fun e u h => h) (fun v u h => h)
              intro po26x3 xx26x3 hp26x3 hx26x3
              refine g_enter2 (k := 270) (N := 300) (by first | exact dq1 hd rfl | exact dq0 hd rfl | exact dq2 hd rfl | exact dq3 hd rfl | omega) rfl (Nat.le_of_ble_eq_true rfl) ?_
              refine g_aload_n 1 (gd rfl) rfl rfl ?_
              refine g_iload_n 2 (gd rfl) rfl rfl ?_
              refine g_if_ne 5 9 (gd rfl) rfl rfl (fun c26x3x2 => ?_) (fun c26x3x2 => ?_)
              · skip
                exact zn_ne c26x3x2 (in_c 0 rfl) rfl
              · skip
                refine g_iconst 1 6 (gd rfl) rfl rfl ?_
                refine g_goto 18 (gd rfl) rfl ?_
                refine g_putI 21 (gd rfl) rfl rfl rfl rfl ?_
                have hI26x3x18 := inv_sF (q := 109) (j := 0) hI rfl (in_w 0 2 (in_c 1 rfl) rfl)
                refine g_aload_n 22 (gd rfl) rfl rfl ?_
                refine g_getI 25 (gd rfl) rfl rfl rfl (fun z26x3x22 e26x3x22 => ?_)
                have q26x3x22 : (Int32.ofInt 1) = z26x3x22 := (sF_get).trans e26x3x22.symm
                subst q26x3x22
                refine g_if_le 28 32 (gd rfl) rfl rfl (fun c26x3x25 => ?_) (fun c26x3x25 => ?_)
                · skip
                  exact zn_le c26x3x25 (in_c 1 rfl) rfl
                · skip
                  refine g_iconst 1 29 (gd rfl) rfl rfl ?_
                  refine g_goto 33 (gd rfl) rfl ?_
                  refine g_ireturn (gd rfl) rfl (nb01 (in_w 0 1 (in_c 1 rfl) rfl)) (hp26x3 _ _ ?_)
                  show GG _ _ _ _ _ _ _ _ [.int (Int32.ofInt 1)] _ _ _
                  refine g_ireturn (gd rfl) rfl (nb01 (in_w 0 1 (in_c 1 rfl) rfl)) (hp26 _ _ ?_)
                  show GG _ _ _ _ _ _ _ _ [.int (Int32.ofInt 1)] _ _ _
                  refine g_if_eq 32 34 (gd rfl) rfl rfl (fun c29 => ?_) (fun c29 => ?_)
                  · skip
                    exact zn_eq c29 (in_c 1 rfl) rfl
                  · skip
                    refine g_iconst 0 33 (gd rfl) rfl rfl ?_
                    have n33 : WYR s (sF s 109 0 (Int32.ofInt 1)) x1 x2 x3 (Int32.ofInt 0) := by exact Or.inl ⟨rfl, by rw [← e_109_20]; exact (have a0 := in_u i3x9; have a1 := in_u i3x9a; have a2 := in_u ro_109_19; have a3 := in_u i11x9; have a4 := in_u ((in_c 1 rfl)); have oc := oc_316_109; by omega)⟩
                    exact g_ireturn (gd rfl) rfl rfl (hP _ _ ⟨(sF s 109 0 (Int32.ofInt 1)), hI26x3x18, (fr_sF rfl fr_rf), (Int32.ofInt 0), rfl, rfl, in_w (-1) 159 (in_c 0 rfl) rfl, n33⟩)
            · skip
              exact zn_ne c14 (in_c 0 rfl) rfl
          · skip
            have i11x9 := r_lt1 0 31 c11x9 i11x1 i3x9a rfl
            refine g_iconst 1 13 (gd rfl) rfl rfl ?_
            refine g_goto 17 (gd rfl) rfl ?_
            refine g_ireturn (gd rfl) rfl (nb01 (in_w 0 1 (in_c 1 rfl) rfl)) (hp11 _ _ ?_)
            show GG _ _ _ _ _ _ _ _ [.int (Int32.ofInt 1), .ref (A 109)] _ _ _
            refine g_if_eq 17 25 (gd rfl) rfl rfl (fun c14 => ?_) (fun c14 => ?_)
            · skip
              exact zn_eq c14 (in_c 1 rfl) rfl
            · skip
              refine g_iload_n 18 (gd rfl) rfl rfl ?_
              refine g_if_lt 21 25 (gd rfl) rfl rfl (fun c18 => ?_) (fun c18 => ?_)
              · skip
                have i18 := z_lt (-2147483648) (-1) c18 (i_rng x3) rfl
                refine g_iconst 0 26 (gd rfl) rfl rfl ?_
                refine g_callv (X := _) (As := [.int (Int32.ofInt 0)]) (r := []) (b := A 109) (q := 109) 29 (gd rfl) rfl rfl rfl rfl rfl (ww_o rfl) (Nat.le_of_ble_eq_true rfl) (mc := 0) (ms := 0) (Nat.zero_le _) (Nat.zero_le _) (P := fun v u => _) ?_ (fun e u h => h) (fun v u h => h)
                intro po26 xx26 hp26 hx26
                refine g_enter2 (k := 271) (N := 300) (by first | exact dq1 hd rfl | exact dq0 hd rfl | exact dq2 hd rfl | exact dq3 hd rfl | omega) rfl (Nat.le_of_ble_eq_true rfl) ?_
                refine g_aload_n 1 (gd rfl) rfl rfl ?_
                refine g_iload_n 2 (gd rfl) rfl rfl ?_
                refine g_iconst 1 3 (gd rfl) rfl rfl ?_
                refine g_callv (X := _) (As := [.int (Int32.ofInt 0), .int (Int32.ofInt 1)]) (r := []) (b := A 109) (q := 109) 6 (gd rfl) rfl rfl rfl rfl rfl (ww_o rfl) (Nat.le_of_ble_eq_true rfl) (mc := 0) (ms := 0) (Nat.zero_le _) (Nat.zero_le _) (P := fun v u => _) ?_ (fun e u h => h) (fun v u h => h)
                intro po26x3 xx26x3 hp26x3 hx26x3
                refine g_enter2 (k := 270) (N := 300) (by first | exact dq1 hd rfl | exact dq0 hd rfl | exact dq2 hd rfl | exact dq3 hd rfl | omega) rfl (Nat.le_of_ble_eq_true rfl) ?_
                refine g_aload_n 1 (gd rfl) rfl rfl ?_
                refine g_iload_n 2 (gd rfl) rfl rfl ?_
                refine g_if_ne 5 9 (gd rfl) rfl rfl (fun c26x3x2 => ?_) (fun c26x3x2 => ?_)
                · skip
                  exact zn_ne c26x3x2 (in_c 0 rfl) rfl
                · skip
                  refine g_iconst 1 6 (gd rfl) rfl rfl ?_
                  refine g_goto 18 (gd rfl) rfl ?_
                  refine g_putI 21 (gd rfl) rfl rfl rfl rfl ?_
                  have hI26x3x18 := inv_sF (q := 109) (j := 0) hI rfl (in_w 0 2 (in_c 1 rfl) rfl)
                  refine g_aload_n 22 (gd rfl) rfl rfl ?_
                  refine g_getI 25 (gd rfl) rfl rfl rfl (fun z26x3x22 e26x3x22 => ?_)
                  have q26x3x22 : (Int32.ofInt 1) = z26x3x22 := (sF_get).trans e26x3x22.symm
                  subst q26x3x22
                  refine g_if_le 28 32 (gd rfl) rfl rfl (fun c26x3x25 => ?_) (fun c26x3x25 => ?_)
                  · skip
                    exact zn_le c26x3x25 (in_c 1 rfl) rfl
                  · skip
                    refine g_iconst 1 29 (gd rfl) rfl rfl ?_
                    refine g_goto 33 (gd rfl) rfl ?_
                    refine g_ireturn (gd rfl) rfl (nb01 (in_w 0 1 (in_c 1 rfl) rfl)) (hp26x3 _ _ ?_)
                    show GG _ _ _ _ _ _ _ _ [.int (Int32.ofInt 1)] _ _ _
                    refine g_ireturn (gd rfl) rfl (nb01 (in_w 0 1 (in_c 1 rfl) rfl)) (hp26 _ _ ?_)
                    show GG _ _ _ _ _ _ _ _ [.int (Int32.ofInt 1)] _ _ _
                    refine g_if_eq 32 34 (gd rfl) rfl rfl (fun c29 => ?_) (fun c29 => ?_)
                    · skip
                      exact zn_eq c29 (in_c 1 rfl) rfl
                    · skip
                      refine g_iconst 0 33 (gd rfl) rfl rfl ?_
                      have n33 : WYR s (sF s 109 0 (Int32.ofInt 1)) x1 x2 x3 (Int32.ofInt 0) := by exact Or.inl ⟨rfl, by rw [← e_109_20]; exact (have a0 := in_u i11x9; have a1 := in_u i3x9; have a2 := in_u i3x9a; have a3 := in_u ro_109_19; have a4 := in_u i18; have a5 := in_u ((in_c 1 rfl)); have oc := oc_316_109; by omega)⟩
                      exact g_ireturn (gd rfl) rfl rfl (hP _ _ ⟨(sF s 109 0 (Int32.ofInt 1)), hI26x3x18, (fr_sF rfl fr_rf), (Int32.ofInt 0), rfl, rfl, in_w (-1) 159 (in_c 0 rfl) rfl, n33⟩)
              · skip
                have i18 := z_ge 0 2147483647 c18 (i_rng x3) rfl
                refine g_iconst 1 22 (gd rfl) rfl rfl ?_
                refine g_goto 26 (gd rfl) rfl ?_
                refine g_callv (X := _) (As := [.int (Int32.ofInt 1)]) (r := []) (b := A 109) (q := 109) 29 (gd rfl) rfl rfl rfl rfl rfl (ww_o rfl) (Nat.le_of_ble_eq_true rfl) (mc := 0) (ms := 0) (Nat.zero_le _) (Nat.zero_le _) (P := fun v u => _) ?_ (fun e u h => h) (fun v u h => h)
                intro po26 xx26 hp26 hx26
                refine g_enter2 (k := 271) (N := 300) (by first | exact dq1 hd rfl | exact dq0 hd rfl | exact dq2 hd rfl | exact dq3 hd rfl | omega) rfl (Nat.le_of_ble_eq_true rfl) ?_
                refine g_aload_n 1 (gd rfl) rfl rfl ?_
                refine g_iload_n 2 (gd rfl) rfl rfl ?_
                refine g_iconst 1 3 (gd rfl) rfl rfl ?_
                refine g_callv (X := _) (As := [.int (Int32.ofInt 1), .int (Int32.ofInt 1)]) (r := []) (b := A 109) (q := 109) 6 (gd rfl) rfl rfl rfl rfl rfl (ww_o rfl) (Nat.le_of_ble_eq_true rfl) (mc := 0) (ms := 0) (Nat.zero_le _) (Nat.zero_le _) (P := fun v u => _) ?_ (fun e u h => h) (fun v u h => h)
                intro po26x3 xx26x3 hp26x3 hx26x3
                refine g_enter2 (k := 270) (N := 300) (by first | exact dq1 hd rfl | exact dq0 hd rfl | exact dq2 hd rfl | exact dq3 hd rfl | omega) rfl (Nat.le_of_ble_eq_true rfl) ?_
                refine g_aload_n 1 (gd rfl) rfl rfl ?_
                refine g_iload_n 2 (gd rfl) rfl rfl ?_
                refine g_if_ne 5 9 (gd rfl) rfl rfl (fun c26x3x2 => ?_) (fun c26x3x2 => ?_)
                · skip
                  refine g_iload_n 10 (gd rfl) rfl rfl ?_
                  refine g_if_ne 13 17 (gd rfl) rfl rfl (fun c26x3x10 => ?_) (fun c26x3x10 => ?_)
                  · skip
                    refine g_iconst 0 18 (gd rfl) rfl rfl ?_
                    refine g_putI 21 (gd rfl) rfl rfl rfl rfl ?_
                    have hI26x3x18 := inv_sF (q := 109) (j := 0) hI rfl (in_w 0 2 (in_c 0 rfl) rfl)
                    refine g_aload_n 22 (gd rfl) rfl rfl ?_
                    refine g_getI 25 (gd rfl) rfl rfl rfl (fun z26x3x22 e26x3x22 => ?_)
                    have q26x3x22 : (Int32.ofInt 0) = z26x3x22 := (sF_get).trans e26x3x22.symm
                    subst q26x3x22
                    refine g_if_le 28 32 (gd rfl) rfl rfl (fun c26x3x25 => ?_) (fun c26x3x25 => ?_)
                    · skip
                      refine g_iconst 0 33 (gd rfl) rfl rfl ?_
                      refine g_ireturn (gd rfl) rfl (nb01 (in_w 0 1 (in_c 0 rfl) rfl)) (hp26x3 _ _ ?_)
                      show GG _ _ _ _ _ _ _ _ [.int (Int32.ofInt 0)] _ _ _
                      refine g_ireturn (gd rfl) rfl (nb01 (in_w 0 1 (in_c 0 rfl) rfl)) (hp26 _ _ ?_)
                      show GG _ _ _ _ _ _ _ _ [.int (Int32.ofInt 0)] _ _ _
                      refine g_if_eq 32 34 (gd rfl) rfl rfl (fun c29 => ?_) (fun c29 => ?_)
                      · skip
                        refine g_aload_n 35 (gd rfl) rfl rfl ?_
                        refine g_iload_n 36 (gd rfl) rfl rfl ?_
                        refine g_iload_n 37 (gd rfl) rfl rfl ?_
                        have p37 : (x1).toInt < nmx (sF s 109 0 (Int32.ofInt 0)) ∧ (x2).toInt < nmx (sF s 109 0 (Int32.ofInt 0)) := by exact ⟨by unfold nmx; rw [← (show u_109_20 = (sF s 109 0 (Int32.ofInt 0)).2.2.1 109 20 from sF_ne rfl (e_109_20))]; exact (have a0 := in_u i11x9; have a1 := in_u i3x9; have a2 := in_u i3x9a; have a3 := in_u ro_109_19; have a4 := in_u i18; have a5 := in_u ((in_c 0 rfl)); have oc := oc_316_109; by omega), by unfold nmx; rw [← (show u_109_20 = (sF s 109 0 (Int32.ofInt 0)).2.2.1 109 20 from sF_ne rfl (e_109_20))]; exact (have a0 := in_u i11x9; have a1 := in_u i3x9; have a2 := in_u i3x9a; have a3 := in_u ro_109_19; have a4 := in_u i18; have a5 := in_u ((in_c 0 rfl)); have oc := oc_316_109; by omega)⟩
                        refine g_callv (X := _) (As := [.int x1, .int x2]) (r := []) (b := A 109) (q := 109) 40 (gd rfl) rfl rfl rfl rfl rfl (ww_o rfl) (Nat.le_of_ble_eq_true rfl) (Nat.zero_le _) (Nat.zero_le _) (f_314 (by first | exact dq1 hd rfl | exact dq0 hd rfl | exact dq2 hd rfl | exact dq3 hd rfl | omega) hI26x3x18 (in_w 0 31 i3x9 rfl) (in_w 0 31 i11x9 rfl) p37) (fun e u h => h) (fun v u h => ?_)
                        obtain ⟨s37, hI37, hF37, z37, rfl, rfl, i37, p37a, p37b⟩ := h
                        show GG _ _ _ _ _ _ _ _ [.int z37] _ _ _
                        refine g_istore 42 (gd rfl) rfl (Nat.le_of_ble_eq_true rfl) ?_
                        refine g_iload 44 (gd rfl) rfl rfl ?_
                        refine g_if_eq 47 67 (gd rfl) rfl rfl (fun c44 => ?_) (fun c44 => ?_)
                        · skip
                          have i44 := z_eq 0 0 c44 i37 rfl
                          refine g_iconst (-1) 68 (gd rfl) rfl rfl ?_
                          have n68 : WYR s s37 x1 x2 x3 (Int32.ofInt (-1)) := by exact Or.inr ⟨(by rw [hF37.2.2.1 109 0 rfl]; rfl), ⟨⟨⟨by exact (have a0 := in_u i11x9; have a1 := in_u i3x9; have a2 := in_u i3x9a; have a3 := in_u ro_109_19; have a4 := in_u i44; have a5 := in_u i18; have a6 := in_u ((in_c 0 rfl)); have oc := oc_316_109; by omega), by rw [← e_109_20]; exact (have a0 := in_u i11x9; have a1 := in_u i3x9; have a2 := in_u i3x9a; have a3 := in_u ro_109_19; have a4 := in_u i44; have a5 := in_u i18; have a6 := in_u ((in_c 0 rfl)); have oc := oc_316_109; by omega)⟩, ⟨by exact (have a0 := in_u i11x9; have a1 := in_u i3x9; have a2 := in_u i3x9a; have a3 := in_u ro_109_19; have a4 := in_u i44; have a5 := in_u i18; have a6 := in_u ((in_c 0 rfl)); have oc := oc_316_109; by omega), by rw [← e_109_20]; exact (have a0 := in_u i11x9; have a1 := in_u i3x9; have a2 := in_u i3x9a; have a3 := in_u ro_109_19; have a4 := in_u i44; have a5 := in_u i18; have a6 := in_u ((in_c 0 rfl)); have oc := oc_316_109; by omega)⟩⟩, by exact (have a0 := in_u i11x9; have a1 := in_u i3x9; have a2 := in_u i3x9a; have a3 := in_u ro_109_19; have a4 := in_u i44; have a5 := in_u i18; have a6 := in_u ((in_c 0 rfl)); have oc := oc_316_109; by omega)⟩, by rw [← (show gvZ s37 = gvZ s from gvz_cg (fr_tr (L := fm_316) rfl (fr_sF rfl fr_rf) hF37) rfl)]; exact wr_no hI37 (show (((x1).toNatClampNeg : Nat) : Int) < nmx s37 from (by have h8 := p37.1; unfold nmx at h8 ⊢; rw [hF37.2.2.1 109 20 rfl]; show ((x1.toInt.toNat : Nat) : Int) < _; exact (have a0 := in_u i11x9; have a1 := in_u i3x9; have a2 := in_u i3x9a; have a3 := in_u ro_109_19; have a4 := in_u i44; have a5 := in_u i18; have a6 := in_u ((in_c 0 rfl)); have oc := oc_316_109; by omega))) p37b (by have h := c44; omega) rfl⟩
                          exact g_ireturn (gd rfl) rfl rfl (hP _ _ ⟨s37, hI37, (fr_tr rfl (fr_sF rfl fr_rf) hF37), (Int32.ofInt (-1)), rfl, rfl, in_w (-1) 159 (in_c (-1) rfl) rfl, n68⟩)
                        · skip
                          refine g_aload_n 48 (gd rfl) rfl rfl ?_
                          refine g_iload_n 49 (gd rfl) rfl rfl ?_
                          refine g_iload 51 (gd rfl) rfl rfl ?_
                          have p51 : BTS s37 (x2).toNatClampNeg (z37) := by exact (p37a (by have h := c44; omega)).1
                          refine g_callv (X := _) (As := [.int x2, .int z37]) (r := []) (b := A 109) (q := 109) 54 (gd rfl) rfl rfl rfl rfl rfl (ww_o rfl) (Nat.le_of_ble_eq_true rfl) (Nat.zero_le _) (Nat.zero_le _) (f_312 (by first | exact dq1 hd rfl | exact dq0 hd rfl | exact dq2 hd rfl | exact dq3 hd rfl | omega) hI37 (in_w 0 31 i11x9 rfl) p51) (fun e u h => h) (fun v u h => ?_)
                          obtain ⟨s51, hI51, hF51, z51, rfl, rfl, i51, p51a, p51b, p51c, p51d⟩ := h
                          show GG _ _ _ _ _ _ _ _ [.int z51] _ _ _
                          refine g_if_eq 57 67 (gd rfl) rfl rfl (fun c54 => ?_) (fun c54 => ?_)
                          · skip
                            have i54 := z_eq 0 0 c54 i51 rfl
                            refine g_iconst (-1) 68 (gd rfl) rfl rfl ?_
                            have n68 : WYR s s51 x1 x2 x3 (Int32.ofInt (-1)) := by exact Or.inr ⟨(by rw [hF51.2.2.1 109 0 rfl, hF37.2.2.1 109 0 rfl]; rfl), ⟨⟨⟨by exact (have a0 := in_u i11x9; have a1 := in_u i3x9; have a2 := in_u i3x9a; have a3 := in_u ro_109_19; have a4 := in_u i18; have a5 := in_u ((in_c 0 rfl)); have oc := oc_316_109; by omega), by rw [← e_109_20]; exact (have a0 := in_u i11x9; have a1 := in_u i3x9; have a2 := in_u i3x9a; have a3 := in_u ro_109_19; have a4 := in_u i18; have a5 := in_u ((in_c 0 rfl)); have oc := oc_316_109; by omega)⟩, ⟨by exact (have a0 := in_u i11x9; have a1 := in_u i3x9; have a2 := in_u i3x9a; have a3 := in_u ro_109_19; have a4 := in_u i18; have a5 := in_u ((in_c 0 rfl)); have oc := oc_316_109; by omega), by rw [← e_109_20]; exact (have a0 := in_u i11x9; have a1 := in_u i3x9; have a2 := in_u i3x9a; have a3 := in_u ro_109_19; have a4 := in_u i18; have a5 := in_u ((in_c 0 rfl)); have oc := oc_316_109; by omega)⟩⟩, by exact (have a0 := in_u i11x9; have a1 := in_u i3x9; have a2 := in_u i3x9a; have a3 := in_u ro_109_19; have a4 := in_u i18; have a5 := in_u ((in_c 0 rfl)); have oc := oc_316_109; by omega)⟩, by rw [← (show gvZ s37 = gvZ s from gvz_cg (fr_tr (L := fm_316) rfl (fr_sF rfl fr_rf) hF37) rfl)]; exact wr_un hI37 p37b (p51c (by have h := c54; omega)) rfl⟩
                            exact g_ireturn (gd rfl) rfl rfl (hP _ _ ⟨s51, hI51, (fr_tr rfl (fr_tr rfl (fr_sF rfl fr_rf) hF37) hF51), (Int32.ofInt (-1)), rfl, rfl, in_w (-1) 159 (in_c (-1) rfl) rfl, n68⟩)
                          · skip
                            have i54 := z_ne 1 1 c54 i51 rfl
                            refine g_iload_n 58 (gd rfl) rfl rfl ?_
                            refine g_aload_n 59 (gd rfl) rfl rfl ?_
                            refine g_getA (q2 := 131) 62 (gd rfl) rfl rfl rfl rfl ?_
                            refine g_iload_n 63 (gd rfl) rfl rfl ?_
                            refine g_iaload 64 (gd rfl) rfl (n := 32) rfl (in_ix i3x9 rfl) (fun z63 e63 => ?_)
                            refine g_cmp_lt 67 69 (gd rfl) rfl rfl (fun c64 => ?_) (fun c64 => ?_)
                            · skip
                              have i64 := r_lt1 0 2147483646 c64 i18 (i_rng z63) rfl
                              have i64a := r_lt2 1 2147483647 c64 i18 (i_rng z63) rfl
                              refine g_iload_n 70 (gd rfl) rfl rfl ?_
                              refine g_istore 72 (gd rfl) rfl (Nat.le_of_ble_eq_true rfl) ?_
                              refine g_iconst (-1) 73 (gd rfl) rfl rfl ?_
                              refine g_istore 75 (gd rfl) rfl (Nat.le_of_ble_eq_true rfl) ?_
                              refine g_iconst 0 76 (gd rfl) rfl rfl ?_
                              refine g_istore 78 (gd rfl) rfl (Nat.le_of_ble_eq_true rfl) ?_
                              have n78 : 0 ≤ ((Int32.ofInt 0)).toInt := by exact (have a0 := in_u i11x9; have a1 := in_u i3x9; have a2 := in_u i3x9a; have a3 := in_u ro_109_19; have a4 := in_u ((in_c 0 rfl)); have a5 := in_u ((in_c (-1) rfl)); have a6 := in_u i64; have oc := oc_316_109; by omega)
                              have n78a : WFN s51 (x2).toNatClampNeg (z37) := by exact p51a (by have h := c54; omega)
                              have n78b : bt (z37) (x1).toNatClampNeg = true := by exact (p37a (by have h := c44; omega)).2
                              have n78c : (s51.1 131 (x1).toNatClampNeg).toInt + ((Int32.ofInt 0)).toInt = (s51.1 131 (x1).toNatClampNeg).toInt := by have h0 : (Int32.ofInt 0).toInt = 0 := rfl; omega
                              have n78d : (x3).toInt < (s51.1 131 (x1).toNatClampNeg).toInt ∧ (s51.1 131 (x1).toNatClampNeg).toInt ≤ 1000 := by exact ⟨by rw [← e63]; exact c64, ((p51a (by have h := c54; omega)) _ (p37a (by have h := c44; omega)).2).2.2.1.2⟩
                              have n78e : WRF s51 (x1).toNatClampNeg (x2).toNatClampNeg (z37) := by exact (show WRF s51 (x1).toNatClampNeg (x2).toNatClampNeg z37 from ⟨btw_cg (hF51.1 112 rfl) (hF51.1 113 rfl) (hF51.1 114 rfl) (hF51.2.2.1 109 19 rfl) (hF51.2.2.1 109 20 rfl) p37b, by rw [tar_cg (hF51.1 112 rfl) (hF51.1 113 rfl) (hF51.1 114 rfl) (hF51.2.2.1 109 19 rfl), wz_cg (hF51.1 115 rfl) (hF51.2.2.1 109 19 rfl)]; exact p51b (by have h := c54; omega), p51d (by have h := c54; omega)⟩)
                              have n78f : bt (z37) (x2).toNatClampNeg = true := by exact p51.1
                              have n78g : WYI (gvZ s) (x2).toNatClampNeg (x3).toInt (x1).toNatClampNeg (x1).toNatClampNeg ((Int32.ofInt 0)).toNatClampNeg ((Int32.ofInt (-1))).toInt := by have nx := wrf_0 hI51 (show WRF s51 (x1).toNatClampNeg (x2).toNatClampNeg z37 from ⟨btw_cg (hF51.1 112 rfl) (hF51.1 113 rfl) (hF51.1 114 rfl) (hF51.2.2.1 109 19 rfl) (hF51.2.2.1 109 20 rfl) p37b, by rw [tar_cg (hF51.1 112 rfl) (hF51.1 113 rfl) (hF51.1 114 rfl) (hF51.2.2.1 109 19 rfl), wz_cg (hF51.1 115 rfl) (hF51.2.2.1 109 19 rfl)]; exact p51b (by have h := c54; omega), p51d (by have h := c54; omega)⟩) p51.1 (p37a (by have h := c44; omega)).2 (k := (x3).toInt) (by rw [← e63]; exact c64); rw [(show gvZ s51 = gvZ s from gvz_cg (fr_tr (L := fm_316) rfl (fr_tr (L := fm_316) rfl (fr_sF rfl fr_rf) hF37) hF51) rfl)] at nx; exact (show WYI _ _ _ _ _ 0 _ from wyi_0 nx)
                              have n78h : ((Int32.ofInt 0)).toInt ≤ (x3).toInt + 1 := by exact (have a0 := in_u i11x9; have a1 := in_u i3x9; have a2 := in_u i3x9a; have a3 := in_u ro_109_19; have a4 := in_u ((in_c 0 rfl)); have a5 := in_u ((in_c (-1) rfl)); have a6 := in_u i64; have oc := oc_316_109; by omega)
                              have n78i : ((s51).2.2.1 109 0).toInt = 0 := by exact (by rw [hF51.2.2.1 109 0 rfl, hF37.2.2.1 109 0 rfl]; rfl)
                              have n78j : ((0 ≤ x1.toInt ∧ x1.toInt < (s.2.2.1 109 20).toInt) ∧ (0 ≤ x2.toInt ∧ x2.toInt < (s.2.2.1 109 20).toInt)) ∧ 0 ≤ x3.toInt := by exact ⟨⟨⟨by exact (have a0 := in_u i11x9; have a1 := in_u i3x9; have a2 := in_u i3x9a; have a3 := in_u ro_109_19; have a4 := in_u ((in_c 0 rfl)); have a5 := in_u ((in_c (-1) rfl)); have a6 := in_u i64; have oc := oc_316_109; by omega), by rw [← e_109_20]; exact (have a0 := in_u i11x9; have a1 := in_u i3x9; have a2 := in_u i3x9a; have a3 := in_u ro_109_19; have a4 := in_u ((in_c 0 rfl)); have a5 := in_u ((in_c (-1) rfl)); have a6 := in_u i64; have oc := oc_316_109; by omega)⟩, ⟨by exact (have a0 := in_u i11x9; have a1 := in_u i3x9; have a2 := in_u i3x9a; have a3 := in_u ro_109_19; have a4 := in_u ((in_c 0 rfl)); have a5 := in_u ((in_c (-1) rfl)); have a6 := in_u i64; have oc := oc_316_109; by omega), by rw [← e_109_20]; exact (have a0 := in_u i11x9; have a1 := in_u i3x9; have a2 := in_u i3x9a; have a3 := in_u ro_109_19; have a4 := in_u ((in_c 0 rfl)); have a5 := in_u ((in_c (-1) rfl)); have a6 := in_u i64; have oc := oc_316_109; by omega)⟩⟩, by exact (have a0 := in_u i11x9; have a1 := in_u i3x9; have a2 := in_u i3x9a; have a3 := in_u ro_109_19; have a4 := in_u ((in_c 0 rfl)); have a5 := in_u ((in_c (-1) rfl)); have a6 := in_u i64; have oc := oc_316_109; by omega)⟩
                              exact gg_w (by first | exact Nat.le_of_ble_eq_true rfl | omega) (gg_f (gf_cons rfl (gf_cons rfl (gf_cons rfl (gf_cons rfl (gf_cons rfl (gf_cons rfl (gf_cons rfl (gf_cons rfl gf_nil)))))))) (ct78 1001 s51 z37 x1 (Int32.ofInt (-1)) (Int32.ofInt 0) hI51 (fr_tr rfl (fr_tr rfl (fr_sF rfl fr_rf) hF37) hF51) (in_w 0 31 i3x9 rfl) (in_w 0 31 i11x9 rfl) (in_w 0 2147483646 i64 rfl) (in_w 0 31 i3x9 rfl) (in_w (-1) 159 (in_c (-1) rfl) rfl) (in_w 0 1000 (in_c 0 rfl) rfl) c44 n78 n78a n78b n78c n78d n78e n78f n78g n78h n78i n78j (m_in 1001 (in_w 0 1000 (in_c 0 rfl) rfl) rfl)))
                            · skip
                              refine g_iconst (-1) 68 (gd rfl) rfl rfl ?_
                              have n68 : WYR s s51 x1 x2 x3 (Int32.ofInt (-1)) := by exact Or.inr ⟨(by rw [hF51.2.2.1 109 0 rfl, hF37.2.2.1 109 0 rfl]; rfl), ⟨⟨⟨by exact (have a0 := in_u i11x9; have a1 := in_u i3x9; have a2 := in_u i3x9a; have a3 := in_u ro_109_19; have a4 := in_u i18; have a5 := in_u ((in_c 0 rfl)); have oc := oc_316_109; by omega), by rw [← e_109_20]; exact (have a0 := in_u i11x9; have a1 := in_u i3x9; have a2 := in_u i3x9a; have a3 := in_u ro_109_19; have a4 := in_u i18; have a5 := in_u ((in_c 0 rfl)); have oc := oc_316_109; by omega)⟩, ⟨by exact (have a0 := in_u i11x9; have a1 := in_u i3x9; have a2 := in_u i3x9a; have a3 := in_u ro_109_19; have a4 := in_u i18; have a5 := in_u ((in_c 0 rfl)); have oc := oc_316_109; by omega), by rw [← e_109_20]; exact (have a0 := in_u i11x9; have a1 := in_u i3x9; have a2 := in_u i3x9a; have a3 := in_u ro_109_19; have a4 := in_u i18; have a5 := in_u ((in_c 0 rfl)); have oc := oc_316_109; by omega)⟩⟩, by exact (have a0 := in_u i11x9; have a1 := in_u i3x9; have a2 := in_u i3x9a; have a3 := in_u ro_109_19; have a4 := in_u i18; have a5 := in_u ((in_c 0 rfl)); have oc := oc_316_109; by omega)⟩, by rw [← (show gvZ s51 = gvZ s from gvz_cg (fr_tr (L := fm_316) rfl (fr_tr (L := fm_316) rfl (fr_sF rfl fr_rf) hF37) hF51) rfl)]; exact wrf_k hI51 (show WRF s51 (x1).toNatClampNeg (x2).toNatClampNeg z37 from ⟨btw_cg (hF51.1 112 rfl) (hF51.1 113 rfl) (hF51.1 114 rfl) (hF51.2.2.1 109 19 rfl) (hF51.2.2.1 109 20 rfl) p37b, by rw [tar_cg (hF51.1 112 rfl) (hF51.1 113 rfl) (hF51.1 114 rfl) (hF51.2.2.1 109 19 rfl), wz_cg (hF51.1 115 rfl) (hF51.2.2.1 109 19 rfl)]; exact p51b (by have h := c54; omega), p51d (by have h := c54; omega)⟩) p51.1 (p37a (by have h := c44; omega)).2 (by rw [← e63]; exact c64) rfl⟩
                              exact g_ireturn (gd rfl) rfl rfl (hP _ _ ⟨s51, hI51, (fr_tr rfl (fr_tr rfl (fr_sF rfl fr_rf) hF37) hF51), (Int32.ofInt (-1)), rfl, rfl, in_w (-1) 159 (in_c (-1) rfl) rfl, n68⟩)
                      · skip
                        exact zn_ne c29 (in_c 0 rfl) rfl
                    · skip
                      exact zn_gt c26x3x25 (in_c 0 rfl) rfl
                  · skip
                    exact zn_eq c26x3x10 (in_c 1 rfl) rfl
                · skip
                  exact zn_eq c26x3x2 (in_c 1 rfl) rfl
