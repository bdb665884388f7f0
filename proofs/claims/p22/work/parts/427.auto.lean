section
/-! methods, by vc.py -/
def fm_316 : FM := ([129, 131], [130], [(109, 0)], [])
/-- GraphHouseModel.way -/
theorem k_316 {Z : AmZ} {A : Nat → Nat} {s : GS} {ex : va_W} {d : Nat} {X : AmX} {x1 : Int32} {x2 : Int32} {x3 : Int32} (hd : 5 ≤ d) (hI : Inv s)  : GC Z d 316 [.ref (A 109), .int x1, .int x2, .int x3] (WW Z A s ++ ex) 0 0 (fun v u => ∃ t : GS, Inv t ∧ Fr fm_316 s t ∧ ∃ z : Int32, v = some (.int z) ∧ u = WW Z A t ++ ex ∧ In z (-1) 159) X := by
  intro post xp hP hX
  obtain ⟨u_109_19, e_109_19⟩ : ∃ w, w = s.2.2.1 109 19 := ⟨_, rfl⟩
  have ro_109_19 := inv_F hI 0 160 rfl e_109_19
  obtain ⟨u_109_20, e_109_20⟩ : ∃ w, w = s.2.2.1 109 20 := ⟨_, rfl⟩
  have ro_109_20 := inv_F hI 0 32 rfl e_109_20
  have ct78 : ∀ (k78 : Nat) (sc78 : GS) (y78_4 : Int32) (y78_5 : Int32) (y78_6 : Int32) (y78_7 : Int32), Inv sc78 → Fr fm_316 s sc78 → (In x1 0 31) → (In x2 0 31) → (In x3 0 2147483646) → (In y78_5 0 31) → (In y78_6 (-1) 159) → (In y78_7 0 1000) → ((y78_4).toInt ≠ 0) → (0 ≤ (y78_7).toInt) → (WFN sc78 (x2).toNatClampNeg (y78_4)) → (bt (y78_4) (y78_5).toNatClampNeg = true) → ((sc78.1 131 (y78_5).toNatClampNeg).toInt + (y78_7).toInt = (sc78.1 131 (x1).toNatClampNeg).toInt) → ((x3).toInt < (sc78.1 131 (x1).toNatClampNeg).toInt ∧ (sc78.1 131 (x1).toNatClampNeg).toInt ≤ 1000) → 1000 - (y78_7).toInt < (k78 : Int) → GG Z (d - 1) 316 post (gx xp) (1 + k78 * 147601) 78 (fun j => xlook j [(0, .ref (A 109)), (1, .int x1), (2, .int x2), (3, .int x3), (4, .int y78_4), (5, .int y78_5), (6, .int y78_6), (7, .int y78_7)]) [] (WW Z A sc78 ++ ex) 0 0 := by
    intro k78
    induction k78 with
    | zero => intro sc78 y78_4 y78_5 y78_6 y78_7 hIc78 hFc78 j78_1 j78_2 j78_3 j78_5 j78_6 j78_7 nz78_4 n78_0 g78_0 g78_1 g78_2 g78_3 mm78; exact m_no mm78 j78_7 rfl
    | succ k78 ih78 =>
      intro sc78 y78_4 y78_5 y78_6 y78_7 hIc78 hFc78 j78_1 j78_2 j78_3 j78_5 j78_6 j78_7 nz78_4 n78_0 g78_0 g78_1 g78_2 g78_3 mm78
      refine gg_w (M := 1 + k78 * 147601 + 147601) gws ?_
      have ct92 : ∀ (k92 : Nat) (sc92 : GS) (y92_6 : Int32) (y92_8 : Int32), Inv sc92 → Fr fm_316 s sc92 → (In y92_6 (-1) 159) → (In y92_8 (-1) 159) → ((y78_4).toInt ≠ 0) → ((y78_7).toInt ≤ (x3).toInt) → (0 ≤ (y78_7).toInt) → (WFN sc92 (x2).toNatClampNeg (y78_4)) → (bt (y78_4) (y78_5).toNatClampNeg = true) → ((sc92.1 131 (y78_5).toNatClampNeg).toInt + (y78_7).toInt = (sc92.1 131 (x1).toNatClampNeg).toInt) → ((x3).toInt < (sc92.1 131 (x1).toNatClampNeg).toInt ∧ (sc92.1 131 (x1).toNatClampNeg).toInt ≤ 1000) → ((∀ a : Nat, (y92_8).toInt < (a : Int) → a < 160 → WOK sc92 (y78_4) (y78_5).toNatClampNeg a → 0 ≤ (y92_6).toInt) ∧ (0 ≤ (y92_6).toInt → WOK sc92 (y78_4) (y78_5).toNatClampNeg (y92_6).toNatClampNeg)) → (y92_8).toInt - (-1) < (k92 : Int) → GG Z (d - 1) 316 post (gx xp) (1 + k78 * 147601 + 1 + k92 * 900) 92 (fun j => xlook j [(0, .ref (A 109)), (1, .int x1), (2, .int x2), (3, .int x3), (4, .int y78_4), (5, .int y78_5), (6, .int y92_6), (7, .int y78_7), (8, .int y92_8)]) [] (WW Z A sc92 ++ ex) 0 0 := by
        intro k92
        induction k92 with
        | zero => intro sc92 y92_6 y92_8 hIc92 hFc92 j92_6 j92_8 nz92_4 n92_0 n92_1 g92_0 g92_1 g92_2 g92_3 g92_4 mm92; exact m_nod mm92 j92_8 rfl
        | succ k92 ih92 =>
          intro sc92 y92_6 y92_8 hIc92 hFc92 j92_6 j92_8 nz92_4 n92_0 n92_1 g92_0 g92_1 g92_2 g92_3 g92_4 mm92
          refine gg_w (M := 1 + k78 * 147601 + 1 + k92 * 900 + 900) gws ?_
          refine g_iload 94 (gd rfl) rfl rfl ?_
          refine g_if_lt 97 245 (gd rfl) rfl rfl (fun c94 => ?_) (fun c94 => ?_)
          · skip
            have i94 := z_lt (-1) (-1) c94 j92_8 rfl
            have i245 : In y92_6 0 159 := by obtain ⟨wa, wa1, wa2⟩ := (g92_0 y78_5.toNatClampNeg g92_1).2.2.2 (by have h1 := g92_2; have h2 := g92_3; have a0 := oa9 j78_7 j78_5 j78_2 j78_1 ro_109_20 ro_109_19 i94 j92_6 j78_3; omega); have hge := g92_4.1 wa (by have a0 := oa9 j78_7 j78_5 j78_2 j78_1 ro_109_20 ro_109_19 i94 j92_6 j78_3; omega) wa1 wa2; have h6 := j92_6; unfold In at h6; exact ⟨hge, by omega⟩
            refine g_aload_n 246 (gd rfl) rfl rfl ?_
            refine g_getA (q2 := 114) 249 (gd rfl) rfl rfl rfl rfl ?_
            refine g_aload_n 250 (gd rfl) rfl rfl ?_
            refine g_getI 253 (gd rfl) rfl rfl rfl (fun z250 e250 => ?_)
            have q250 : u_109_19 = z250 := (fr_F e_109_19 hFc92 rfl).trans e250.symm
            subst q250
            refine g_iload 255 (gd rfl) rfl rfl ?_
            refine g_iadd 256 (gd rfl) rfl (fun z255 e255 => ?_)
            have i255 := in_add 0 319 e255 ro_109_19 i245 rfl rfl
            refine g_iaload 257 (gd rfl) rfl (n := 480) rfl (in_ix i255 rfl) (fun z256 e256 => ?_)
            have i256 := inv_I hIc92 (n := 480) (t := 0) 0 31 rfl (in_ix i255 rfl) rfl e256
            have hw := g92_4.2 (by have h := i245; unfold In at h; omega); have hb6 : bs sc92 + y92_6.toNatClampNeg = z255.toNatClampNeg := bs_x (show u_109_19 = sc92.2.2.1 109 19 from fr_F e_109_19 hFc92 rfl) (by have a0 := oa10 j78_7 j78_5 j78_2 j78_1 ro_109_20 ro_109_19 i94 i245 j78_3 i255; have a10 := t_add e255 ro_109_19 i245 rfl; omega) (by have a0 := oa10 j78_7 j78_5 j78_2 j78_1 ro_109_20 ro_109_19 i94 i245 j78_3 i255; have a10 := t_add e255 ro_109_19 i245 rfl; omega) (by have a0 := oa10 j78_7 j78_5 j78_2 j78_1 ro_109_20 ro_109_19 i94 i245 j78_3 i255; have a10 := t_add e255 ro_109_19 i245 rfl; omega); unfold WOK at hw; rw [hb6, ← e256] at hw
            refine g_istore 259 (gd rfl) rfl (Nat.le_of_ble_eq_true rfl) ?_
            refine g_iinc 262 (gd rfl) rfl rfl (Nat.le_of_ble_eq_true rfl) (fun z259 e259 => ?_)
            have i259 := in_add 1 1001 e259 j78_7 (in_c 1 rfl) rfl rfl
            refine g_goto 78 (gd rfl) rfl ?_
            have i78 : In z259 0 1000 := by have h3 := g92_3; exact ⟨by have a0 := oa9 j78_7 j78_5 j78_2 j78_1 ro_109_20 ro_109_19 i94 i245 i259; have a9 := t_add e259 j78_7 (in_c 1 rfl) rfl; have a10 := oa4 ((in_c 1 rfl)) i256 j78_3 i255; have a14 := t_add e255 ro_109_19 i245 rfl; omega, by have a0 := oa9 j78_7 j78_5 j78_2 j78_1 ro_109_20 ro_109_19 i94 i245 i259; have a9 := t_add e259 j78_7 (in_c 1 rfl) rfl; have a10 := oa4 ((in_c 1 rfl)) i256 j78_3 i255; have a14 := t_add e255 ro_109_19 i245 rfl; omega⟩
            have n78 : 0 ≤ (z259).toInt := by have a0 := oa9 j78_7 j78_5 j78_2 j78_1 ro_109_20 ro_109_19 i94 i245 i78; have a9 := t_add e259 j78_7 (in_c 1 rfl) rfl; have a10 := oa4 ((in_c 1 rfl)) i256 j78_3 i255; have a14 := t_add e255 ro_109_19 i245 rfl; omega
            have n78a : WFN sc92 (x2).toNatClampNeg (y78_4) := by exact g92_0
            have n78b : bt (y78_4) (z256).toNatClampNeg = true := by exact hw.2.2.1
            have n78c : (sc92.1 131 (z256).toNatClampNeg).toInt + (z259).toInt = (sc92.1 131 (x1).toNatClampNeg).toInt := by have h1 := hw.2.2.2.2.2; have h2 := g92_2; have a0 := oa9 j78_7 j78_5 j78_2 j78_1 ro_109_20 ro_109_19 i94 i245 i78; have a9 := t_add e259 j78_7 (in_c 1 rfl) rfl; have a10 := oa4 ((in_c 1 rfl)) i256 j78_3 i255; have a14 := t_add e255 ro_109_19 i245 rfl; omega
            have n78d : (x3).toInt < (sc92.1 131 (x1).toNatClampNeg).toInt ∧ (sc92.1 131 (x1).toNatClampNeg).toInt ≤ 1000 := by exact g92_3
            exact gg_w (by first | exact Nat.le_add_right _ _ | exact gw2 | exact gw3 | exact gwe rfl | exact gwf rfl | exact gwg rfl | exact gwh rfl | omega) (gg_f (gf_cons rfl (gf_cons rfl (gf_cons rfl (gf_cons rfl (gf_cons rfl (gf_cons rfl (gf_cons rfl (gf_cons rfl gf_nil)))))))) (ih78 sc92 y78_4 z256 y92_6 z259 hIc92 hFc92 (in_w 0 31 j78_1 rfl) (in_w 0 31 j78_2 rfl) (in_w 0 2147483646 j78_3 rfl) (in_w 0 31 i256 rfl) (in_w (-1) 159 i245 rfl) i78 nz92_4 n78 n78a n78b n78c n78d (m_up mm78 (t_add e259 j78_7 (in_c 1 rfl) rfl) (in_w 1 1 (in_c 1 rfl) rfl))))
          · skip
            have i94 := z_ge 0 159 c94 j92_8 rfl
            refine g_aload_n 98 (gd rfl) rfl rfl ?_
            refine g_getI 101 (gd rfl) rfl rfl rfl (fun z98 e98 => ?_)
            have q98 : u_109_19 = z98 := (fr_F e_109_19 hFc92 rfl).trans e98.symm
            subst q98
            refine g_iload 103 (gd rfl) rfl rfl ?_
            refine g_iadd 104 (gd rfl) rfl (fun z103 e103 => ?_)
            have i103 := in_add 0 319 e103 ro_109_19 i94 rfl rfl
            refine g_istore 106 (gd rfl) rfl (Nat.le_of_ble_eq_true rfl) ?_
            refine g_aload_n 107 (gd rfl) rfl rfl ?_
            refine g_getA (q2 := 112) 110 (gd rfl) rfl rfl rfl rfl ?_
            refine g_iload 112 (gd rfl) rfl rfl ?_
            refine g_baload 113 (gd rfl) rfl (n := 480) rfl (in_ix i103 rfl) (fun z112 e112 => ?_)
            have i112 := inv_I hIc92 (n := 480) (t := 3) 0 1 rfl (in_ix i103 rfl) rfl e112
            refine g_if_eq 116 166 (gd rfl) rfl rfl (fun c113 => ?_) (fun c113 => ?_)
            · skip
              have i113 := z_eq 0 0 c113 i112 rfl
              refine g_iconst 0 167 (gd rfl) rfl rfl ?_
              refine g_istore 169 (gd rfl) rfl (Nat.le_of_ble_eq_true rfl) ?_
              refine g_iload 171 (gd rfl) rfl rfl ?_
              refine g_if_eq 174 235 (gd rfl) rfl rfl (fun c171 => ?_) (fun c171 => ?_)
              · skip
                refine g_iload 237 (gd rfl) rfl rfl ?_
                refine g_istore 239 (gd rfl) rfl (Nat.le_of_ble_eq_true rfl) ?_
                refine g_iinc 242 (gd rfl) rfl rfl (Nat.le_of_ble_eq_true rfl) (fun z239 e239 => ?_)
                have i239 := in_add (-1) 158 e239 i94 (in_c (-1) rfl) rfl rfl
                refine g_goto 92 (gd rfl) rfl ?_
                have n92 : (y78_7).toInt ≤ (x3).toInt := by first | exact n92_0 | (have a0 := oa10 j78_7 j78_5 j78_2 j78_1 ro_109_20 ro_109_19 i94 j92_6 ((in_c 0 rfl)) i103; have a10 := t_add e103 ro_109_19 i94 rfl; have a11 := in_u i239; have a12 := t_add e239 i94 (in_c (-1) rfl) rfl; have a13 := oa2 ((in_c (-1) rfl)) j78_3; omega)
                have n92a : 0 ≤ (y78_7).toInt := by first | exact n78_0 | (have a0 := oa10 j78_7 j78_5 j78_2 j78_1 ro_109_20 ro_109_19 i94 j92_6 ((in_c 0 rfl)) i103; have a10 := t_add e103 ro_109_19 i94 rfl; have a11 := in_u i239; have a12 := t_add e239 i94 (in_c (-1) rfl) rfl; have a13 := oa2 ((in_c (-1) rfl)) j78_3; omega)
                have n92b : WFN sc92 (x2).toNatClampNeg (y78_4) := by exact g92_0
                have n92c : bt (y78_4) (y78_5).toNatClampNeg = true := by exact g92_1
                have n92d : (sc92.1 131 (y78_5).toNatClampNeg).toInt + (y78_7).toInt = (sc92.1 131 (x1).toNatClampNeg).toInt := by exact g92_2
                have n92e : (x3).toInt < (sc92.1 131 (x1).toNatClampNeg).toInt ∧ (sc92.1 131 (x1).toNatClampNeg).toInt ≤ 1000 := by exact g92_3
                have n92f : (∀ a : Nat, (z239).toInt < (a : Int) → a < 160 → WOK sc92 (y78_4) (y78_5).toNatClampNeg a → 0 ≤ (y92_6).toInt) ∧ (0 ≤ (y92_6).toInt → WOK sc92 (y78_4) (y78_5).toNatClampNeg (y92_6).toNatClampNeg) := by exact wa_no g92_4 (by have a0 := oa10 j78_7 j78_5 j78_2 j78_1 ro_109_20 ro_109_19 i94 j92_6 ((in_c 0 rfl)) i103; have a10 := t_add e103 ro_109_19 i94 rfl; have a11 := in_u i239; have a12 := t_add e239 i94 (in_c (-1) rfl) rfl; have a13 := oa2 ((in_c (-1) rfl)) j78_3; omega) (by have a0 := oa10 j78_7 j78_5 j78_2 j78_1 ro_109_20 ro_109_19 i94 j92_6 ((in_c 0 rfl)) i103; have a10 := t_add e103 ro_109_19 i94 rfl; have a11 := in_u i239; have a12 := t_add e239 i94 (in_c (-1) rfl) rfl; have a13 := oa2 ((in_c (-1) rfl)) j78_3; omega) (fun hw => by have h1 := hw.1; rw [(bs_x (x := z103) (a := y92_8) (show u_109_19 = sc92.2.2.1 109 19 from fr_F e_109_19 hFc92 rfl) (by have a0 := oa10 j78_7 j78_5 j78_2 j78_1 ro_109_20 ro_109_19 i94 j92_6 ((in_c 0 rfl)) i103; have a10 := t_add e103 ro_109_19 i94 rfl; have a11 := in_u i239; have a12 := t_add e239 i94 (in_c (-1) rfl) rfl; have a13 := oa2 ((in_c (-1) rfl)) j78_3; omega) (by have a0 := oa10 j78_7 j78_5 j78_2 j78_1 ro_109_20 ro_109_19 i94 j92_6 ((in_c 0 rfl)) i103; have a10 := t_add e103 ro_109_19 i94 rfl; have a11 := in_u i239; have a12 := t_add e239 i94 (in_c (-1) rfl) rfl; have a13 := oa2 ((in_c (-1) rfl)) j78_3; omega) (by have a0 := oa10 j78_7 j78_5 j78_2 j78_1 ro_109_20 ro_109_19 i94 j92_6 ((in_c 0 rfl)) i103; have a10 := t_add e103 ro_109_19 i94 rfl; have a11 := in_u i239; have a12 := t_add e239 i94 (in_c (-1) rfl) rfl; have a13 := oa2 ((in_c (-1) rfl)) j78_3; omega)), ← e112] at h1; exact h1 c113)
                exact gg_w (by first | exact Nat.le_add_right _ _ | exact gw2 | exact gw3 | exact gwe rfl | exact gwf rfl | exact gwg rfl | exact gwh rfl | omega) (gg_f (gf_cons rfl (gf_cons rfl (gf_cons rfl (gf_cons rfl (gf_cons rfl (gf_cons rfl (gf_cons rfl (gf_cons rfl (gf_cons rfl gf_nil))))))))) (ih92 sc92 y92_6 z239 hIc92 hFc92 (in_w (-1) 159 j92_6 rfl) (in_w (-1) 159 i239 rfl) nz92_4 n92 n92a n92b n92c n92d n92e n92f (m_dn mm92 (t_add e239 i94 (in_c (-1) rfl) rfl) (in_w (-1) (-1) (in_c (-1) rfl) rfl))))
              · skip
                exact zn_ne c171 (in_c 0 rfl) rfl
            · skip
              have i113 := z_ne 1 1 c113 i112 rfl
              refine g_aload_n 117 (gd rfl) rfl rfl ?_
              refine g_getA (q2 := 113) 120 (gd rfl) rfl rfl rfl rfl ?_
              refine g_iload 122 (gd rfl) rfl rfl ?_
              refine g_iaload 123 (gd rfl) rfl (n := 480) rfl (in_ix i103 rfl) (fun z122 e122 => ?_)
              have i122 := inv_I hIc92 (n := 480) (t := 0) 0 31 rfl (in_ix i103 rfl) rfl e122
              refine g_iload 125 (gd rfl) rfl rfl ?_
              refine g_cmp_ne 128 166 (gd rfl) rfl rfl (fun c125 => ?_) (fun c125 => ?_)
              · skip
                refine g_iconst 0 167 (gd rfl) rfl rfl ?_
                refine g_istore 169 (gd rfl) rfl (Nat.le_of_ble_eq_true rfl) ?_
                refine g_iload 171 (gd rfl) rfl rfl ?_
                refine g_if_eq 174 235 (gd rfl) rfl rfl (fun c171 => ?_) (fun c171 => ?_)
                · skip
                  refine g_iload 237 (gd rfl) rfl rfl ?_
                  refine g_istore 239 (gd rfl) rfl (Nat.le_of_ble_eq_true rfl) ?_
                  refine g_iinc 242 (gd rfl) rfl rfl (Nat.le_of_ble_eq_true rfl) (fun z239 e239 => ?_)
                  have i239 := in_add (-1) 158 e239 i94 (in_c (-1) rfl) rfl rfl
                  refine g_goto 92 (gd rfl) rfl ?_
                  have n92 : (y78_7).toInt ≤ (x3).toInt := by first | exact n92_0 | (have a0 := oa10 j78_7 j78_5 j78_2 j78_1 ro_109_20 ro_109_19 i94 j92_6 ((in_c 0 rfl)) i103; have a10 := t_add e103 ro_109_19 i94 rfl; have a11 := in_u i239; have a12 := t_add e239 i94 (in_c (-1) rfl) rfl; have a13 := oa2 ((in_c (-1) rfl)) j78_3; omega)
                  have n92a : 0 ≤ (y78_7).toInt := by first | exact n78_0 | (have a0 := oa10 j78_7 j78_5 j78_2 j78_1 ro_109_20 ro_109_19 i94 j92_6 ((in_c 0 rfl)) i103; have a10 := t_add e103 ro_109_19 i94 rfl; have a11 := in_u i239; have a12 := t_add e239 i94 (in_c (-1) rfl) rfl; have a13 := oa2 ((in_c (-1) rfl)) j78_3; omega)
                  have n92b : WFN sc92 (x2).toNatClampNeg (y78_4) := by exact g92_0
                  have n92c : bt (y78_4) (y78_5).toNatClampNeg = true := by exact g92_1
                  have n92d : (sc92.1 131 (y78_5).toNatClampNeg).toInt + (y78_7).toInt = (sc92.1 131 (x1).toNatClampNeg).toInt := by exact g92_2
                  have n92e : (x3).toInt < (sc92.1 131 (x1).toNatClampNeg).toInt ∧ (sc92.1 131 (x1).toNatClampNeg).toInt ≤ 1000 := by exact g92_3
                  have n92f : (∀ a : Nat, (z239).toInt < (a : Int) → a < 160 → WOK sc92 (y78_4) (y78_5).toNatClampNeg a → 0 ≤ (y92_6).toInt) ∧ (0 ≤ (y92_6).toInt → WOK sc92 (y78_4) (y78_5).toNatClampNeg (y92_6).toNatClampNeg) := by exact wa_no g92_4 (by have a0 := oa10 j78_7 j78_5 j78_2 j78_1 ro_109_20 ro_109_19 i94 j92_6 ((in_c 0 rfl)) i103; have a10 := t_add e103 ro_109_19 i94 rfl; have a11 := in_u i239; have a12 := t_add e239 i94 (in_c (-1) rfl) rfl; have a13 := oa2 ((in_c (-1) rfl)) j78_3; omega) (by have a0 := oa10 j78_7 j78_5 j78_2 j78_1 ro_109_20 ro_109_19 i94 j92_6 ((in_c 0 rfl)) i103; have a10 := t_add e103 ro_109_19 i94 rfl; have a11 := in_u i239; have a12 := t_add e239 i94 (in_c (-1) rfl) rfl; have a13 := oa2 ((in_c (-1) rfl)) j78_3; omega) (fun hw => by have h1 := hw.2.1; rw [(bs_x (x := z103) (a := y92_8) (show u_109_19 = sc92.2.2.1 109 19 from fr_F e_109_19 hFc92 rfl) (by have a0 := oa10 j78_7 j78_5 j78_2 j78_1 ro_109_20 ro_109_19 i94 j92_6 ((in_c 0 rfl)) i103; have a10 := t_add e103 ro_109_19 i94 rfl; have a11 := in_u i239; have a12 := t_add e239 i94 (in_c (-1) rfl) rfl; have a13 := oa2 ((in_c (-1) rfl)) j78_3; omega) (by have a0 := oa10 j78_7 j78_5 j78_2 j78_1 ro_109_20 ro_109_19 i94 j92_6 ((in_c 0 rfl)) i103; have a10 := t_add e103 ro_109_19 i94 rfl; have a11 := in_u i239; have a12 := t_add e239 i94 (in_c (-1) rfl) rfl; have a13 := oa2 ((in_c (-1) rfl)) j78_3; omega) (by have a0 := oa10 j78_7 j78_5 j78_2 j78_1 ro_109_20 ro_109_19 i94 j92_6 ((in_c 0 rfl)) i103; have a10 := t_add e103 ro_109_19 i94 rfl; have a11 := in_u i239; have a12 := t_add e239 i94 (in_c (-1) rfl) rfl; have a13 := oa2 ((in_c (-1) rfl)) j78_3; omega)), ← e122] at h1; have r1 := i122; have r2 := j78_5; unfold In at r1 r2; have e5 : y78_5.toNatClampNeg = y78_5.toInt.toNat := rfl; have e6 : z122.toNatClampNeg = z122.toInt.toNat := rfl; have hc := c125; omega)
                  exact gg_w (by first | exact Nat.le_add_right _ _ | exact gw2 | exact gw3 | exact gwe rfl | exact gwf rfl | exact gwg rfl | exact gwh rfl | omega) (gg_f (gf_cons rfl (gf_cons rfl (gf_cons rfl (gf_cons rfl (gf_cons rfl (gf_cons rfl (gf_cons rfl (gf_cons rfl (gf_cons rfl gf_nil))))))))) (ih92 sc92 y92_6 z239 hIc92 hFc92 (in_w (-1) 159 j92_6 rfl) (in_w (-1) 159 i239 rfl) nz92_4 n92 n92a n92b n92c n92d n92e n92f (m_dn mm92 (t_add e239 i94 (in_c (-1) rfl) rfl) (in_w (-1) (-1) (in_c (-1) rfl) rfl))))
                · skip
                  exact zn_ne c171 (in_c 0 rfl) rfl
              · skip
                refine g_iload 130 (gd rfl) rfl rfl ?_
                refine g_aload_n 131 (gd rfl) rfl rfl ?_
                refine g_getA (q2 := 114) 134 (gd rfl) rfl rfl rfl rfl ?_
                refine g_iload 136 (gd rfl) rfl rfl ?_
                refine g_iaload 137 (gd rfl) rfl (n := 480) rfl (in_ix i103 rfl) (fun z136 e136 => ?_)
                have i136 := inv_I hIc92 (n := 480) (t := 0) 0 31 rfl (in_ix i103 rfl) rfl e136
                refine g_calls (As := [.int y78_4, .int z136]) (r := []) 140 (gd rfl) rfl rfl rfl rfl rfl (Nat.le_of_ble_eq_true rfl) (mc := 0) (ms := 0) (Nat.zero_le _) (Nat.zero_le _) (P := fun v u => _) ?_ (fun v u h => h)
                intro po137 xx137 hp137 hx137
                refine g_enter2 (k := 311) (N := 300) (by first | exact dq1 hd rfl | exact dq0 hd rfl | exact dq2 hd rfl | exact dq3 hd rfl | omega) rfl (Nat.le_of_ble_eq_true rfl) ?_
                refine g_iload_n 1 (gd rfl) rfl rfl ?_
                refine g_iload_n 2 (gd rfl) rfl rfl ?_
                refine g_ishr 3 (gd rfl) rfl (fun z137x2 e137x2 => ?_)
                refine g_iconst 1 4 (gd rfl) rfl rfl ?_
                refine g_iand 5 (gd rfl) rfl (fun z137x4 e137x4 => ?_)
                have i137x4 := in_and2 e137x4 (in_c 1 rfl) rfl
                refine g_iconst 1 6 (gd rfl) rfl rfl ?_
                refine g_cmp_ne 9 13 (gd rfl) rfl rfl (fun c137x6 => ?_) (fun c137x6 => ?_)
                · skip
                  have i137x6 := r_ne1 0 0 c137x6 i137x4 (in_c 1 rfl) rfl
                  refine g_iconst 0 14 (gd rfl) rfl rfl ?_
                  refine g_ireturn (gd rfl) rfl (nb01 (in_w 0 1 (in_c 0 rfl) rfl)) (hp137 _ _ ?_)
                  show GG _ _ _ _ _ _ _ _ [.int (Int32.ofInt 0)] _ _ _
                  refine g_if_eq 143 166 (gd rfl) rfl rfl (fun c140 => ?_) (fun c140 => ?_)
                  · skip
                    refine g_iconst 0 167 (gd rfl) rfl rfl ?_
                    refine g_istore 169 (gd rfl) rfl (Nat.le_of_ble_eq_true rfl) ?_
                    refine g_iload 171 (gd rfl) rfl rfl ?_
                    refine g_if_eq 174 235 (gd rfl) rfl rfl (fun c171 => ?_) (fun c171 => ?_)
                    · skip
                      refine g_iload 237 (gd rfl) rfl rfl ?_
                      refine g_istore 239 (gd rfl) rfl (Nat.le_of_ble_eq_true rfl) ?_
                      refine g_iinc 242 (gd rfl) rfl rfl (Nat.le_of_ble_eq_true rfl) (fun z239 e239 => ?_)
                      have i239 := in_add (-1) 158 e239 i94 (in_c (-1) rfl) rfl rfl
                      refine g_goto 92 (gd rfl) rfl ?_
                      have n92 : (y78_7).toInt ≤ (x3).toInt := by first | exact n92_0 | (have a0 := oa10 j78_7 j78_5 j78_2 j78_1 ro_109_20 ro_109_19 i94 j92_6 ((in_c 0 rfl)) i103; have a10 := t_add e103 ro_109_19 i94 rfl; have a11 := in_u i239; have a12 := t_add e239 i94 (in_c (-1) rfl) rfl; have a13 := oa2 ((in_c (-1) rfl)) j78_3; omega)
                      have n92a : 0 ≤ (y78_7).toInt := by first | exact n78_0 | (have a0 := oa10 j78_7 j78_5 j78_2 j78_1 ro_109_20 ro_109_19 i94 j92_6 ((in_c 0 rfl)) i103; have a10 := t_add e103 ro_109_19 i94 rfl; have a11 := in_u i239; have a12 := t_add e239 i94 (in_c (-1) rfl) rfl; have a13 := oa2 ((in_c (-1) rfl)) j78_3; omega)
                      have n92b : WFN sc92 (x2).toNatClampNeg (y78_4) := by exact g92_0
                      have n92c : bt (y78_4) (y78_5).toNatClampNeg = true := by exact g92_1
                      have n92d : (sc92.1 131 (y78_5).toNatClampNeg).toInt + (y78_7).toInt = (sc92.1 131 (x1).toNatClampNeg).toInt := by exact g92_2
                      have n92e : (x3).toInt < (sc92.1 131 (x1).toNatClampNeg).toInt ∧ (sc92.1 131 (x1).toNatClampNeg).toInt ≤ 1000 := by exact g92_3
                      have n92f : (∀ a : Nat, (z239).toInt < (a : Int) → a < 160 → WOK sc92 (y78_4) (y78_5).toNatClampNeg a → 0 ≤ (y92_6).toInt) ∧ (0 ≤ (y92_6).toInt → WOK sc92 (y78_4) (y78_5).toNatClampNeg (y92_6).toNatClampNeg) := by exact wa_no g92_4 (by have a0 := oa10 j78_7 j78_5 j78_2 j78_1 ro_109_20 ro_109_19 i94 j92_6 ((in_c 0 rfl)) i103; have a10 := t_add e103 ro_109_19 i94 rfl; have a11 := in_u i239; have a12 := t_add e239 i94 (in_c (-1) rfl) rfl; have a13 := oa2 ((in_c (-1) rfl)) j78_3; omega) (by have a0 := oa10 j78_7 j78_5 j78_2 j78_1 ro_109_20 ro_109_19 i94 j92_6 ((in_c 0 rfl)) i103; have a10 := t_add e103 ro_109_19 i94 rfl; have a11 := in_u i239; have a12 := t_add e239 i94 (in_c (-1) rfl) rfl; have a13 := oa2 ((in_c (-1) rfl)) j78_3; omega) (fun hw => by have h1 := hw.2.2.1; have hb := bt_no e137x2 e137x4 i136 c137x6; rw [(bs_x (x := z103) (a := y92_8) (show u_109_19 = sc92.2.2.1 109 19 from fr_F e_109_19 hFc92 rfl) (by have a0 := oa10 j78_7 j78_5 j78_2 j78_1 ro_109_20 ro_109_19 i94 j92_6 ((in_c 0 rfl)) i103; have a10 := t_add e103 ro_109_19 i94 rfl; have a11 := in_u i239; have a12 := t_add e239 i94 (in_c (-1) rfl) rfl; have a13 := oa2 ((in_c (-1) rfl)) j78_3; omega) (by have a0 := oa10 j78_7 j78_5 j78_2 j78_1 ro_109_20 ro_109_19 i94 j92_6 ((in_c 0 rfl)) i103; have a10 := t_add e103 ro_109_19 i94 rfl; have a11 := in_u i239; have a12 := t_add e239 i94 (in_c (-1) rfl) rfl; have a13 := oa2 ((in_c (-1) rfl)) j78_3; omega) (by have a0 := oa10 j78_7 j78_5 j78_2 j78_1 ro_109_20 ro_109_19 i94 j92_6 ((in_c 0 rfl)) i103; have a10 := t_add e103 ro_109_19 i94 rfl; have a11 := in_u i239; have a12 := t_add e239 i94 (in_c (-1) rfl) rfl; have a13 := oa2 ((in_c (-1) rfl)) j78_3; omega)), ← e136, hb] at h1; cases h1)
                      exact gg_w (by first | exact Nat.le_add_right _ _ | exact gw2 | exact gw3 | exact gwe rfl | exact gwf rfl | exact gwg rfl | exact gwh rfl | omega) (gg_f (gf_cons rfl (gf_cons rfl (gf_cons rfl (gf_cons rfl (gf_cons rfl (gf_cons rfl (gf_cons rfl (gf_cons rfl (gf_cons rfl gf_nil))))))))) (ih92 sc92 y92_6 z239 hIc92 hFc92 (in_w (-1) 159 j92_6 rfl) (in_w (-1) 159 i239 rfl) nz92_4 n92 n92a n92b n92c n92d n92e n92f (m_dn mm92 (t_add e239 i94 (in_c (-1) rfl) rfl) (in_w (-1) (-1) (in_c (-1) rfl) rfl))))
                    · skip
                      exact zn_ne c171 (in_c 0 rfl) rfl
                  · skip
                    exact zn_ne c140 (in_c 0 rfl) rfl
                · skip
                  have i137x6 := r_eq1 1 1 c137x6 i137x4 (in_c 1 rfl) rfl
                  refine g_iconst 1 10 (gd rfl) rfl rfl ?_
                  refine g_goto 14 (gd rfl) rfl ?_
                  refine g_ireturn (gd rfl) rfl (nb01 (in_w 0 1 (in_c 1 rfl) rfl)) (hp137 _ _ ?_)
                  show GG _ _ _ _ _ _ _ _ [.int (Int32.ofInt 1)] _ _ _
                  refine g_if_eq 143 166 (gd rfl) rfl rfl (fun c140 => ?_) (fun c140 => ?_)
                  · skip
                    exact zn_eq c140 (in_c 1 rfl) rfl
                  · skip
                    refine g_aload_n 144 (gd rfl) rfl rfl ?_
                    refine g_getA (q2 := 130) 147 (gd rfl) rfl rfl rfl rfl ?_
                    refine g_aload_n 148 (gd rfl) rfl rfl ?_
                    refine g_getA (q2 := 114) 151 (gd rfl) rfl rfl rfl rfl ?_
                    refine g_iload 153 (gd rfl) rfl rfl ?_
                    refine g_iaload 154 (gd rfl) rfl (n := 480) rfl (in_ix i103 rfl) (fun z153 e153 => ?_)
                    have q153 : z136 = z153 := (e136).trans e153.symm
                    subst q153
                    refine g_laload 155 (gd rfl) rfl (n := 32) rfl (in_ix i136 rfl) (fun z154 e154 => ?_)
                    refine g_ldc2_w 9000000000000000 158 (gd rfl) rfl rfl ?_
                    refine g_lcmp 159 (gd rfl) rfl (fun z158 e158 => ?_)
                    have i158 := lc_in e158
                    refine g_if_ge 162 166 (gd rfl) rfl rfl (fun c159 => ?_) (fun c159 => ?_)
                    · skip
                      have i159 := z_ge 0 1 c159 i158 rfl
                      have c159a := lc_ge e158 c159
                      have i159a := lr_le2 9000000000000000 9223372036854775807 c159a (l_c 9000000000000000 rfl) (l_rng z154) rfl
                      refine g_iconst 0 167 (gd rfl) rfl rfl ?_
                      refine g_istore 169 (gd rfl) rfl (Nat.le_of_ble_eq_true rfl) ?_
                      refine g_iload 171 (gd rfl) rfl rfl ?_
                      refine g_if_eq 174 235 (gd rfl) rfl rfl (fun c171 => ?_) (fun c171 => ?_)
                      · skip
                        refine g_iload 237 (gd rfl) rfl rfl ?_
                        refine g_istore 239 (gd rfl) rfl (Nat.le_of_ble_eq_true rfl) ?_
                        refine g_iinc 242 (gd rfl) rfl rfl (Nat.le_of_ble_eq_true rfl) (fun z239 e239 => ?_)
                        have i239 := in_add (-1) 158 e239 i94 (in_c (-1) rfl) rfl rfl
                        refine g_goto 92 (gd rfl) rfl ?_
                        have n92 : (y78_7).toInt ≤ (x3).toInt := by first | exact n92_0 | (have a0 := oa10 j78_7 j78_5 j78_2 j78_1 ro_109_20 ro_109_19 i94 j92_6 ((in_c 0 rfl)) i103; have a10 := t_add e103 ro_109_19 i94 rfl; have a11 := in_u i239; have a12 := t_add e239 i94 (in_c (-1) rfl) rfl; have a13 := oa2 ((in_c (-1) rfl)) j78_3; omega)
                        have n92a : 0 ≤ (y78_7).toInt := by first | exact n78_0 | (have a0 := oa10 j78_7 j78_5 j78_2 j78_1 ro_109_20 ro_109_19 i94 j92_6 ((in_c 0 rfl)) i103; have a10 := t_add e103 ro_109_19 i94 rfl; have a11 := in_u i239; have a12 := t_add e239 i94 (in_c (-1) rfl) rfl; have a13 := oa2 ((in_c (-1) rfl)) j78_3; omega)
                        have n92b : WFN sc92 (x2).toNatClampNeg (y78_4) := by exact g92_0
                        have n92c : bt (y78_4) (y78_5).toNatClampNeg = true := by exact g92_1
                        have n92d : (sc92.1 131 (y78_5).toNatClampNeg).toInt + (y78_7).toInt = (sc92.1 131 (x1).toNatClampNeg).toInt := by exact g92_2
                        have n92e : (x3).toInt < (sc92.1 131 (x1).toNatClampNeg).toInt ∧ (sc92.1 131 (x1).toNatClampNeg).toInt ≤ 1000 := by exact g92_3
                        have n92f : (∀ a : Nat, (z239).toInt < (a : Int) → a < 160 → WOK sc92 (y78_4) (y78_5).toNatClampNeg a → 0 ≤ (y92_6).toInt) ∧ (0 ≤ (y92_6).toInt → WOK sc92 (y78_4) (y78_5).toNatClampNeg (y92_6).toNatClampNeg) := by exact wa_no g92_4 (by have a0 := oa10 j78_7 j78_5 j78_2 j78_1 ro_109_20 ro_109_19 i94 j92_6 ((in_c 0 rfl)) i103; have a10 := t_add e103 ro_109_19 i94 rfl; have a11 := in_u i239; have a12 := t_add e239 i94 (in_c (-1) rfl) rfl; have a13 := oa2 ((in_c (-1) rfl)) j78_3; omega) (by have a0 := oa10 j78_7 j78_5 j78_2 j78_1 ro_109_20 ro_109_19 i94 j92_6 ((in_c 0 rfl)) i103; have a10 := t_add e103 ro_109_19 i94 rfl; have a11 := in_u i239; have a12 := t_add e239 i94 (in_c (-1) rfl) rfl; have a13 := oa2 ((in_c (-1) rfl)) j78_3; omega) (fun hw => by have h1 := hw.2.2.2.1; rw [(bs_x (x := z103) (a := y92_8) (show u_109_19 = sc92.2.2.1 109 19 from fr_F e_109_19 hFc92 rfl) (by have a0 := oa10 j78_7 j78_5 j78_2 j78_1 ro_109_20 ro_109_19 i94 j92_6 ((in_c 0 rfl)) i103; have a10 := t_add e103 ro_109_19 i94 rfl; have a11 := in_u i239; have a12 := t_add e239 i94 (in_c (-1) rfl) rfl; have a13 := oa2 ((in_c (-1) rfl)) j78_3; omega) (by have a0 := oa10 j78_7 j78_5 j78_2 j78_1 ro_109_20 ro_109_19 i94 j92_6 ((in_c 0 rfl)) i103; have a10 := t_add e103 ro_109_19 i94 rfl; have a11 := in_u i239; have a12 := t_add e239 i94 (in_c (-1) rfl) rfl; have a13 := oa2 ((in_c (-1) rfl)) j78_3; omega) (by have a0 := oa10 j78_7 j78_5 j78_2 j78_1 ro_109_20 ro_109_19 i94 j92_6 ((in_c 0 rfl)) i103; have a10 := t_add e103 ro_109_19 i94 rfl; have a11 := in_u i239; have a12 := t_add e239 i94 (in_c (-1) rfl) rfl; have a13 := oa2 ((in_c (-1) rfl)) j78_3; omega)), ← e136, ← e154] at h1; have h := i159a.1; omega)
                        exact gg_w (by first | exact Nat.le_add_right _ _ | exact gw2 | exact gw3 | exact gwe rfl | exact gwf rfl | exact gwg rfl | exact gwh rfl | omega) (gg_f (gf_cons rfl (gf_cons rfl (gf_cons rfl (gf_cons rfl (gf_cons rfl (gf_cons rfl (gf_cons rfl (gf_cons rfl (gf_cons rfl gf_nil))))))))) (ih92 sc92 y92_6 z239 hIc92 hFc92 (in_w (-1) 159 j92_6 rfl) (in_w (-1) 159 i239 rfl) nz92_4 n92 n92a n92b n92c n92d n92e n92f (m_dn mm92 (t_add e239 i94 (in_c (-1) rfl) rfl) (in_w (-1) (-1) (in_c (-1) rfl) rfl))))
                      · skip
                        exact zn_ne c171 (in_c 0 rfl) rfl
                    · skip
                      have i159 := z_lt (-1) (-1) c159 i158 rfl
                      have c159a := lc_lt e158 c159
                      have i159a := lr_lt1 (-9223372036854775808) 8999999999999999 c159a (l_rng z154) (l_c 9000000000000000 rfl) rfl
                      refine g_iconst 1 163 (gd rfl) rfl rfl ?_
                      refine g_goto 167 (gd rfl) rfl ?_
                      refine g_istore 169 (gd rfl) rfl (Nat.le_of_ble_eq_true rfl) ?_
                      refine g_iload 171 (gd rfl) rfl rfl ?_
                      refine g_if_eq 174 235 (gd rfl) rfl rfl (fun c171 => ?_) (fun c171 => ?_)
                      · skip
                        exact zn_eq c171 (in_c 1 rfl) rfl
                      · skip
                        refine g_aload_n 175 (gd rfl) rfl rfl ?_
                        refine g_getA (q2 := 130) 178 (gd rfl) rfl rfl rfl rfl ?_
                        refine g_iload 180 (gd rfl) rfl rfl ?_
                        refine g_laload 181 (gd rfl) rfl (n := 32) rfl (in_ix j78_5 rfl) (fun z180 e180 => ?_)
                        refine g_aload_n 182 (gd rfl) rfl rfl ?_
                        refine g_getA (q2 := 130) 185 (gd rfl) rfl rfl rfl rfl ?_
                        refine g_aload_n 186 (gd rfl) rfl rfl ?_
                        refine g_getA (q2 := 114) 189 (gd rfl) rfl rfl rfl rfl ?_
                        refine g_iload 191 (gd rfl) rfl rfl ?_
                        refine g_iaload 192 (gd rfl) rfl (n := 480) rfl (in_ix i103 rfl) (fun z191 e191 => ?_)
                        have q191 : z136 = z191 := (e136).trans e191.symm
                        subst q191
                        refine g_laload 193 (gd rfl) rfl (n := 32) rfl (in_ix i136 rfl) (fun z192 e192 => ?_)
                        refine g_aload_n 194 (gd rfl) rfl rfl ?_
                        refine g_getA (q2 := 115) 197 (gd rfl) rfl rfl rfl rfl ?_
                        refine g_iload 199 (gd rfl) rfl rfl ?_
                        refine g_iaload 200 (gd rfl) rfl (n := 480) rfl (in_ix i103 rfl) (fun z199 e199 => ?_)
                        have i199 := inv_I hIc92 (n := 480) (t := 0) (-1000000) 1000000 rfl (in_ix i103 rfl) rfl e199
                        refine g_i2l 201 (gd rfl) rfl (fun z200 e200 => ?_)
                        have i200 := l_i e200 i199
                        refine g_ladd 202 (gd rfl) rfl (fun z201 e201 => ?_)
                        refine g_lcmp 203 (gd rfl) rfl (fun z202 e202 => ?_)
                        have i202 := lc_in e202
                        refine g_if_ne 206 235 (gd rfl) rfl rfl (fun c203 => ?_) (fun c203 => ?_)
                        · skip
                          have c203a := lc_ne e202 c203
                          refine g_iload 237 (gd rfl) rfl rfl ?_
                          refine g_istore 239 (gd rfl) rfl (Nat.le_of_ble_eq_true rfl) ?_
                          refine g_iinc 242 (gd rfl) rfl rfl (Nat.le_of_ble_eq_true rfl) (fun z239 e239 => ?_)
                          have i239 := in_add (-1) 158 e239 i94 (in_c (-1) rfl) rfl rfl
                          refine g_goto 92 (gd rfl) rfl ?_
                          have n92 : (y78_7).toInt ≤ (x3).toInt := by first | exact n92_0 | (have a0 := oa10 j78_7 j78_5 j78_2 j78_1 ro_109_20 ro_109_19 i94 j92_6 ((in_c 1 rfl)) i103; have a10 := t_add e103 ro_109_19 i94 rfl; have a11 := in_u i239; have a12 := t_add e239 i94 (in_c (-1) rfl) rfl; have a13 := oa2 ((in_c (-1) rfl)) j78_3; have a15 := tx_i2l e200; have a16 := in_u i199; omega)
                          have n92a : 0 ≤ (y78_7).toInt := by first | exact n78_0 | (have a0 := oa10 j78_7 j78_5 j78_2 j78_1 ro_109_20 ro_109_19 i94 j92_6 ((in_c 1 rfl)) i103; have a10 := t_add e103 ro_109_19 i94 rfl; have a11 := in_u i239; have a12 := t_add e239 i94 (in_c (-1) rfl) rfl; have a13 := oa2 ((in_c (-1) rfl)) j78_3; have a15 := tx_i2l e200; have a16 := in_u i199; omega)
                          have n92b : WFN sc92 (x2).toNatClampNeg (y78_4) := by exact g92_0
                          have n92c : bt (y78_4) (y78_5).toNatClampNeg = true := by exact g92_1
                          have n92d : (sc92.1 131 (y78_5).toNatClampNeg).toInt + (y78_7).toInt = (sc92.1 131 (x1).toNatClampNeg).toInt := by exact g92_2
                          have n92e : (x3).toInt < (sc92.1 131 (x1).toNatClampNeg).toInt ∧ (sc92.1 131 (x1).toNatClampNeg).toInt ≤ 1000 := by exact g92_3
                          have n92f : (∀ a : Nat, (z239).toInt < (a : Int) → a < 160 → WOK sc92 (y78_4) (y78_5).toNatClampNeg a → 0 ≤ (y92_6).toInt) ∧ (0 ≤ (y92_6).toInt → WOK sc92 (y78_4) (y78_5).toNatClampNeg (y92_6).toNatClampNeg) := by exact wa_no g92_4 (by have a0 := oa10 j78_7 j78_5 j78_2 j78_1 ro_109_20 ro_109_19 i94 j92_6 ((in_c 1 rfl)) i103; have a10 := t_add e103 ro_109_19 i94 rfl; have a11 := in_u i239; have a12 := t_add e239 i94 (in_c (-1) rfl) rfl; have a13 := oa2 ((in_c (-1) rfl)) j78_3; have a15 := tx_i2l e200; have a16 := in_u i199; omega) (by have a0 := oa10 j78_7 j78_5 j78_2 j78_1 ro_109_20 ro_109_19 i94 j92_6 ((in_c 1 rfl)) i103; have a10 := t_add e103 ro_109_19 i94 rfl; have a11 := in_u i239; have a12 := t_add e239 i94 (in_c (-1) rfl) rfl; have a13 := oa2 ((in_c (-1) rfl)) j78_3; have a15 := tx_i2l e200; have a16 := in_u i199; omega) (fun hw => by have hto := g92_0 z136.toNatClampNeg (bt_yes e137x2 e137x4 i136 c137x6); have hbd := hto.2.1; rw [← e192] at hbd; have hz201 : z201.toInt = z192.toInt + z199.toInt := (by have hw9 := i199; unfold In at hw9; rw [ladd_t e201 (by rw [tx_i2l e200]; omega) (by rw [tx_i2l e200]; omega), tx_i2l e200]); have h1 := hw.2.2.2.2.1; rw [(bs_x (x := z103) (a := y92_8) (show u_109_19 = sc92.2.2.1 109 19 from fr_F e_109_19 hFc92 rfl) (by have a0 := oa10 j78_7 j78_5 j78_2 j78_1 ro_109_20 ro_109_19 i94 j92_6 ((in_c 1 rfl)) i103; have a10 := t_add e103 ro_109_19 i94 rfl; have a11 := in_u i239; have a12 := t_add e239 i94 (in_c (-1) rfl) rfl; have a13 := oa2 ((in_c (-1) rfl)) j78_3; have a15 := tx_i2l e200; have a16 := in_u i199; omega) (by have a0 := oa10 j78_7 j78_5 j78_2 j78_1 ro_109_20 ro_109_19 i94 j92_6 ((in_c 1 rfl)) i103; have a10 := t_add e103 ro_109_19 i94 rfl; have a11 := in_u i239; have a12 := t_add e239 i94 (in_c (-1) rfl) rfl; have a13 := oa2 ((in_c (-1) rfl)) j78_3; have a15 := tx_i2l e200; have a16 := in_u i199; omega) (by have a0 := oa10 j78_7 j78_5 j78_2 j78_1 ro_109_20 ro_109_19 i94 j92_6 ((in_c 1 rfl)) i103; have a10 := t_add e103 ro_109_19 i94 rfl; have a11 := in_u i239; have a12 := t_add e239 i94 (in_c (-1) rfl) rfl; have a13 := oa2 ((in_c (-1) rfl)) j78_3; have a15 := tx_i2l e200; have a16 := in_u i199; omega)), ← e136, ← e199, ← e180, ← e192] at h1; have h := c203a; omega)
                          exact gg_w (by first | exact Nat.le_add_right _ _ | exact gw2 | exact gw3 | exact gwe rfl | exact gwf rfl | exact gwg rfl | exact gwh rfl | omega) (gg_f (gf_cons rfl (gf_cons rfl (gf_cons rfl (gf_cons rfl (gf_cons rfl (gf_cons rfl (gf_cons rfl (gf_cons rfl (gf_cons rfl gf_nil))))))))) (ih92 sc92 y92_6 z239 hIc92 hFc92 (in_w (-1) 159 j92_6 rfl) (in_w (-1) 159 i239 rfl) nz92_4 n92 n92a n92b n92c n92d n92e n92f (m_dn mm92 (t_add e239 i94 (in_c (-1) rfl) rfl) (in_w (-1) (-1) (in_c (-1) rfl) rfl))))
                        · skip
                          have i203 := z_eq 0 0 c203 i202 rfl
                          have c203a := lc_eq e202 c203
                          refine g_aload_n 207 (gd rfl) rfl rfl ?_
                          refine g_getA (q2 := 131) 210 (gd rfl) rfl rfl rfl rfl ?_
                          refine g_iload 212 (gd rfl) rfl rfl ?_
                          refine g_iaload 213 (gd rfl) rfl (n := 32) rfl (in_ix j78_5 rfl) (fun z212 e212 => ?_)
                          refine g_aload_n 214 (gd rfl) rfl rfl ?_
                          refine g_getA (q2 := 131) 217 (gd rfl) rfl rfl rfl rfl ?_
                          refine g_aload_n 218 (gd rfl) rfl rfl ?_
                          refine g_getA (q2 := 114) 221 (gd rfl) rfl rfl rfl rfl ?_
                          refine g_iload 223 (gd rfl) rfl rfl ?_
                          refine g_iaload 224 (gd rfl) rfl (n := 480) rfl (in_ix i103 rfl) (fun z223 e223 => ?_)
                          have q223 : z136 = z223 := (e136).trans e223.symm
                          subst q223
                          refine g_iaload 225 (gd rfl) rfl (n := 32) rfl (in_ix i136 rfl) (fun z224 e224 => ?_)
                          refine g_iconst 1 226 (gd rfl) rfl rfl ?_
                          refine g_iadd 227 (gd rfl) rfl (fun z226 e226 => ?_)
                          refine g_cmp_ne 230 235 (gd rfl) rfl rfl (fun c227 => ?_) (fun c227 => ?_)
                          · skip
                            refine g_iload 237 (gd rfl) rfl rfl ?_
                            refine g_istore 239 (gd rfl) rfl (Nat.le_of_ble_eq_true rfl) ?_
                            refine g_iinc 242 (gd rfl) rfl rfl (Nat.le_of_ble_eq_true rfl) (fun z239 e239 => ?_)
                            have i239 := in_add (-1) 158 e239 i94 (in_c (-1) rfl) rfl rfl
                            refine g_goto 92 (gd rfl) rfl ?_
                            have n92 : (y78_7).toInt ≤ (x3).toInt := by first | exact n92_0 | (have a0 := oa10 j78_7 j78_5 j78_2 j78_1 ro_109_20 ro_109_19 i94 j92_6 ((in_c 1 rfl)) i103; have a10 := t_add e103 ro_109_19 i94 rfl; have a11 := in_u i239; have a12 := t_add e239 i94 (in_c (-1) rfl) rfl; have a13 := oa2 ((in_c (-1) rfl)) j78_3; have a15 := tx_i2l e200; have a16 := in_u i199; omega)
                            have n92a : 0 ≤ (y78_7).toInt := by first | exact n78_0 | (have a0 := oa10 j78_7 j78_5 j78_2 j78_1 ro_109_20 ro_109_19 i94 j92_6 ((in_c 1 rfl)) i103; have a10 := t_add e103 ro_109_19 i94 rfl; have a11 := in_u i239; have a12 := t_add e239 i94 (in_c (-1) rfl) rfl; have a13 := oa2 ((in_c (-1) rfl)) j78_3; have a15 := tx_i2l e200; have a16 := in_u i199; omega)
                            have n92b : WFN sc92 (x2).toNatClampNeg (y78_4) := by exact g92_0
                            have n92c : bt (y78_4) (y78_5).toNatClampNeg = true := by exact g92_1
                            have n92d : (sc92.1 131 (y78_5).toNatClampNeg).toInt + (y78_7).toInt = (sc92.1 131 (x1).toNatClampNeg).toInt := by exact g92_2
                            have n92e : (x3).toInt < (sc92.1 131 (x1).toNatClampNeg).toInt ∧ (sc92.1 131 (x1).toNatClampNeg).toInt ≤ 1000 := by exact g92_3
                            have n92f : (∀ a : Nat, (z239).toInt < (a : Int) → a < 160 → WOK sc92 (y78_4) (y78_5).toNatClampNeg a → 0 ≤ (y92_6).toInt) ∧ (0 ≤ (y92_6).toInt → WOK sc92 (y78_4) (y78_5).toNatClampNeg (y92_6).toNatClampNeg) := by first | exact wa_yes (by have a0 := oa10 j78_7 j78_5 j78_2 j78_1 ro_109_20 ro_109_19 i94 j92_6 ((in_c 1 rfl)) i103; have a10 := t_add e103 ro_109_19 i94 rfl; have a11 := in_u i239; have a12 := t_add e239 i94 (in_c (-1) rfl) rfl; have a13 := oa2 ((in_c (-1) rfl)) j78_3; have a15 := tx_i2l e200; have a16 := in_u i199; omega) (by have hto := g92_0 z136.toNatClampNeg (bt_yes e137x2 e137x4 i136 c137x6); have hbd := hto.2.1; rw [← e192] at hbd; have hz201 : z201.toInt = z192.toInt + z199.toInt := (by have hw9 := i199; unfold In at hw9; rw [ladd_t e201 (by rw [tx_i2l e200]; omega) (by rw [tx_i2l e200]; omega), tx_i2l e200]); have hst := hto.2.2.1; rw [← e224] at hst; have hz226 : z226.toInt = z224.toInt + 1 := t_add (a := 0) (b := 1000) e226 ⟨hst.1, hst.2⟩ (in_c 1 rfl) rfl; unfold WOK; rw [(bs_x (x := z103) (a := y92_8) (show u_109_19 = sc92.2.2.1 109 19 from fr_F e_109_19 hFc92 rfl) (by have a0 := oa10 j78_7 j78_5 j78_2 j78_1 ro_109_20 ro_109_19 i94 j92_6 ((in_c 1 rfl)) i103; have a10 := t_add e103 ro_109_19 i94 rfl; have a11 := in_u i239; have a12 := t_add e239 i94 (in_c (-1) rfl) rfl; have a13 := oa2 ((in_c (-1) rfl)) j78_3; have a15 := tx_i2l e200; have a16 := in_u i199; omega) (by have a0 := oa10 j78_7 j78_5 j78_2 j78_1 ro_109_20 ro_109_19 i94 j92_6 ((in_c 1 rfl)) i103; have a10 := t_add e103 ro_109_19 i94 rfl; have a11 := in_u i239; have a12 := t_add e239 i94 (in_c (-1) rfl) rfl; have a13 := oa2 ((in_c (-1) rfl)) j78_3; have a15 := tx_i2l e200; have a16 := in_u i199; omega) (by have a0 := oa10 j78_7 j78_5 j78_2 j78_1 ro_109_20 ro_109_19 i94 j92_6 ((in_c 1 rfl)) i103; have a10 := t_add e103 ro_109_19 i94 rfl; have a11 := in_u i239; have a12 := t_add e239 i94 (in_c (-1) rfl) rfl; have a13 := oa2 ((in_c (-1) rfl)) j78_3; have a15 := tx_i2l e200; have a16 := in_u i199; omega)), ← e136, ← e112, ← e122, ← e199, ← e154, ← e180, ← e212, ← e224]; exact ⟨c113, by rw [Int32.toInt_inj.mp c125], bt_yes e137x2 e137x4 i136 c137x6, by have h := i159a.2; omega, by rw [show z154 = z192 from (e154.trans e192.symm)]; have h := c203a; omega, by have h := c227; omega⟩) | exact wa_no g92_4 (by have a0 := oa10 j78_7 j78_5 j78_2 j78_1 ro_109_20 ro_109_19 i94 j92_6 ((in_c 1 rfl)) i103; have a10 := t_add e103 ro_109_19 i94 rfl; have a11 := in_u i239; have a12 := t_add e239 i94 (in_c (-1) rfl) rfl; have a13 := oa2 ((in_c (-1) rfl)) j78_3; have a15 := tx_i2l e200; have a16 := in_u i199; omega) (by have a0 := oa10 j78_7 j78_5 j78_2 j78_1 ro_109_20 ro_109_19 i94 j92_6 ((in_c 1 rfl)) i103; have a10 := t_add e103 ro_109_19 i94 rfl; have a11 := in_u i239; have a12 := t_add e239 i94 (in_c (-1) rfl) rfl; have a13 := oa2 ((in_c (-1) rfl)) j78_3; have a15 := tx_i2l e200; have a16 := in_u i199; omega) (fun hw => by have hto := g92_0 z136.toNatClampNeg (bt_yes e137x2 e137x4 i136 c137x6); have hbd := hto.2.1; rw [← e192] at hbd; have hz201 : z201.toInt = z192.toInt + z199.toInt := (by have hw9 := i199; unfold In at hw9; rw [ladd_t e201 (by rw [tx_i2l e200]; omega) (by rw [tx_i2l e200]; omega), tx_i2l e200]); have hst := hto.2.2.1; rw [← e224] at hst; have hz226 : z226.toInt = z224.toInt + 1 := t_add (a := 0) (b := 1000) e226 ⟨hst.1, hst.2⟩ (in_c 1 rfl) rfl; have h1 := hw.2.2.2.2.2; rw [(bs_x (x := z103) (a := y92_8) (show u_109_19 = sc92.2.2.1 109 19 from fr_F e_109_19 hFc92 rfl) (by have a0 := oa10 j78_7 j78_5 j78_2 j78_1 ro_109_20 ro_109_19 i94 j92_6 ((in_c 1 rfl)) i103; have a10 := t_add e103 ro_109_19 i94 rfl; have a11 := in_u i239; have a12 := t_add e239 i94 (in_c (-1) rfl) rfl; have a13 := oa2 ((in_c (-1) rfl)) j78_3; have a15 := tx_i2l e200; have a16 := in_u i199; omega) (by have a0 := oa10 j78_7 j78_5 j78_2 j78_1 ro_109_20 ro_109_19 i94 j92_6 ((in_c 1 rfl)) i103; have a10 := t_add e103 ro_109_19 i94 rfl; have a11 := in_u i239; have a12 := t_add e239 i94 (in_c (-1) rfl) rfl; have a13 := oa2 ((in_c (-1) rfl)) j78_3; have a15 := tx_i2l e200; have a16 := in_u i199; omega) (by have a0 := oa10 j78_7 j78_5 j78_2 j78_1 ro_109_20 ro_109_19 i94 j92_6 ((in_c 1 rfl)) i103; have a10 := t_add e103 ro_109_19 i94 rfl; have a11 := in_u i239; have a12 := t_add e239 i94 (in_c (-1) rfl) rfl; have a13 := oa2 ((in_c (-1) rfl)) j78_3; have a15 := tx_i2l e200; have a16 := in_u i199; omega)), ← e136, ← e212, ← e224] at h1; have h := c227; omega)
                            exact gg_w (by first | exact Nat.le_add_right _ _ | exact gw2 | exact gw3 | exact gwe rfl | exact gwf rfl | exact gwg rfl | exact gwh rfl | omega) (gg_f (gf_cons rfl (gf_cons rfl (gf_cons rfl (gf_cons rfl (gf_cons rfl (gf_cons rfl (gf_cons rfl (gf_cons rfl (gf_cons rfl gf_nil))))))))) (ih92 sc92 y92_6 z239 hIc92 hFc92 (in_w (-1) 159 j92_6 rfl) (in_w (-1) 159 i239 rfl) nz92_4 n92 n92a n92b n92c n92d n92e n92f (m_dn mm92 (t_add e239 i94 (in_c (-1) rfl) rfl) (in_w (-1) (-1) (in_c (-1) rfl) rfl))))
                          · skip
                            refine g_iload 232 (gd rfl) rfl rfl ?_
                            refine g_goto 237 (gd rfl) rfl ?_
                            refine g_istore 239 (gd rfl) rfl (Nat.le_of_ble_eq_true rfl) ?_
                            refine g_iinc 242 (gd rfl) rfl rfl (Nat.le_of_ble_eq_true rfl) (fun z239 e239 => ?_)
                            have i239 := in_add (-1) 158 e239 i94 (in_c (-1) rfl) rfl rfl
                            refine g_goto 92 (gd rfl) rfl ?_
                            have n92 : (y78_7).toInt ≤ (x3).toInt := by first | exact n92_0 | (have a0 := oa10 j78_7 j78_5 j78_2 j78_1 ro_109_20 ro_109_19 i94 j92_6 ((in_c 1 rfl)) i103; have a10 := t_add e103 ro_109_19 i94 rfl; have a11 := in_u i239; have a12 := t_add e239 i94 (in_c (-1) rfl) rfl; have a13 := oa2 ((in_c (-1) rfl)) j78_3; have a15 := tx_i2l e200; have a16 := in_u i199; omega)
                            have n92a : 0 ≤ (y78_7).toInt := by first | exact n78_0 | (have a0 := oa10 j78_7 j78_5 j78_2 j78_1 ro_109_20 ro_109_19 i94 j92_6 ((in_c 1 rfl)) i103; have a10 := t_add e103 ro_109_19 i94 rfl; have a11 := in_u i239; have a12 := t_add e239 i94 (in_c (-1) rfl) rfl; have a13 := oa2 ((in_c (-1) rfl)) j78_3; have a15 := tx_i2l e200; have a16 := in_u i199; omega)
                            have n92b : WFN sc92 (x2).toNatClampNeg (y78_4) := by exact g92_0
                            have n92c : bt (y78_4) (y78_5).toNatClampNeg = true := by exact g92_1
                            have n92d : (sc92.1 131 (y78_5).toNatClampNeg).toInt + (y78_7).toInt = (sc92.1 131 (x1).toNatClampNeg).toInt := by exact g92_2
                            have n92e : (x3).toInt < (sc92.1 131 (x1).toNatClampNeg).toInt ∧ (sc92.1 131 (x1).toNatClampNeg).toInt ≤ 1000 := by exact g92_3
                            have n92f : (∀ a : Nat, (z239).toInt < (a : Int) → a < 160 → WOK sc92 (y78_4) (y78_5).toNatClampNeg a → 0 ≤ (y92_8).toInt) ∧ (0 ≤ (y92_8).toInt → WOK sc92 (y78_4) (y78_5).toNatClampNeg (y92_8).toNatClampNeg) := by first | exact wa_yes (by have a0 := oa10 j78_7 j78_5 j78_2 j78_1 ro_109_20 ro_109_19 i94 j92_6 ((in_c 1 rfl)) i103; have a10 := t_add e103 ro_109_19 i94 rfl; have a11 := in_u i239; have a12 := t_add e239 i94 (in_c (-1) rfl) rfl; have a13 := oa2 ((in_c (-1) rfl)) j78_3; have a15 := tx_i2l e200; have a16 := in_u i199; omega) (by have hto := g92_0 z136.toNatClampNeg (bt_yes e137x2 e137x4 i136 c137x6); have hbd := hto.2.1; rw [← e192] at hbd; have hz201 : z201.toInt = z192.toInt + z199.toInt := (by have hw9 := i199; unfold In at hw9; rw [ladd_t e201 (by rw [tx_i2l e200]; omega) (by rw [tx_i2l e200]; omega), tx_i2l e200]); have hst := hto.2.2.1; rw [← e224] at hst; have hz226 : z226.toInt = z224.toInt + 1 := t_add (a := 0) (b := 1000) e226 ⟨hst.1, hst.2⟩ (in_c 1 rfl) rfl; unfold WOK; rw [(bs_x (x := z103) (a := y92_8) (show u_109_19 = sc92.2.2.1 109 19 from fr_F e_109_19 hFc92 rfl) (by have a0 := oa10 j78_7 j78_5 j78_2 j78_1 ro_109_20 ro_109_19 i94 j92_6 ((in_c 1 rfl)) i103; have a10 := t_add e103 ro_109_19 i94 rfl; have a11 := in_u i239; have a12 := t_add e239 i94 (in_c (-1) rfl) rfl; have a13 := oa2 ((in_c (-1) rfl)) j78_3; have a15 := tx_i2l e200; have a16 := in_u i199; omega) (by have a0 := oa10 j78_7 j78_5 j78_2 j78_1 ro_109_20 ro_109_19 i94 j92_6 ((in_c 1 rfl)) i103; have a10 := t_add e103 ro_109_19 i94 rfl; have a11 := in_u i239; have a12 := t_add e239 i94 (in_c (-1) rfl) rfl; have a13 := oa2 ((in_c (-1) rfl)) j78_3; have a15 := tx_i2l e200; have a16 := in_u i199; omega) (by have a0 := oa10 j78_7 j78_5 j78_2 j78_1 ro_109_20 ro_109_19 i94 j92_6 ((in_c 1 rfl)) i103; have a10 := t_add e103 ro_109_19 i94 rfl; have a11 := in_u i239; have a12 := t_add e239 i94 (in_c (-1) rfl) rfl; have a13 := oa2 ((in_c (-1) rfl)) j78_3; have a15 := tx_i2l e200; have a16 := in_u i199; omega)), ← e136, ← e112, ← e122, ← e199, ← e154, ← e180, ← e212, ← e224]; exact ⟨c113, by rw [Int32.toInt_inj.mp c125], bt_yes e137x2 e137x4 i136 c137x6, by have h := i159a.2; omega, by rw [show z154 = z192 from (e154.trans e192.symm)]; have h := c203a; omega, by have h := c227; omega⟩) | exact wa_no g92_4 (by have a0 := oa10 j78_7 j78_5 j78_2 j78_1 ro_109_20 ro_109_19 i94 j92_6 ((in_c 1 rfl)) i103; have a10 := t_add e103 ro_109_19 i94 rfl; have a11 := in_u i239; have a12 := t_add e239 i94 (in_c (-1) rfl) rfl; have a13 := oa2 ((in_c (-1) rfl)) j78_3; have a15 := tx_i2l e200; have a16 := in_u i199; omega) (by have a0 := oa10 j78_7 j78_5 j78_2 j78_1 ro_109_20 ro_109_19 i94 j92_6 ((in_c 1 rfl)) i103; have a10 := t_add e103 ro_109_19 i94 rfl; have a11 := in_u i239; have a12 := t_add e239 i94 (in_c (-1) rfl) rfl; have a13 := oa2 ((in_c (-1) rfl)) j78_3; have a15 := tx_i2l e200; have a16 := in_u i199; omega) (fun hw => by have hto := g92_0 z136.toNatClampNeg (bt_yes e137x2 e137x4 i136 c137x6); have hbd := hto.2.1; rw [← e192] at hbd; have hz201 : z201.toInt = z192.toInt + z199.toInt := (by have hw9 := i199; unfold In at hw9; rw [ladd_t e201 (by rw [tx_i2l e200]; omega) (by rw [tx_i2l e200]; omega), tx_i2l e200]); have hst := hto.2.2.1; rw [← e224] at hst; have hz226 : z226.toInt = z224.toInt + 1 := t_add (a := 0) (b := 1000) e226 ⟨hst.1, hst.2⟩ (in_c 1 rfl) rfl; have h1 := hw.2.2.2.2.2; rw [(bs_x (x := z103) (a := y92_8) (show u_109_19 = sc92.2.2.1 109 19 from fr_F e_109_19 hFc92 rfl) (by have a0 := oa10 j78_7 j78_5 j78_2 j78_1 ro_109_20 ro_109_19 i94 j92_6 ((in_c 1 rfl)) i103; have a10 := t_add e103 ro_109_19 i94 rfl; have a11 := in_u i239; have a12 := t_add e239 i94 (in_c (-1) rfl) rfl; have a13 := oa2 ((in_c (-1) rfl)) j78_3; have a15 := tx_i2l e200; have a16 := in_u i199; omega) (by have a0 := oa10 j78_7 j78_5 j78_2 j78_1 ro_109_20 ro_109_19 i94 j92_6 ((in_c 1 rfl)) i103; have a10 := t_add e103 ro_109_19 i94 rfl; have a11 := in_u i239; have a12 := t_add e239 i94 (in_c (-1) rfl) rfl; have a13 := oa2 ((in_c (-1) rfl)) j78_3; have a15 := tx_i2l e200; have a16 := in_u i199; omega) (by have a0 := oa10 j78_7 j78_5 j78_2 j78_1 ro_109_20 ro_109_19 i94 j92_6 ((in_c 1 rfl)) i103; have a10 := t_add e103 ro_109_19 i94 rfl; have a11 := in_u i239; have a12 := t_add e239 i94 (in_c (-1) rfl) rfl; have a13 := oa2 ((in_c (-1) rfl)) j78_3; have a15 := tx_i2l e200; have a16 := in_u i199; omega)), ← e136, ← e212, ← e224] at h1; have h := c227; omega)
                            exact gg_w (by first | exact Nat.le_add_right _ _ | exact gw2 | exact gw3 | exact gwe rfl | exact gwf rfl | exact gwg rfl | exact gwh rfl | omega) (gg_f (gf_cons rfl (gf_cons rfl (gf_cons rfl (gf_cons rfl (gf_cons rfl (gf_cons rfl (gf_cons rfl (gf_cons rfl (gf_cons rfl gf_nil))))))))) (ih92 sc92 y92_8 z239 hIc92 hFc92 (in_w (-1) 159 i94 rfl) (in_w (-1) 159 i239 rfl) nz92_4 n92 n92a n92b n92c n92d n92e n92f (m_dn mm92 (t_add e239 i94 (in_c (-1) rfl) rfl) (in_w (-1) (-1) (in_c (-1) rfl) rfl))))
      refine g_iload 80 (gd rfl) rfl rfl ?_
      refine g_iload_n 81 (gd rfl) rfl rfl ?_
      refine g_cmp_gt 84 265 (gd rfl) rfl rfl (fun c81 => ?_) (fun c81 => ?_)
      · skip
        have i81 := r_lt1 0 999 c81 j78_3 j78_7 rfl
        have i81a := r_lt2 1 1000 c81 j78_3 j78_7 rfl
        refine g_iload 267 (gd rfl) rfl rfl ?_
        exact g_ireturn (gd rfl) rfl rfl (hP _ _ ⟨sc78, hIc78, hFc78, y78_6, rfl, rfl, in_w (-1) 159 j78_6 rfl⟩)
      · skip
        refine g_iconst (-1) 85 (gd rfl) rfl rfl ?_
        refine g_istore 87 (gd rfl) rfl (Nat.le_of_ble_eq_true rfl) ?_
        refine g_sipush 159 90 (gd rfl) rfl rfl ?_
        refine g_istore 92 (gd rfl) rfl (Nat.le_of_ble_eq_true rfl) ?_
        have n92 : (y78_7).toInt ≤ (x3).toInt := by have a0 := oa10 j78_2 j78_1 ro_109_20 ro_109_19 j78_7 j78_6 j78_5 ((in_c 159 rfl)) ((in_c (-1) rfl)) j78_3; omega
        have n92a : 0 ≤ (y78_7).toInt := by first | exact n78_0 | (have a0 := oa10 j78_2 j78_1 ro_109_20 ro_109_19 j78_7 j78_6 j78_5 ((in_c 159 rfl)) ((in_c (-1) rfl)) j78_3; omega)
        have n92b : WFN sc78 (x2).toNatClampNeg (y78_4) := by exact g78_0
        have n92c : bt (y78_4) (y78_5).toNatClampNeg = true := by exact g78_1
        have n92d : (sc78.1 131 (y78_5).toNatClampNeg).toInt + (y78_7).toInt = (sc78.1 131 (x1).toNatClampNeg).toInt := by exact g78_2
        have n92e : (x3).toInt < (sc78.1 131 (x1).toNatClampNeg).toInt ∧ (sc78.1 131 (x1).toNatClampNeg).toInt ≤ 1000 := by exact g78_3
        have n92f : (∀ a : Nat, ((Int32.ofInt 159)).toInt < (a : Int) → a < 160 → WOK sc78 (y78_4) (y78_5).toNatClampNeg a → 0 ≤ ((Int32.ofInt (-1))).toInt) ∧ (0 ≤ ((Int32.ofInt (-1))).toInt → WOK sc78 (y78_4) (y78_5).toNatClampNeg ((Int32.ofInt (-1))).toNatClampNeg) := by exact ⟨fun a h1 h2 => (by exfalso; have h0 : (Int32.ofInt 159).toInt = 159 := rfl; omega), fun h => (by exfalso; have h0 : (Int32.ofInt (-1)).toInt = -1 := rfl; omega)⟩
        exact gg_w (by first | exact Nat.le_add_right _ _ | exact gw2 | exact gw3 | exact gwe rfl | exact gwf rfl | exact gwg rfl | exact gwh rfl | omega) (gg_f (gf_cons rfl (gf_cons rfl (gf_cons rfl (gf_cons rfl (gf_cons rfl (gf_cons rfl (gf_cons rfl (gf_cons rfl (gf_cons rfl gf_nil))))))))) (ct92 161 sc78 (Int32.ofInt (-1)) (Int32.ofInt 159) hIc78 hFc78 (in_w (-1) 159 (in_c (-1) rfl) rfl) (in_w (-1) 159 (in_c 159 rfl) rfl) nz78_4 n92 n92a n92b n92c n92d n92e n92f (m_ind 161 (in_w (-1) 159 (in_c 159 rfl) rfl) rfl)))
  refine g_enter2 (k := 316) (N := 147749502) (by first | exact dq1 hd rfl | exact dq0 hd rfl | exact dq2 hd rfl | exact dq3 hd rfl | omega) rfl (Nat.le_of_ble_eq_true rfl) ?_
  refine g_aload_n 1 (gd rfl) rfl rfl ?_
  refine g_aload_n 2 (gd rfl) rfl rfl ?_
  refine g_iload_n 3 (gd rfl) rfl rfl ?_
  refine g_callv (X := _) (As := [.int x1]) (r := [.ref (A 109)]) (b := A 109) (q := 109) 6 (gd rfl) rfl rfl rfl rfl rfl (ww_o rfl) (Nat.le_of_ble_eq_true rfl) (mc := 0) (ms := 0) (Nat.zero_le _) (Nat.zero_le _) (P := fun v u => _) ?_ (fun e u h => h) (fun v u h => h)
  intro po3 xx3 hp3 hx3
  refine g_enter2 (k := 272) (N := 300) (by first | exact dq1 hd rfl | exact dq0 hd rfl | exact dq2 hd rfl | exact dq3 hd rfl | omega) rfl (Nat.le_of_ble_eq_true rfl) ?_
  refine g_iload_n 1 (gd rfl) rfl rfl ?_
  refine g_if_lt 4 16 (gd rfl) rfl rfl (fun c3x1 => ?_) (fun c3x1 => ?_)
  · skip
    have i3x1 := z_lt (-2147483648) (-1) c3x1 (i_rng x1) rfl
    refine g_iconst 0 17 (gd rfl) rfl rfl ?_
    refine g_ireturn (gd rfl) rfl (nb01 (in_w 0 1 (in_c 0 rfl) rfl)) (hp3 _ _ ?_)
    show GG _ _ _ _ _ _ _ _ [.int (Int32.ofInt 0), .ref (A 109)] _ _ _
    refine g_if_eq 9 25 (gd rfl) rfl rfl (fun c6 => ?_) (fun c6 => ?_)
    · skip
      refine g_iconst 0 26 (gd rfl) rfl rfl ?_
      refine g_callv (X := _) (As := [.int (Int32.ofInt 0)]) (r := []) (b := A 109) (q := 109) 29 (gd rfl) rfl rfl rfl rfl rfl (ww_o rfl) (Nat.le_of_ble_eq_true rfl) (mc := 0) (ms := 0) (Nat.zero_le _) (Nat.zero_le _) (P := fun v u => _) ?_ (fun e u h => h) (fun v u h => h)
      intro po26 xx26 hp26 hx26
      refine g_enter2 (k := 271) (N := 300) (by first | exact dq1 hd rfl | exact dq0 hd rfl | exact dq2 hd rfl | exact dq3 hd rfl | omega) rfl (Nat.le_of_ble_eq_true rfl) ?_
      refine g_aload_n 1 (gd rfl) rfl rfl ?_
      refine g_iload_n 2 (gd rfl) rfl rfl ?_
      refine g_iconst 1 3 (gd rfl) rfl rfl ?_
      refine g_callv (X := _) (As := [.int (Int32.ofInt 0), .int (Int32.ofInt 1)]) (r := []) (b := A 109) (q := 109) 6 (gd rfl) rfl rfl rfl rfl rfl (ww_o rfl) (Nat.le_of_ble_eq_true rfl) (mc := 0) (ms := 0) (Nat.zero_le _) (Nat.zero_le _) (P := fun v u => _) ?_ (fun e u h => h) (fun v u h => h)
      intro po26x3 xx26x3 hp26x3 hx26x3
      refine g_enter2 (k := 270) (N := 300) (by first | exact dq1 hd rfl | exact dq0 hd rfl | exact dq2 hd rfl | exact dq3 hd rfl | omega) rfl (Nat.le_of_ble_eq_true rfl) ?_
      refine g_aload_n 1 (gd rfl) rfl rfl ?_
      refine g_iload_n 2 (gd rfl) rfl rfl ?_
      refine g_if_ne 5 9 (gd rfl) rfl rfl (fun c26x3x2 => ?_) (fun c26x3x2 => ?_)
      · skip
        exact zn_ne c26x3x2 (in_c 0 rfl) rfl
      · skip
        refine g_iconst 1 6 (gd rfl) rfl rfl ?_
        refine g_goto 18 (gd rfl) rfl ?_
        refine g_putI 21 (gd rfl) rfl rfl rfl rfl ?_
        have hI26x3x18 := inv_sF (q := 109) (j := 0) hI rfl (in_w 0 2 (in_c 1 rfl) rfl)
        refine g_aload_n 22 (gd rfl) rfl rfl ?_
        refine g_getI 25 (gd rfl) rfl rfl rfl (fun z26x3x22 e26x3x22 => ?_)
        have q26x3x22 : (Int32.ofInt 1) = z26x3x22 := (sF_get).trans e26x3x22.symm
        subst q26x3x22
        refine g_if_le 28 32 (gd rfl) rfl rfl (fun c26x3x25 => ?_) (fun c26x3x25 => ?_)
        · skip
          exact zn_le c26x3x25 (in_c 1 rfl) rfl
        · skip
          refine g_iconst 1 29 (gd rfl) rfl rfl ?_
          refine g_goto 33 (gd rfl) rfl ?_
          refine g_ireturn (gd rfl) rfl (nb01 (in_w 0 1 (in_c 1 rfl) rfl)) (hp26x3 _ _ ?_)
          show GG _ _ _ _ _ _ _ _ [.int (Int32.ofInt 1)] _ _ _
          refine g_ireturn (gd rfl) rfl (nb01 (in_w 0 1 (in_c 1 rfl) rfl)) (hp26 _ _ ?_)
          show GG _ _ _ _ _ _ _ _ [.int (Int32.ofInt 1)] _ _ _
          refine g_if_eq 32 34 (gd rfl) rfl rfl (fun c29 => ?_) (fun c29 => ?_)
          · skip
            exact zn_eq c29 (in_c 1 rfl) rfl
          · skip
            refine g_iconst 0 33 (gd rfl) rfl rfl ?_
            exact g_ireturn (gd rfl) rfl rfl (hP _ _ ⟨(sF s 109 0 (Int32.ofInt 1)), hI26x3x18, (fr_sF rfl fr_rf), (Int32.ofInt 0), rfl, rfl, in_w (-1) 159 (in_c 0 rfl) rfl⟩)
    · skip
      exact zn_ne c6 (in_c 0 rfl) rfl
  · skip
    have i3x1 := z_ge 0 2147483647 c3x1 (i_rng x1) rfl
    refine g_iload_n 5 (gd rfl) rfl rfl ?_
    refine g_aload_n 6 (gd rfl) rfl rfl ?_
    refine g_getI 9 (gd rfl) rfl rfl rfl (fun z3x6 e3x6 => ?_)
    have q3x6 : u_109_20 = z3x6 := (e_109_20).trans e3x6.symm
    subst q3x6
    refine g_cmp_ge 12 16 (gd rfl) rfl rfl (fun c3x9 => ?_) (fun c3x9 => ?_)
    · skip
      refine g_iconst 0 17 (gd rfl) rfl rfl ?_
      refine g_ireturn (gd rfl) rfl (nb01 (in_w 0 1 (in_c 0 rfl) rfl)) (hp3 _ _ ?_)
      show GG _ _ _ _ _ _ _ _ [.int (Int32.ofInt 0), .ref (A 109)] _ _ _
      refine g_if_eq 9 25 (gd rfl) rfl rfl (fun c6 => ?_) (fun c6 => ?_)
      · skip
        refine g_iconst 0 26 (gd rfl) rfl rfl ?_
        refine g_callv (X := _) (As := [.int (Int32.ofInt 0)]) (r := []) (b := A 109) (q := 109) 29 (gd rfl) rfl rfl rfl rfl rfl (ww_o rfl) (Nat.le_of_ble_eq_true rfl) (mc := 0) (ms := 0) (Nat.zero_le _) (Nat.zero_le _) (P := fun v u => _) ?_ (fun e u h => h) (fun v u h => h)
        intro po26 xx26 hp26 hx26
        refine g_enter2 (k := 271) (N := 300) (by first | exact dq1 hd rfl | exact dq0 hd rfl | exact dq2 hd rfl | exact dq3 hd rfl | omega) rfl (Nat.le_of_ble_eq_true rfl) ?_
        refine g_aload_n 1 (gd rfl) rfl rfl ?_
        refine g_iload_n 2 (gd rfl) rfl rfl ?_
        refine g_iconst 1 3 (gd rfl) rfl rfl ?_
        refine g_callv (X := _) (As := [.int (Int32.ofInt 0), .int (Int32.ofInt 1)]) (r := []) (b := A 109) (q := 109) 6 (gd rfl) rfl rfl rfl rfl rfl (ww_o rfl) (Nat.le_of_ble_eq_true rfl) (mc := 0) (ms := 0) (Nat.zero_le _) (Nat.zero_le _) (P := fun v u => _) ?_ (fun e u h => h) (fun v u h => h)
        intro po26x3 xx26x3 hp26x3 hx26x3
        refine g_enter2 (k := 270) (N := 300) (by first | exact dq1 hd rfl | exact dq0 hd rfl | exact dq2 hd rfl | exact dq3 hd rfl | omega) rfl (Nat.le_of_ble_eq_true rfl) ?_
        refine g_aload_n 1 (gd rfl) rfl rfl ?_
        refine g_iload_n 2 (gd rfl) rfl rfl ?_
        refine g_if_ne 5 9 (gd rfl) rfl rfl (fun c26x3x2 => ?_) (fun c26x3x2 => ?_)
        · skip
          exact zn_ne c26x3x2 (in_c 0 rfl) rfl
        · skip
          refine g_iconst 1 6 (gd rfl) rfl rfl ?_
          refine g_goto 18 (gd rfl) rfl ?_
          refine g_putI 21 (gd rfl) rfl rfl rfl rfl ?_
          have hI26x3x18 := inv_sF (q := 109) (j := 0) hI rfl (in_w 0 2 (in_c 1 rfl) rfl)
          refine g_aload_n 22 (gd rfl) rfl rfl ?_
          refine g_getI 25 (gd rfl) rfl rfl rfl (fun z26x3x22 e26x3x22 => ?_)
          have q26x3x22 : (Int32.ofInt 1) = z26x3x22 := (sF_get).trans e26x3x22.symm
          subst q26x3x22
          refine g_if_le 28 32 (gd rfl) rfl rfl (fun c26x3x25 => ?_) (fun c26x3x25 => ?_)
          · skip
            exact zn_le c26x3x25 (in_c 1 rfl) rfl
          · skip
            refine g_iconst 1 29 (gd rfl) rfl rfl ?_
            refine g_goto 33 (gd rfl) rfl ?_
            refine g_ireturn (gd rfl) rfl (nb01 (in_w 0 1 (in_c 1 rfl) rfl)) (hp26x3 _ _ ?_)
            show GG _ _ _ _ _ _ _ _ [.int (Int32.ofInt 1)] _ _ _
            refine g_ireturn (gd rfl) rfl (nb01 (in_w 0 1 (in_c 1 rfl) rfl)) (hp26 _ _ ?_)
            show GG _ _ _ _ _ _ _ _ [.int (Int32.ofInt 1)] _ _ _
            refine g_if_eq 32 34 (gd rfl) rfl rfl (fun c29 => ?_) (fun c29 => ?_)
            · skip
              exact zn_eq c29 (in_c 1 rfl) rfl
            · skip
              refine g_iconst 0 33 (gd rfl) rfl rfl ?_
              exact g_ireturn (gd rfl) rfl rfl (hP _ _ ⟨(sF s 109 0 (Int32.ofInt 1)), hI26x3x18, (fr_sF rfl fr_rf), (Int32.ofInt 0), rfl, rfl, in_w (-1) 159 (in_c 0 rfl) rfl⟩)
      · skip
        exact zn_ne c6 (in_c 0 rfl) rfl
    · skip
      have i3x9 := r_lt1 0 31 c3x9 i3x1 ro_109_20 rfl
      have i3x9a := r_lt2 1 32 c3x9 i3x1 ro_109_20 rfl
      refine g_iconst 1 13 (gd rfl) rfl rfl ?_
      refine g_goto 17 (gd rfl) rfl ?_
      refine g_ireturn (gd rfl) rfl (nb01 (in_w 0 1 (in_c 1 rfl) rfl)) (hp3 _ _ ?_)
      show GG _ _ _ _ _ _ _ _ [.int (Int32.ofInt 1), .ref (A 109)] _ _ _
      refine g_if_eq 9 25 (gd rfl) rfl rfl (fun c6 => ?_) (fun c6 => ?_)
      · skip
        exact zn_eq c6 (in_c 1 rfl) rfl
      · skip
        refine g_aload_n 10 (gd rfl) rfl rfl ?_
        refine g_iload_n 11 (gd rfl) rfl rfl ?_
        refine g_callv (X := _) (As := [.int x2]) (r := [.ref (A 109)]) (b := A 109) (q := 109) 14 (gd rfl) rfl rfl rfl rfl rfl (ww_o rfl) (Nat.le_of_ble_eq_true rfl) (mc := 0) (ms := 0) (Nat.zero_le _) (Nat.zero_le _) (P := fun v u => _) ?_ (fun e u h => h) (fun v u h => h)
        intro po11 xx11 hp11 hx11
        refine g_enter2 (k := 272) (N := 300) (by first | exact dq1 hd rfl | exact dq0 hd rfl | exact dq2 hd rfl | exact dq3 hd rfl | omega) rfl (Nat.le_of_ble_eq_true rfl) ?_
        refine g_iload_n 1 (gd rfl) rfl rfl ?_
        refine g_if_lt 4 16 (gd rfl) rfl rfl (fun c11x1 => ?_) (fun c11x1 => ?_)
        · skip
          have i11x1 := z_lt (-2147483648) (-1) c11x1 (i_rng x2) rfl
          refine g_iconst 0 17 (gd rfl) rfl rfl ?_
          refine g_ireturn (gd rfl) rfl (nb01 (in_w 0 1 (in_c 0 rfl) rfl)) (hp11 _ _ ?_)
          show GG _ _ _ _ _ _ _ _ [.int (Int32.ofInt 0), .ref (A 109)] _ _ _
          refine g_if_eq 17 25 (gd rfl) rfl rfl (fun c14 => ?_) (fun c14 => ?_)
          · skip
            refine g_iconst 0 26 (gd rfl) rfl rfl ?_
            refine g_callv (X := _) (As := [.int (Int32.ofInt 0)]) (r := []) (b := A 109) (q := 109) 29 (gd rfl) rfl rfl rfl rfl rfl (ww_o rfl) (Nat.le_of_ble_eq_true rfl) (mc := 0) (ms := 0) (Nat.zero_le _) (Nat.zero_le _) (P := fun v u => _) ?_ (fun e u h => h) (fun v u h => h)
            intro po26 xx26 hp26 hx26
            refine g_enter2 (k := 271) (N := 300) (by first | exact dq1 hd rfl | exact dq0 hd rfl | exact dq2 hd rfl | exact dq3 hd rfl | omega) rfl (Nat.le_of_ble_eq_true rfl) ?_
            refine g_aload_n 1 (gd rfl) rfl rfl ?_
            refine g_iload_n 2 (gd rfl) rfl rfl ?_
            refine g_iconst 1 3 (gd rfl) rfl rfl ?_
            refine g_callv (X := _) (As := [.int (Int32.ofInt 0), .int (Int32.ofInt 1)]) (r := []) (b := A 109) (q := 109) 6 (gd rfl) rfl rfl rfl rfl rfl (ww_o rfl) (Nat.le_of_ble_eq_true rfl) (mc := 0) (ms := 0) (Nat.zero_le _) (Nat.zero_le _) (P := fun v u => _) ?_ (fun e u h => h) (fun v u h => h)
            intro po26x3 xx26x3 hp26x3 hx26x3
            refine g_enter2 (k := 270) (N := 300) (by first | exact dq1 hd rfl | exact dq0 hd rfl | exact dq2 hd rfl | exact dq3 hd rfl | omega) rfl (Nat.le_of_ble_eq_true rfl) ?_
            refine g_aload_n 1 (gd rfl) rfl rfl ?_
            refine g_iload_n 2 (gd rfl) rfl rfl ?_
            refine g_if_ne 5 9 (gd rfl) rfl rfl (fun c26x3x2 => ?_) (fun c26x3x2 => ?_)
            · skip
              exact zn_ne c26x3x2 (in_c 0 rfl) rfl
            · skip
              refine g_iconst 1 6 (gd rfl) rfl rfl ?_
              refine g_goto 18 (gd rfl) rfl ?_
              refine g_putI 21 (gd rfl) rfl rfl rfl rfl ?_
              have hI26x3x18 := inv_sF (q := 109) (j := 0) hI rfl (in_w 0 2 (in_c 1 rfl) rfl)
              refine g_aload_n 22 (gd rfl) rfl rfl ?_
              refine g_getI 25 (gd rfl) rfl rfl rfl (fun z26x3x22 e26x3x22 => ?_)
              have q26x3x22 : (Int32.ofInt 1) = z26x3x22 := (sF_get).trans e26x3x22.symm
              subst q26x3x22
              refine g_if_le 28 32 (gd rfl) rfl rfl (fun c26x3x25 => ?_) (fun c26x3x25 => ?_)
              · skip
                exact zn_le c26x3x25 (in_c 1 rfl) rfl
              · skip
                refine g_iconst 1 29 (gd rfl) rfl rfl ?_
                refine g_goto 33 (gd rfl) rfl ?_
                refine g_ireturn (gd rfl) rfl (nb01 (in_w 0 1 (in_c 1 rfl) rfl)) (hp26x3 _ _ ?_)
                show GG _ _ _ _ _ _ _ _ [.int (Int32.ofInt 1)] _ _ _
                refine g_ireturn (gd rfl) rfl (nb01 (in_w 0 1 (in_c 1 rfl) rfl)) (hp26 _ _ ?_)
                show GG _ _ _ _ _ _ _ _ [.int (Int32.ofInt 1)] _ _ _
                refine g_if_eq 32 34 (gd rfl) rfl rfl (fun c29 => ?_) (fun c29 => ?_)
                · skip
                  exact zn_eq c29 (in_c 1 rfl) rfl
                · skip
                  refine g_iconst 0 33 (gd rfl) rfl rfl ?_
                  exact g_ireturn (gd rfl) rfl rfl (hP _ _ ⟨(sF s 109 0 (Int32.ofInt 1)), hI26x3x18, (fr_sF rfl fr_rf), (Int32.ofInt 0), rfl, rfl, in_w (-1) 159 (in_c 0 rfl) rfl⟩)
          · skip
            exact zn_ne c14 (in_c 0 rfl) rfl
        · skip
          have i11x1 := z_ge 0 2147483647 c11x1 (i_rng x2) rfl
          refine g_iload_n 5 (gd rfl) rfl rfl ?_
          refine g_aload_n 6 (gd rfl) rfl rfl ?_
          refine g_getI 9 (gd rfl) rfl rfl rfl (fun z11x6 e11x6 => ?_)
          have q11x6 : u_109_20 = z11x6 := (e_109_20).trans e11x6.symm
          subst q11x6
          refine g_cmp_ge 12 16 (gd rfl) rfl rfl (fun c11x9 => ?_) (fun c11x9 => ?_)
          · skip
            have i11x9 := r_le2 1 2147483647 c11x9 i3x9a i11x1 rfl
            refine g_iconst 0 17 (gd rfl) rfl rfl ?_
            refine g_ireturn (gd rfl) rfl (nb01 (in_w 0 1 (in_c 0 rfl) rfl)) (hp11 _ _ ?_)
            show GG _ _ _ _ _ _ _ _ [.int (Int32.ofInt 0), .ref (A 109)] _ _ _
            refine g_if_eq 17 25 (gd rfl) rfl rfl (fun c14 => ?_) (fun c14 => ?_)
            · skip
              refine g_iconst 0 26 (gd rfl) rfl rfl ?_
              refine g_callv (X := _) (As := [.int (Int32.ofInt 0)]) (r := []) (b := A 109) (q := 109) 29 (gd rfl) rfl rfl rfl rfl rfl (ww_o rfl) (Nat.le_of_ble_eq_true rfl) (mc := 0) (ms := 0) (Nat.zero_le _) (Nat.zero_le _) (P := fun v u => _) ?_ (fun e u h => h) (fun v u h => h)
              intro po26 xx26 hp26 hx26
              refine g_enter2 (k := 271) (N := 300) (by first | exact dq1 hd rfl | exact dq0 hd rfl | exact dq2 hd rfl | exact dq3 hd rfl | omega) rfl (Nat.le_of_ble_eq_true rfl) ?_
              refine g_aload_n 1 (gd rfl) rfl rfl ?_
              refine g_iload_n 2 (gd rfl) rfl rfl ?_
              refine g_iconst 1 3 (gd rfl) rfl rfl ?_
              refine g_callv (X := _) (As := [.int (Int32.ofInt 0), .int (Int32.ofInt 1)]) (r := []) (b := A 109) (q := 109) 6 (gd rfl) rfl rfl rfl rfl rfl (ww_o rfl) (Nat.le_of_ble_eq_true rfl) (mc := 0) (ms := 0) (Nat.zero_le _) (Nat.zero_le _) (P := fun v u => _) ?_ (fun e u h => h) (fun v u h => h)
              intro po26x3 xx26x3 hp26x3 hx26x3
              refine g_enter2 (k := 270) (N := 300) (by first | exact dq1 hd rfl | exact dq0 hd rfl | exact dq2 hd rfl | exact dq3 hd rfl | omega) rfl (Nat.le_of_ble_eq_true rfl) ?_
              refine g_aload_n 1 (gd rfl) rfl rfl ?_
              refine g_iload_n 2 (gd rfl) rfl rfl ?_
              refine g_if_ne 5 9 (gd rfl) rfl rfl (fun c26x3x2 => ?_) (fun c26x3x2 => ?_)
              · skip
                exact zn_ne c26x3x2 (in_c 0 rfl) rfl
              · skip
                refine g_iconst 1 6 (gd rfl) rfl rfl ?_
                refine g_goto 18 (gd rfl) rfl ?_
                refine g_putI 21 (gd rfl) rfl rfl rfl rfl ?_
                have hI26x3x18 := inv_sF (q := 109) (j := 0) hI rfl (in_w 0 2 (in_c 1 rfl) rfl)
                refine g_aload_n 22 (gd rfl) rfl rfl ?_
                refine g_getI 25 (gd rfl) rfl rfl rfl (fun z26x3x22 e26x3x22 => ?_)
                have q26x3x22 : (Int32.ofInt 1) = z26x3x22 := (sF_get).trans e26x3x22.symm
                subst q26x3x22
                refine g_if_le 28 32 (gd rfl) rfl rfl (fun c26x3x25 => ?_) (fun c26x3x25 => ?_)
                · skip
                  exact zn_le c26x3x25 (in_c 1 rfl) rfl
                · skip
                  refine g_iconst 1 29 (gd rfl) rfl rfl ?_
                  refine g_goto 33 (gd rfl) rfl ?_
                  refine g_ireturn (gd rfl) rfl (nb01 (in_w 0 1 (in_c 1 rfl) rfl)) (hp26x3 _ _ ?_)
                  show GG _ _ _ _ _ _ _ _ [.int (Int32.ofInt 1)] _ _ _
                  refine g_ireturn (gd rfl) rfl (nb01 (in_w 0 1 (in_c 1 rfl) rfl)) (hp26 _ _ ?_)
                  show GG _ _ _ _ _ _ _ _ [.int (Int32.ofInt 1)] _ _ _
                  refine g_if_eq 32 34 (gd rfl) rfl rfl (fun c29 => ?_) (fun c29 => ?_)
                  · skip
                    exact zn_eq c29 (in_c 1 rfl) rfl
                  · skip
                    refine g_iconst 0 33 (gd rfl) rfl rfl ?_
                    exact g_ireturn (gd rfl) rfl rfl (hP _ _ ⟨(sF s 109 0 (Int32.ofInt 1)), hI26x3x18, (fr_sF rfl fr_rf), (Int32.ofInt 0), rfl, rfl, in_w (-1) 159 (in_c 0 rfl) rfl⟩)
            · skip
              exact zn_ne c14 (in_c 0 rfl) rfl
          · skip
            have i11x9 := r_lt1 0 31 c11x9 i11x1 i3x9a rfl
            refine g_iconst 1 13 (gd rfl) rfl rfl ?_
            refine g_goto 17 (gd rfl) rfl ?_
            refine g_ireturn (gd rfl) rfl (nb01 (in_w 0 1 (in_c 1 rfl) rfl)) (hp11 _ _ ?_)
            show GG _ _ _ _ _ _ _ _ [.int (Int32.ofInt 1), .ref (A 109)] _ _ _
            refine g_if_eq 17 25 (gd rfl) rfl rfl (fun c14 => ?_) (fun c14 => ?_)
            · skip
              exact zn_eq c14 (in_c 1 rfl) rfl
            · skip
              refine g_iload_n 18 (gd rfl) rfl rfl ?_
              refine g_if_lt 21 25 (gd rfl) rfl rfl (fun c18 => ?_) (fun c18 => ?_)
              · skip
                have i18 := z_lt (-2147483648) (-1) c18 (i_rng x3) rfl
                refine g_iconst 0 26 (gd rfl) rfl rfl ?_
                refine g_callv (X := _) (As := [.int (Int32.ofInt 0)]) (r := []) (b := A 109) (q := 109) 29 (gd rfl) rfl rfl rfl rfl rfl (ww_o rfl) (Nat.le_of_ble_eq_true rfl) (mc := 0) (ms := 0) (Nat.zero_le _) (Nat.zero_le _) (P := fun v u => _) ?_ (fun e u h => h) (fun v u h => h)
                intro po26 xx26 hp26 hx26
                refine g_enter2 (k := 271) (N := 300) (by first | exact dq1 hd rfl | exact dq0 hd rfl | exact dq2 hd rfl | exact dq3 hd rfl | omega) rfl (Nat.le_of_ble_eq_true rfl) ?_
                refine g_aload_n 1 (gd rfl) rfl rfl ?_
                refine g_iload_n 2 (gd rfl) rfl rfl ?_
                refine g_iconst 1 3 (gd rfl) rfl rfl ?_
                refine g_callv (X := _) (As := [.int (Int32.ofInt 0), .int (Int32.ofInt 1)]) (r := []) (b := A 109) (q := 109) 6 (gd rfl) rfl rfl rfl rfl rfl (ww_o rfl) (Nat.le_of_ble_eq_true rfl) (mc := 0) (ms := 0) (Nat.zero_le _) (Nat.zero_le _) (P := fun v u => _) ?_ (fun e u h => h) (fun v u h => h)
                intro po26x3 xx26x3 hp26x3 hx26x3
                refine g_enter2 (k := 270) (N := 300) (by first | exact dq1 hd rfl | exact dq0 hd rfl | exact dq2 hd rfl | exact dq3 hd rfl | omega) rfl (Nat.le_of_ble_eq_true rfl) ?_
                refine g_aload_n 1 (gd rfl) rfl rfl ?_
                refine g_iload_n 2 (gd rfl) rfl rfl ?_
                refine g_if_ne 5 9 (gd rfl) rfl rfl (fun c26x3x2 => ?_) (fun c26x3x2 => ?_)
                · skip
                  exact zn_ne c26x3x2 (in_c 0 rfl) rfl
                · skip
                  refine g_iconst 1 6 (gd rfl) rfl rfl ?_
                  refine g_goto 18 (gd rfl) rfl ?_
                  refine g_putI 21 (gd rfl) rfl rfl rfl rfl ?_
                  have hI26x3x18 := inv_sF (q := 109) (j := 0) hI rfl (in_w 0 2 (in_c 1 rfl) rfl)
                  refine g_aload_n 22 (gd rfl) rfl rfl ?_
                  refine g_getI 25 (gd rfl) rfl rfl rfl (fun z26x3x22 e26x3x22 => ?_)
                  have q26x3x22 : (Int32.ofInt 1) = z26x3x22 := (sF_get).trans e26x3x22.symm
                  subst q26x3x22
                  refine g_if_le 28 32 (gd rfl) rfl rfl (fun c26x3x25 => ?_) (fun c26x3x25 => ?_)
                  · skip
                    exact zn_le c26x3x25 (in_c 1 rfl) rfl
                  · skip
                    refine g_iconst 1 29 (gd rfl) rfl rfl ?_
                    refine g_goto 33 (gd rfl) rfl ?_
                    refine g_ireturn (gd rfl) rfl (nb01 (in_w 0 1 (in_c 1 rfl) rfl)) (hp26x3 _ _ ?_)
                    show GG _ _ _ _ _ _ _ _ [.int (Int32.ofInt 1)] _ _ _
                    refine g_ireturn (gd rfl) rfl (nb01 (in_w 0 1 (in_c 1 rfl) rfl)) (hp26 _ _ ?_)
                    show GG _ _ _ _ _ _ _ _ [.int (Int32.ofInt 1)] _ _ _
                    refine g_if_eq 32 34 (gd rfl) rfl rfl (fun c29 => ?_) (fun c29 => ?_)
                    · skip
                      exact zn_eq c29 (in_c 1 rfl) rfl
                    · skip
                      refine g_iconst 0 33 (gd rfl) rfl rfl ?_
                      exact g_ireturn (gd rfl) rfl rfl (hP _ _ ⟨(sF s 109 0 (Int32.ofInt 1)), hI26x3x18, (fr_sF rfl fr_rf), (Int32.ofInt 0), rfl, rfl, in_w (-1) 159 (in_c 0 rfl) rfl⟩)
              · skip
                have i18 := z_ge 0 2147483647 c18 (i_rng x3) rfl
                refine g_iconst 1 22 (gd rfl) rfl rfl ?_
                refine g_goto 26 (gd rfl) rfl ?_
                refine g_callv (X := _) (As := [.int (Int32.ofInt 1)]) (r := []) (b := A 109) (q := 109) 29 (gd rfl) rfl rfl rfl rfl rfl (ww_o rfl) (Nat.le_of_ble_eq_true rfl) (mc := 0) (ms := 0) (Nat.zero_le _) (Nat.zero_le _) (P := fun v u => _) ?_ (fun e u h => h) (fun v u h => h)
                intro po26 xx26 hp26 hx26
                refine g_enter2 (k := 271) (N := 300) (by first | exact dq1 hd rfl | exact dq0 hd rfl | exact dq2 hd rfl | exact dq3 hd rfl | omega) rfl (Nat.le_of_ble_eq_true rfl) ?_
                refine g_aload_n 1 (gd rfl) rfl rfl ?_
                refine g_iload_n 2 (gd rfl) rfl rfl ?_
                refine g_iconst 1 3 (gd rfl) rfl rfl ?_
                refine g_callv (X := _) (As := [.int (Int32.ofInt 1), .int (Int32.ofInt 1)]) (r := []) (b := A 109) (q := 109) 6 (gd rfl) rfl rfl rfl rfl rfl (ww_o rfl) (Nat.le_of_ble_eq_true rfl) (mc := 0) (ms := 0) (Nat.zero_le _) (Nat.zero_le _) (P := fun v u => _) ?_ (fun e u h => h) (fun v u h => h)
                intro po26x3 xx26x3 hp26x3 hx26x3
                refine g_enter2 (k := 270) (N := 300) (by first | exact dq1 hd rfl | exact dq0 hd rfl | exact dq2 hd rfl | exact dq3 hd rfl | omega) rfl (Nat.le_of_ble_eq_true rfl) ?_
                refine g_aload_n 1 (gd rfl) rfl rfl ?_
                refine g_iload_n 2 (gd rfl) rfl rfl ?_
                refine g_if_ne 5 9 (gd rfl) rfl rfl (fun c26x3x2 => ?_) (fun c26x3x2 => ?_)
                · skip
                  refine g_iload_n 10 (gd rfl) rfl rfl ?_
                  refine g_if_ne 13 17 (gd rfl) rfl rfl (fun c26x3x10 => ?_) (fun c26x3x10 => ?_)
                  · skip
                    refine g_iconst 0 18 (gd rfl) rfl rfl ?_
                    refine g_putI 21 (gd rfl) rfl rfl rfl rfl ?_
                    have hI26x3x18 := inv_sF (q := 109) (j := 0) hI rfl (in_w 0 2 (in_c 0 rfl) rfl)
                    refine g_aload_n 22 (gd rfl) rfl rfl ?_
                    refine g_getI 25 (gd rfl) rfl rfl rfl (fun z26x3x22 e26x3x22 => ?_)
                    have q26x3x22 : (Int32.ofInt 0) = z26x3x22 := (sF_get).trans e26x3x22.symm
                    subst q26x3x22
                    refine g_if_le 28 32 (gd rfl) rfl rfl (fun c26x3x25 => ?_) (fun c26x3x25 => ?_)
                    · skip
                      refine g_iconst 0 33 (gd rfl) rfl rfl ?_
                      refine g_ireturn (gd rfl) rfl (nb01 (in_w 0 1 (in_c 0 rfl) rfl)) (hp26x3 _ _ ?_)
                      show GG _ _ _ _ _ _ _ _ [.int (Int32.ofInt 0)] _ _ _
                      refine g_ireturn (gd rfl) rfl (nb01 (in_w 0 1 (in_c 0 rfl) rfl)) (hp26 _ _ ?_)
                      show GG _ _ _ _ _ _ _ _ [.int (Int32.ofInt 0)] _ _ _
                      refine g_if_eq 32 34 (gd rfl) rfl rfl (fun c29 => ?_) (fun c29 => ?_)
                      · skip
                        refine g_aload_n 35 (gd rfl) rfl rfl ?_
                        refine g_iload_n 36 (gd rfl) rfl rfl ?_
                        refine g_iload_n 37 (gd rfl) rfl rfl ?_
                        have p37 : (x1).toInt < nmx (sF s 109 0 (Int32.ofInt 0)) ∧ (x2).toInt < nmx (sF s 109 0 (Int32.ofInt 0)) := by exact ⟨by unfold nmx; rw [← (show u_109_20 = (sF s 109 0 (Int32.ofInt 0)).2.2.1 109 20 from sF_ne rfl (e_109_20))]; have a0 := oa6 i11x9 i3x9 i3x9a ro_109_19 i18 ((in_c 0 rfl)); omega, by unfold nmx; rw [← (show u_109_20 = (sF s 109 0 (Int32.ofInt 0)).2.2.1 109 20 from sF_ne rfl (e_109_20))]; have a0 := oa6 i11x9 i3x9 i3x9a ro_109_19 i18 ((in_c 0 rfl)); omega⟩
                        refine g_callv (X := _) (As := [.int x1, .int x2]) (r := []) (b := A 109) (q := 109) 40 (gd rfl) rfl rfl rfl rfl rfl (ww_o rfl) (Nat.le_of_ble_eq_true rfl) (Nat.zero_le _) (Nat.zero_le _) (k_314 (by first | exact dq1 hd rfl | exact dq0 hd rfl | exact dq2 hd rfl | exact dq3 hd rfl | omega) hI26x3x18 (in_w 0 31 i3x9 rfl) (in_w 0 31 i11x9 rfl) p37) (fun e u h => h) (fun v u h => ?_)
                        obtain ⟨s37, hI37, hF37, z37, rfl, rfl, i37, p37a⟩ := h
                        show GG _ _ _ _ _ _ _ _ [.int z37] _ _ _
                        refine g_istore 42 (gd rfl) rfl (Nat.le_of_ble_eq_true rfl) ?_
                        refine g_iload 44 (gd rfl) rfl rfl ?_
                        refine g_if_eq 47 67 (gd rfl) rfl rfl (fun c44 => ?_) (fun c44 => ?_)
                        · skip
                          have i44 := z_eq 0 0 c44 i37 rfl
                          refine g_iconst (-1) 68 (gd rfl) rfl rfl ?_
                          exact g_ireturn (gd rfl) rfl rfl (hP _ _ ⟨s37, hI37, (fr_tr rfl (fr_sF rfl fr_rf) hF37), (Int32.ofInt (-1)), rfl, rfl, in_w (-1) 159 (in_c (-1) rfl) rfl⟩)
                        · skip
                          refine g_aload_n 48 (gd rfl) rfl rfl ?_
                          refine g_iload_n 49 (gd rfl) rfl rfl ?_
                          refine g_iload 51 (gd rfl) rfl rfl ?_
                          have p51 : BTS s37 (x2).toNatClampNeg (z37) := by exact (p37a (by have h := c44; omega)).1
                          refine g_callv (X := _) (As := [.int x2, .int z37]) (r := []) (b := A 109) (q := 109) 54 (gd rfl) rfl rfl rfl rfl rfl (ww_o rfl) (Nat.le_of_ble_eq_true rfl) (Nat.zero_le _) (Nat.zero_le _) (k_312 (by first | exact dq1 hd rfl | exact dq0 hd rfl | exact dq2 hd rfl | exact dq3 hd rfl | omega) hI37 (in_w 0 31 i11x9 rfl) p51) (fun e u h => h) (fun v u h => ?_)
                          obtain ⟨s51, hI51, hF51, z51, rfl, rfl, i51, p51a⟩ := h
                          show GG _ _ _ _ _ _ _ _ [.int z51] _ _ _
                          refine g_if_eq 57 67 (gd rfl) rfl rfl (fun c54 => ?_) (fun c54 => ?_)
                          · skip
                            have i54 := z_eq 0 0 c54 i51 rfl
                            refine g_iconst (-1) 68 (gd rfl) rfl rfl ?_
                            exact g_ireturn (gd rfl) rfl rfl (hP _ _ ⟨s51, hI51, (fr_tr rfl (fr_tr rfl (fr_sF rfl fr_rf) hF37) hF51), (Int32.ofInt (-1)), rfl, rfl, in_w (-1) 159 (in_c (-1) rfl) rfl⟩)
                          · skip
                            have i54 := z_ne 1 1 c54 i51 rfl
                            refine g_iload_n 58 (gd rfl) rfl rfl ?_
                            refine g_aload_n 59 (gd rfl) rfl rfl ?_
                            refine g_getA (q2 := 131) 62 (gd rfl) rfl rfl rfl rfl ?_
                            refine g_iload_n 63 (gd rfl) rfl rfl ?_
                            refine g_iaload 64 (gd rfl) rfl (n := 32) rfl (in_ix i3x9 rfl) (fun z63 e63 => ?_)
                            refine g_cmp_lt 67 69 (gd rfl) rfl rfl (fun c64 => ?_) (fun c64 => ?_)
                            · skip
                              have i64 := r_lt1 0 2147483646 c64 i18 (i_rng z63) rfl
                              have i64a := r_lt2 1 2147483647 c64 i18 (i_rng z63) rfl
                              refine g_iload_n 70 (gd rfl) rfl rfl ?_
                              refine g_istore 72 (gd rfl) rfl (Nat.le_of_ble_eq_true rfl) ?_
                              refine g_iconst (-1) 73 (gd rfl) rfl rfl ?_
                              refine g_istore 75 (gd rfl) rfl (Nat.le_of_ble_eq_true rfl) ?_
                              refine g_iconst 0 76 (gd rfl) rfl rfl ?_
                              refine g_istore 78 (gd rfl) rfl (Nat.le_of_ble_eq_true rfl) ?_
                              have n78 : 0 ≤ ((Int32.ofInt 0)).toInt := by have a0 := oa7 i11x9 i3x9 i3x9a ro_109_19 ((in_c 0 rfl)) ((in_c (-1) rfl)) i64; omega
                              have n78a : WFN s51 (x2).toNatClampNeg (z37) := by exact p51a (by have h := c54; omega)
                              have n78b : bt (z37) (x1).toNatClampNeg = true := by exact (p37a (by have h := c44; omega)).2
                              have n78c : (s51.1 131 (x1).toNatClampNeg).toInt + ((Int32.ofInt 0)).toInt = (s51.1 131 (x1).toNatClampNeg).toInt := by have h0 : (Int32.ofInt 0).toInt = 0 := rfl; omega
                              have n78d : (x3).toInt < (s51.1 131 (x1).toNatClampNeg).toInt ∧ (s51.1 131 (x1).toNatClampNeg).toInt ≤ 1000 := by exact ⟨by rw [← e63]; exact c64, ((p51a (by have h := c54; omega)) _ (p37a (by have h := c44; omega)).2).2.2.1.2⟩
                              exact gg_w (by first | exact Nat.le_of_ble_eq_true rfl | omega) (gg_f (gf_cons rfl (gf_cons rfl (gf_cons rfl (gf_cons rfl (gf_cons rfl (gf_cons rfl (gf_cons rfl (gf_cons rfl gf_nil)))))))) (ct78 1001 s51 z37 x1 (Int32.ofInt (-1)) (Int32.ofInt 0) hI51 (fr_tr rfl (fr_tr rfl (fr_sF rfl fr_rf) hF37) hF51) (in_w 0 31 i3x9 rfl) (in_w 0 31 i11x9 rfl) (in_w 0 2147483646 i64 rfl) (in_w 0 31 i3x9 rfl) (in_w (-1) 159 (in_c (-1) rfl) rfl) (in_w 0 1000 (in_c 0 rfl) rfl) c44 n78 n78a n78b n78c n78d (m_in 1001 (in_w 0 1000 (in_c 0 rfl) rfl) rfl)))
                            · skip
                              refine g_iconst (-1) 68 (gd rfl) rfl rfl ?_
                              exact g_ireturn (gd rfl) rfl rfl (hP _ _ ⟨s51, hI51, (fr_tr rfl (fr_tr rfl (fr_sF rfl fr_rf) hF37) hF51), (Int32.ofInt (-1)), rfl, rfl, in_w (-1) 159 (in_c (-1) rfl) rfl⟩)
                      · skip
                        exact zn_ne c29 (in_c 0 rfl) rfl
                    · skip
                      exact zn_gt c26x3x25 (in_c 0 rfl) rfl
                  · skip
                    exact zn_eq c26x3x10 (in_c 1 rfl) rfl
                · skip
                  exact zn_eq c26x3x2 (in_c 1 rfl) rfl

def fm_321 : FM := ([134], [135], [(109, 40)], [])
/-- GraphHouseModel.second -/
theorem k_321 {Z : AmZ} {A : Nat → Nat} {s : GS} {ex : va_W} {d : Nat} {X : AmX} {x1 : Int32} {x2 : Int32} {x3 : Int32} {x4 : Int32} (hd : 5 ≤ d) (hI : Inv s) (h1 : In x1 0 159) (h2 : In x2 0 31) (h4 : In x4 0 31) : GC Z d 321 [.ref (A 109), .int x1, .int x2, .int x3, .int x4] (WW Z A s ++ ex) 0 0 (fun v u => ∃ t : GS, Inv t ∧ Fr fm_321 s t ∧ v = none ∧ u = WW Z A t ++ ex) X := by
  intro post xp hP hX
  obtain ⟨u_109_19, e_109_19⟩ : ∃ w, w = s.2.2.1 109 19 := ⟨_, rfl⟩
  have ro_109_19 := inv_F hI 0 160 rfl e_109_19
  have ct3 : ∀ (k3 : Nat) (sc3 : GS) (y3_5 : Int32), Inv sc3 → Fr fm_321 s sc3 → (In y3_5 0 160) → 160 - (y3_5).toInt < (k3 : Int) → GG Z (d - 1) 321 post (gx xp) (1 + k3 * 900) 3 (fun j => xlook j [(0, .ref (A 109)), (1, .int x1), (2, .int x2), (3, .int x3), (4, .int x4), (5, .int y3_5)]) [] (WW Z A sc3 ++ ex) 0 0 := by
    intro k3
    induction k3 with
    | zero => intro sc3 y3_5 hIc3 hFc3 j3_5 mm3; exact m_no mm3 j3_5 rfl
    | succ k3 ih3 =>
      intro sc3 y3_5 hIc3 hFc3 j3_5 mm3
      refine gg_w (M := 1 + k3 * 900 + 900) gws ?_
      refine g_iload 5 (gd rfl) rfl rfl ?_
      refine g_sipush 160 8 (gd rfl) rfl rfl ?_
      refine g_cmp_ge 11 89 (gd rfl) rfl rfl (fun c8 => ?_) (fun c8 => ?_)
      · skip
        have i8 := r_le2 160 160 c8 (in_c 160 rfl) j3_5 rfl
        exact g_return (gd rfl) rfl (hP _ _ ⟨sc3, hIc3, hFc3, rfl, rfl⟩)
      · skip
        have i8 := r_lt1 0 159 c8 j3_5 (in_c 160 rfl) rfl
        refine g_aload_n 12 (gd rfl) rfl rfl ?_
        refine g_getI 15 (gd rfl) rfl rfl rfl (fun z12 e12 => ?_)
        have i12 := inv_F hIc3 0 2001 rfl e12
        refine g_sipush 2000 18 (gd rfl) rfl rfl ?_
        refine g_cmp_gt 21 89 (gd rfl) rfl rfl (fun c18 => ?_) (fun c18 => ?_)
        · skip
          have i18 := r_lt2 2001 2001 c18 (in_c 2000 rfl) i12 rfl
          exact g_return (gd rfl) rfl (hP _ _ ⟨sc3, hIc3, hFc3, rfl, rfl⟩)
        · skip
          have i18 := r_le1 0 2000 c18 i12 (in_c 2000 rfl) rfl
          refine g_aload_n 22 (gd rfl) rfl rfl ?_
          refine g_iload 24 (gd rfl) rfl rfl ?_
          refine g_iload_n 25 (gd rfl) rfl rfl ?_
          refine g_iload_n 26 (gd rfl) rfl rfl ?_
          refine g_callv (X := _) (As := [.int y3_5, .int x2, .int x3]) (r := []) (b := A 109) (q := 109) 29 (gd rfl) rfl rfl rfl rfl rfl (ww_o rfl) (Nat.le_of_ble_eq_true rfl) (mc := 0) (ms := 0) (Nat.zero_le _) (Nat.zero_le _) (P := fun v u => _) ?_ (fun e u h => h) (fun v u h => h)
          intro po26 xx26 hp26 hx26
          refine g_enter2 (k := 319) (N := 300) (by first | exact dq1 hd rfl | exact dq0 hd rfl | exact dq2 hd rfl | exact dq3 hd rfl | omega) rfl (Nat.le_of_ble_eq_true rfl) ?_
          refine g_aload_n 1 (gd rfl) rfl rfl ?_
          refine g_getA (q2 := 112) 4 (gd rfl) rfl rfl rfl rfl ?_
          refine g_aload_n 5 (gd rfl) rfl rfl ?_
          refine g_getI 8 (gd rfl) rfl rfl rfl (fun z26x5 e26x5 => ?_)
          have q26x5 : u_109_19 = z26x5 := (fr_F e_109_19 hFc3 rfl).trans e26x5.symm
          subst q26x5
          refine g_iload_n 9 (gd rfl) rfl rfl ?_
          refine g_iadd 10 (gd rfl) rfl (fun z26x9 e26x9 => ?_)
          have i26x9 := in_add 0 319 e26x9 ro_109_19 i8 rfl rfl
          refine g_baload 11 (gd rfl) rfl (n := 480) rfl (in_ix i26x9 rfl) (fun z26x10 e26x10 => ?_)
          have i26x10 := inv_I hIc3 (n := 480) (t := 3) 0 1 rfl (in_ix i26x9 rfl) rfl e26x10
          refine g_if_eq 14 51 (gd rfl) rfl rfl (fun c26x11 => ?_) (fun c26x11 => ?_)
          · skip
            have i26x11 := z_eq 0 0 c26x11 i26x10 rfl
            refine g_iconst 0 52 (gd rfl) rfl rfl ?_
            refine g_ireturn (gd rfl) rfl (nb01 (in_w 0 1 (in_c 0 rfl) rfl)) (hp26 _ _ ?_)
            show GG _ _ _ _ _ _ _ _ [.int (Int32.ofInt 0)] _ _ _
            refine g_if_eq 32 83 (gd rfl) rfl rfl (fun c29 => ?_) (fun c29 => ?_)
            · skip
              refine g_iinc 86 (gd rfl) rfl rfl (Nat.le_of_ble_eq_true rfl) (fun z83 e83 => ?_)
              have i83 := in_add 1 160 e83 i8 (in_c 1 rfl) rfl rfl
              refine g_goto 3 (gd rfl) rfl ?_
              exact gg_w (by first | exact Nat.le_add_right _ _ | exact gw2 | exact gw3 | exact gwe rfl | exact gwf rfl | exact gwg rfl | exact gwh rfl | omega) (gg_f (gf_cons rfl (gf_cons rfl (gf_cons rfl (gf_cons rfl (gf_cons rfl (gf_cons rfl gf_nil)))))) (ih3 sc3 z83 hIc3 hFc3 (in_w 0 160 i83 rfl) (m_up mm3 (t_add e83 i8 (in_c 1 rfl) rfl) (in_w 1 1 (in_c 1 rfl) rfl))))
            · skip
              exact zn_ne c29 (in_c 0 rfl) rfl
          · skip
            have i26x11 := z_ne 1 1 c26x11 i26x10 rfl
            refine g_aload_n 15 (gd rfl) rfl rfl ?_
            refine g_getA (q2 := 113) 18 (gd rfl) rfl rfl rfl rfl ?_
            refine g_aload_n 19 (gd rfl) rfl rfl ?_
            refine g_getI 22 (gd rfl) rfl rfl rfl (fun z26x19 e26x19 => ?_)
            have q26x19 : u_109_19 = z26x19 := (fr_F e_109_19 hFc3 rfl).trans e26x19.symm
            subst q26x19
            refine g_iload_n 23 (gd rfl) rfl rfl ?_
            refine g_iadd 24 (gd rfl) rfl (fun z26x23 e26x23 => ?_)
            have i26x23 := in_add 0 319 e26x23 ro_109_19 i8 rfl rfl
            refine g_iaload 25 (gd rfl) rfl (n := 480) rfl (in_ix i26x23 rfl) (fun z26x24 e26x24 => ?_)
            have i26x24 := inv_I hIc3 (n := 480) (t := 0) 0 31 rfl (in_ix i26x23 rfl) rfl e26x24
            refine g_iload_n 26 (gd rfl) rfl rfl ?_
            refine g_cmp_ne 29 51 (gd rfl) rfl rfl (fun c26x26 => ?_) (fun c26x26 => ?_)
            · skip
              refine g_iconst 0 52 (gd rfl) rfl rfl ?_
              refine g_ireturn (gd rfl) rfl (nb01 (in_w 0 1 (in_c 0 rfl) rfl)) (hp26 _ _ ?_)
              show GG _ _ _ _ _ _ _ _ [.int (Int32.ofInt 0)] _ _ _
              refine g_if_eq 32 83 (gd rfl) rfl rfl (fun c29 => ?_) (fun c29 => ?_)
              · skip
                refine g_iinc 86 (gd rfl) rfl rfl (Nat.le_of_ble_eq_true rfl) (fun z83 e83 => ?_)
                have i83 := in_add 1 160 e83 i8 (in_c 1 rfl) rfl rfl
                refine g_goto 3 (gd rfl) rfl ?_
                exact gg_w (by first | exact Nat.le_add_right _ _ | exact gw2 | exact gw3 | exact gwe rfl | exact gwf rfl | exact gwg rfl | exact gwh rfl | omega) (gg_f (gf_cons rfl (gf_cons rfl (gf_cons rfl (gf_cons rfl (gf_cons rfl (gf_cons rfl gf_nil)))))) (ih3 sc3 z83 hIc3 hFc3 (in_w 0 160 i83 rfl) (m_up mm3 (t_add e83 i8 (in_c 1 rfl) rfl) (in_w 1 1 (in_c 1 rfl) rfl))))
              · skip
                exact zn_ne c29 (in_c 0 rfl) rfl
            · skip
              refine g_iload_n 30 (gd rfl) rfl rfl ?_
              refine g_aload_n 31 (gd rfl) rfl rfl ?_
              refine g_getA (q2 := 114) 34 (gd rfl) rfl rfl rfl rfl ?_
              refine g_aload_n 35 (gd rfl) rfl rfl ?_
              refine g_getI 38 (gd rfl) rfl rfl rfl (fun z26x35 e26x35 => ?_)
              have q26x35 : u_109_19 = z26x35 := (fr_F e_109_19 hFc3 rfl).trans e26x35.symm
              subst q26x35
              refine g_iload_n 39 (gd rfl) rfl rfl ?_
              refine g_iadd 40 (gd rfl) rfl (fun z26x39 e26x39 => ?_)
              have i26x39 := in_add 0 319 e26x39 ro_109_19 i8 rfl rfl
              refine g_iaload 41 (gd rfl) rfl (n := 480) rfl (in_ix i26x39 rfl) (fun z26x40 e26x40 => ?_)
              have i26x40 := inv_I hIc3 (n := 480) (t := 0) 0 31 rfl (in_ix i26x39 rfl) rfl e26x40
              refine g_calls (As := [.int x3, .int z26x40]) (r := []) 44 (gd rfl) rfl rfl rfl rfl rfl (Nat.le_of_ble_eq_true rfl) (mc := 0) (ms := 0) (Nat.zero_le _) (Nat.zero_le _) (P := fun v u => _) ?_ (fun v u h => h)
              intro po26x41 xx26x41 hp26x41 hx26x41
              refine g_enter2 (k := 311) (N := 300) (by first | exact dq1 hd rfl | exact dq0 hd rfl | exact dq2 hd rfl | exact dq3 hd rfl | omega) rfl (Nat.le_of_ble_eq_true rfl) ?_
              refine g_iload_n 1 (gd rfl) rfl rfl ?_
              refine g_iload_n 2 (gd rfl) rfl rfl ?_
              refine g_ishr 3 (gd rfl) rfl (fun z26x41x2 e26x41x2 => ?_)
              refine g_iconst 1 4 (gd rfl) rfl rfl ?_
              refine g_iand 5 (gd rfl) rfl (fun z26x41x4 e26x41x4 => ?_)
              have i26x41x4 := in_and2 e26x41x4 (in_c 1 rfl) rfl
              refine g_iconst 1 6 (gd rfl) rfl rfl ?_
              refine g_cmp_ne 9 13 (gd rfl) rfl rfl (fun c26x41x6 => ?_) (fun c26x41x6 => ?_)
              · skip
                have i26x41x6 := r_ne1 0 0 c26x41x6 i26x41x4 (in_c 1 rfl) rfl
                refine g_iconst 0 14 (gd rfl) rfl rfl ?_
                refine g_ireturn (gd rfl) rfl (nb01 (in_w 0 1 (in_c 0 rfl) rfl)) (hp26x41 _ _ ?_)
                show GG _ _ _ _ _ _ _ _ [.int (Int32.ofInt 0)] _ _ _
                refine g_if_ne 47 51 (gd rfl) rfl rfl (fun c26x44 => ?_) (fun c26x44 => ?_)
                · skip
                  exact zn_ne c26x44 (in_c 0 rfl) rfl
                · skip
                  refine g_iconst 1 48 (gd rfl) rfl rfl ?_
                  refine g_goto 52 (gd rfl) rfl ?_
                  refine g_ireturn (gd rfl) rfl (nb01 (in_w 0 1 (in_c 1 rfl) rfl)) (hp26 _ _ ?_)
                  show GG _ _ _ _ _ _ _ _ [.int (Int32.ofInt 1)] _ _ _
                  refine g_if_eq 32 83 (gd rfl) rfl rfl (fun c29 => ?_) (fun c29 => ?_)
                  · skip
                    exact zn_eq c29 (in_c 1 rfl) rfl
                  · skip
                    refine g_aload_n 33 (gd rfl) rfl rfl ?_
                    refine g_getA (q2 := 114) 36 (gd rfl) rfl rfl rfl rfl ?_
                    refine g_aload_n 37 (gd rfl) rfl rfl ?_
                    refine g_getI 40 (gd rfl) rfl rfl rfl (fun z37 e37 => ?_)
                    have q37 : u_109_19 = z37 := (fr_F e_109_19 hFc3 rfl).trans e37.symm
                    subst q37
                    refine g_iload 42 (gd rfl) rfl rfl ?_
                    refine g_iadd 43 (gd rfl) rfl (fun z42 e42 => ?_)
                    have i42 := in_add 0 319 e42 ro_109_19 i8 rfl rfl
                    refine g_iaload 44 (gd rfl) rfl (n := 480) rfl (in_ix i42 rfl) (fun z43 e43 => ?_)
                    have i43 := inv_I hIc3 (n := 480) (t := 0) 0 31 rfl (in_ix i42 rfl) rfl e43
                    refine g_istore 46 (gd rfl) rfl (Nat.le_of_ble_eq_true rfl) ?_
                    refine g_iload 48 (gd rfl) rfl rfl ?_
                    refine g_iload 50 (gd rfl) rfl rfl ?_
                    refine g_cmp_ne 53 66 (gd rfl) rfl rfl (fun c50 => ?_) (fun c50 => ?_)
                    · skip
                      refine g_aload_n 67 (gd rfl) rfl rfl ?_
                      refine g_iload_n 68 (gd rfl) rfl rfl ?_
                      refine g_iload 70 (gd rfl) rfl rfl ?_
                      refine g_iload 72 (gd rfl) rfl rfl ?_
                      refine g_iload_n 73 (gd rfl) rfl rfl ?_
                      refine g_iconst 1 74 (gd rfl) rfl rfl ?_
                      refine g_iload 76 (gd rfl) rfl rfl ?_
                      refine g_ishl 77 (gd rfl) rfl (fun z76 e76 => ?_)
                      refine g_ior 78 (gd rfl) rfl (fun z77 e77 => ?_)
                      refine g_iload 80 (gd rfl) rfl rfl ?_
                      refine g_callv (X := _) (As := [.int x1, .int y3_5, .int z43, .int z77, .int x4]) (r := []) (b := A 109) (q := 109) 83 (gd rfl) rfl rfl rfl rfl rfl (ww_o rfl) (Nat.le_of_ble_eq_true rfl) (Nat.zero_le _) (Nat.zero_le _) (k_322 (by first | exact dq1 hd rfl | exact dq0 hd rfl | exact dq2 hd rfl | exact dq3 hd rfl | omega) hIc3 (in_w 0 159 h1 rfl) (in_w 0 159 i8 rfl) (in_w 0 31 i43 rfl) (in_w 0 31 h4 rfl)) (fun e u h => h) (fun v u h => ?_)
                      obtain ⟨s80, hI80, hF80, rfl, rfl⟩ := h
                      show GG _ _ _ _ _ _ _ _ [] _ _ _
                      refine g_iinc 86 (gd rfl) rfl rfl (Nat.le_of_ble_eq_true rfl) (fun z83 e83 => ?_)
                      have i83 := in_add 1 160 e83 i8 (in_c 1 rfl) rfl rfl
                      refine g_goto 3 (gd rfl) rfl ?_
                      exact gg_w (by first | exact Nat.le_add_right _ _ | exact gw2 | exact gw3 | exact gwe rfl | exact gwf rfl | exact gwg rfl | exact gwh rfl | omega) (gg_f (gf_cons rfl (gf_cons rfl (gf_cons rfl (gf_cons rfl (gf_cons rfl (gf_cons rfl gf_nil)))))) (ih3 s80 z83 hI80 (fr_tr rfl hFc3 hF80) (in_w 0 160 i83 rfl) (m_up mm3 (t_add e83 i8 (in_c 1 rfl) rfl) (in_w 1 1 (in_c 1 rfl) rfl))))
                    · skip
                      refine g_aload_n 54 (gd rfl) rfl rfl ?_
                      refine g_iconst 2 55 (gd rfl) rfl rfl ?_
                      refine g_iload_n 56 (gd rfl) rfl rfl ?_
                      refine g_iload 58 (gd rfl) rfl rfl ?_
                      refine g_iconst 0 59 (gd rfl) rfl rfl ?_
                      refine g_iconst 0 60 (gd rfl) rfl rfl ?_
                      refine g_callv (X := _) (As := [.int (Int32.ofInt 2), .int x1, .int y3_5, .int (Int32.ofInt 0), .int (Int32.ofInt 0)]) (r := []) (b := A 109) (q := 109) 63 (gd rfl) rfl rfl rfl rfl rfl (ww_o rfl) (Nat.le_of_ble_eq_true rfl) (Nat.zero_le _) (Nat.zero_le _) (k_318 (by first | exact dq1 hd rfl | exact dq0 hd rfl | exact dq2 hd rfl | exact dq3 hd rfl | omega) hIc3 (in_w 1 4 (in_c 2 rfl) rfl) (in_w 0 159 h1 rfl) (in_w 0 159 i8 rfl) (in_w 0 159 (in_c 0 rfl) rfl) (in_w 0 159 (in_c 0 rfl) rfl)) (fun e u h => h) (fun v u h => ?_)
                      obtain ⟨s60, hI60, hF60, rfl, rfl⟩ := h
                      show GG _ _ _ _ _ _ _ _ [] _ _ _
                      refine g_goto 83 (gd rfl) rfl ?_
                      refine g_iinc 86 (gd rfl) rfl rfl (Nat.le_of_ble_eq_true rfl) (fun z83 e83 => ?_)
                      have i83 := in_add 1 160 e83 i8 (in_c 1 rfl) rfl rfl
                      refine g_goto 3 (gd rfl) rfl ?_
                      exact gg_w (by first | exact Nat.le_add_right _ _ | exact gw2 | exact gw3 | exact gwe rfl | exact gwf rfl | exact gwg rfl | exact gwh rfl | omega) (gg_f (gf_cons rfl (gf_cons rfl (gf_cons rfl (gf_cons rfl (gf_cons rfl (gf_cons rfl gf_nil)))))) (ih3 s60 z83 hI60 (fr_tr rfl hFc3 hF60) (in_w 0 160 i83 rfl) (m_up mm3 (t_add e83 i8 (in_c 1 rfl) rfl) (in_w 1 1 (in_c 1 rfl) rfl))))
              · skip
                have i26x41x6 := r_eq1 1 1 c26x41x6 i26x41x4 (in_c 1 rfl) rfl
                refine g_iconst 1 10 (gd rfl) rfl rfl ?_
                refine g_goto 14 (gd rfl) rfl ?_
                refine g_ireturn (gd rfl) rfl (nb01 (in_w 0 1 (in_c 1 rfl) rfl)) (hp26x41 _ _ ?_)
                show GG _ _ _ _ _ _ _ _ [.int (Int32.ofInt 1)] _ _ _
                refine g_if_ne 47 51 (gd rfl) rfl rfl (fun c26x44 => ?_) (fun c26x44 => ?_)
                · skip
                  refine g_iconst 0 52 (gd rfl) rfl rfl ?_
                  refine g_ireturn (gd rfl) rfl (nb01 (in_w 0 1 (in_c 0 rfl) rfl)) (hp26 _ _ ?_)
                  show GG _ _ _ _ _ _ _ _ [.int (Int32.ofInt 0)] _ _ _
                  refine g_if_eq 32 83 (gd rfl) rfl rfl (fun c29 => ?_) (fun c29 => ?_)
                  · skip
                    refine g_iinc 86 (gd rfl) rfl rfl (Nat.le_of_ble_eq_true rfl) (fun z83 e83 => ?_)
                    have i83 := in_add 1 160 e83 i8 (in_c 1 rfl) rfl rfl
                    refine g_goto 3 (gd rfl) rfl ?_
                    exact gg_w (by first | exact Nat.le_add_right _ _ | exact gw2 | exact gw3 | exact gwe rfl | exact gwf rfl | exact gwg rfl | exact gwh rfl | omega) (gg_f (gf_cons rfl (gf_cons rfl (gf_cons rfl (gf_cons rfl (gf_cons rfl (gf_cons rfl gf_nil)))))) (ih3 sc3 z83 hIc3 hFc3 (in_w 0 160 i83 rfl) (m_up mm3 (t_add e83 i8 (in_c 1 rfl) rfl) (in_w 1 1 (in_c 1 rfl) rfl))))
                  · skip
                    exact zn_ne c29 (in_c 0 rfl) rfl
                · skip
                  exact zn_eq c26x44 (in_c 1 rfl) rfl
  refine g_enter2 (k := 321) (N := 145801) (by first | exact dq1 hd rfl | exact dq0 hd rfl | exact dq2 hd rfl | exact dq3 hd rfl | omega) rfl (Nat.le_of_ble_eq_true rfl) ?_
  refine g_iconst 0 1 (gd rfl) rfl rfl ?_
  refine g_istore 3 (gd rfl) rfl (Nat.le_of_ble_eq_true rfl) ?_
  exact gg_w (by first | exact Nat.le_of_ble_eq_true rfl | omega) (gg_f (gf_cons rfl (gf_cons rfl (gf_cons rfl (gf_cons rfl (gf_cons rfl (gf_cons rfl gf_nil)))))) (ct3 161 s (Int32.ofInt 0) hI fr_rf (in_w 0 160 (in_c 0 rfl) rfl) (m_in 161 (in_w 0 160 (in_c 0 rfl) rfl) rfl)))

def fm_352 : FM := ([132, 148], [147], [], [])
/-- GraphHouseModel.most -/
theorem k_352 {Z : AmZ} {A : Nat → Nat} {s : GS} {ex : va_W} {d : Nat} {X : AmX} {x1 : Int32} {x2 : Int32} (hd : 2 ≤ d) (hI : Inv s) (h1 : In x1 0 31) (h2 : In x2 0 31) (q_0 : (x2).toInt < (s.2.2.1 109 20).toInt ∧ (x1).toInt ≠ (x2).toInt) : GC Z d 352 [.ref (A 109), .int x1, .int x2] (WW Z A s ++ ex) 0 0 (fun v u => ∃ t : GS, Inv t ∧ Fr fm_352 s t ∧ ∃ z : Int64, v = some (.long z) ∧ u = WW Z A t ++ ex) X := by
  intro post xp hP hX
  have ct29 : ∀ (k29 : Nat) (sc29 : GS) (y29_3 : Int64), Inv sc29 → Fr fm_352 s sc29 → (SR sc29 (x1).toInt) → (FB sc29 (sc29.2.1 147)) → (RS sc29 (x1).toInt (sc29.2.1 147) 160).toNat < k29 → GG Z (d - 1) 352 post (gx xp) (1 + k29 * 62102) 29 (fun j => xlook j [(0, .ref (A 109)), (1, .int x1), (2, .int x2), (3, .long y29_3)]) [] (WW Z A sc29 ++ ex) 0 0 := by
    intro k29
    induction k29 with
    | zero => intro sc29 y29_3 hIc29 hFc29 g29_0 g29_1 mm29; exact absurd mm29 (Nat.not_lt_zero _)
    | succ k29 ih29 =>
      intro sc29 y29_3 hIc29 hFc29 g29_0 g29_1 mm29
      refine gg_w (M := 1 + k29 * 62102 + 62102) gws ?_
      have ct91 : ∀ (k91 : Nat) (sc91 : GS) (y91_5 : Int64) (y91_7 : Int32), Inv sc91 → Fr fm_352 s sc91 → (In y91_7 0 31) → (sc91.1 = sc29.1 ∧ sc91.2.2.1 = sc29.2.2.1) → (PBW sc29 (x1).toInt (y91_5).toInt (x2).toNatClampNeg (sc91.2.1 147) (y91_7).toNatClampNeg) → (1 ≤ (y91_5).toInt ∧ (y91_5).toInt ≤ 1000000000) → rkf sc29 (x1).toInt (y91_7).toNatClampNeg < k91 → GG Z (d - 1) 352 post (gx xp) (1 + k29 * 62102 + 1 + k91 * 900) 91 (fun j => xlook j [(0, .ref (A 109)), (1, .int x1), (2, .int x2), (3, .long y29_3), (5, .long y91_5), (7, .int y91_7)]) [] (WW Z A sc91 ++ ex) 0 0 := by
        intro k91
        induction k91 with
        | zero => intro sc91 y91_5 y91_7 hIc91 hFc91 j91_7 g91_0 g91_1 g91_2 mm91; exact absurd mm91 (Nat.not_lt_zero _)
        | succ k91 ih91 =>
          intro sc91 y91_5 y91_7 hIc91 hFc91 j91_7 g91_0 g91_1 g91_2 mm91
          refine gg_w (M := 1 + k29 * 62102 + 1 + k91 * 900 + 900) gws ?_
          refine g_iload 93 (gd rfl) rfl rfl ?_
          refine g_iload_n 94 (gd rfl) rfl rfl ?_
          refine g_cmp_eq 97 120 (gd rfl) rfl rfl (fun c94 => ?_) (fun c94 => ?_)
          · skip
            refine g_lload_n 121 (gd rfl) rfl rfl ?_
            refine g_lload 123 (gd rfl) rfl rfl ?_
            refine g_ladd 124 (gd rfl) rfl (fun z123 e123 => ?_)
            refine g_lstore_n 125 (gd rfl) rfl (Nat.le_of_ble_eq_true rfl) ?_
            refine g_aload_n 126 (gd rfl) rfl rfl ?_
            refine g_iload_n 127 (gd rfl) rfl rfl ?_
            refine g_callv (X := _) (As := [.int x1]) (r := []) (b := A 109) (q := 109) 130 (gd rfl) rfl rfl rfl rfl rfl (ww_o rfl) (Nat.le_of_ble_eq_true rfl) (Nat.zero_le _) (Nat.zero_le _) (k_348 (by first | exact dq1 hd rfl | exact dq0 hd rfl | exact dq2 hd rfl | exact dq3 hd rfl | omega) hIc91 (in_w 0 31 h1 rfl)) (fun e u h => h) (fun v u h => ?_)
            obtain ⟨s127, hI127, hF127, rfl, rfl, p127⟩ := h
            show GG _ _ _ _ _ _ _ _ [] _ _ _
            refine g_goto 29 (gd rfl) rfl ?_
            have n29 : SR s127 (x1).toInt := by first | exact p26 | exact p127
            have n29a : FB s127 (s127.2.1 147) := by first | exact (ms_e hIc29 g91_0.1 g91_0.2 g91_1 (by show ((y91_7.toInt.toNat : Nat) : Int) = _; have a0 := oa3 h2 h1 j91_7; omega) g91_2.1 (hF127.2.1 147 rfl) (hF127.1 112 rfl) (hF127.1 113 rfl) (hF127.1 114 rfl) (hF127.1 116 rfl) (hF127.2.2.1 109 19 rfl) mm29).1 | (intro a ha ht; rw [hF26.2.1 147 rfl]; have h0 := g2_0 a (by have a0 := oa3 h2 h1 j91_7; omega); have hr := (arc_n hI127 ha ht).2.2.1; omega)
            have m29 : (RS s127 (x1).toInt (s127.2.1 147) 160).toNat < k29 := by exact (ms_e hIc29 g91_0.1 g91_0.2 g91_1 (by show ((y91_7.toInt.toNat : Nat) : Int) = _; have a0 := oa3 h2 h1 j91_7; omega) g91_2.1 (hF127.2.1 147 rfl) (hF127.1 112 rfl) (hF127.1 113 rfl) (hF127.1 114 rfl) (hF127.1 116 rfl) (hF127.2.2.1 109 19 rfl) mm29).2
            exact gg_w (by first | exact Nat.le_add_right _ _ | exact gw2 | exact gw3 | exact gwe rfl | exact gwf rfl | exact gwg rfl | exact gwh rfl | omega) (gg_f (gf_cons rfl (gf_cons rfl (gf_cons rfl (gf_cons rfl gf_nil)))) (ih29  s127 z123 hI127 (fr_tr rfl hFc91 hF127) n29 n29a m29))
          · skip
            have hx91 : ((y91_7.toNatClampNeg : Nat) : Int) ≠ x1.toInt := (by show ((y91_7.toInt.toNat : Nat) : Int) ≠ _; have a0 := oa3 h2 h1 j91_7; omega)
            have hev := ev_bf hIc29 (rkf_ok g29_0) (pbw_nd g91_1 hx91) hx91
            refine g_aload_n 98 (gd rfl) rfl rfl ?_
            refine g_iload 100 (gd rfl) rfl rfl ?_
            have p100 : BE sc91 (y91_7).toNatClampNeg := by exact be_cg g91_0.1 hev.1
            refine g_callv (X := _) (As := [.int y91_7]) (r := []) (b := A 109) (q := 109) 103 (gd rfl) rfl rfl rfl rfl rfl (ww_o rfl) (Nat.le_of_ble_eq_true rfl) (Nat.zero_le _) (Nat.zero_le _) (k_349 (by first | exact dq1 hd rfl | exact dq0 hd rfl | exact dq2 hd rfl | exact dq3 hd rfl | omega) hIc91 (in_w 0 31 j91_7 rfl) p100) (fun e u h => h) (fun v u h => ?_)
            obtain ⟨z100, rfl, rfl, i100, p100a⟩ := h
            show GG _ _ _ _ _ _ _ _ [.int z100] _ _ _
            refine g_istore 105 (gd rfl) rfl (Nat.le_of_ble_eq_true rfl) ?_
            refine g_aload_n 106 (gd rfl) rfl rfl ?_
            refine g_iload 108 (gd rfl) rfl rfl ?_
            refine g_lload 110 (gd rfl) rfl rfl ?_
            have p110 : BE sc91 (y91_7).toNatClampNeg := by exact be_cg g91_0.1 hev.1
            refine g_callv (X := _) (As := [.int y91_7, .long y91_5]) (r := []) (b := A 109) (q := 109) 113 (gd rfl) rfl rfl rfl rfl rfl (ww_o rfl) (Nat.le_of_ble_eq_true rfl) (Nat.zero_le _) (Nat.zero_le _) (k_351 (by first | exact dq1 hd rfl | exact dq0 hd rfl | exact dq2 hd rfl | exact dq3 hd rfl | omega) hIc91 (in_w 0 31 j91_7 rfl) p110) (fun e u h => h) (fun v u h => ?_)
            obtain ⟨s110, hI110, hF110, rfl, rfl, p110a⟩ := h
            show GG _ _ _ _ _ _ _ _ [] _ _ _
            refine g_iload 115 (gd rfl) rfl rfl ?_
            refine g_istore 117 (gd rfl) rfl (Nat.le_of_ble_eq_true rfl) ?_
            refine g_goto 91 (gd rfl) rfl ?_
            have n91 : s110.1 = sc29.1 ∧ s110.2.2.1 = sc29.2.2.1 := by first | exact ⟨(funext fun q => hF110.1 q rfl).trans g91_0.1, (funext fun q => funext fun k => hF110.2.2.1 q k rfl).trans g91_0.2⟩ | (rw [g46_0]; exact ⟨rfl, rfl⟩)
            have n91a : PBW sc29 (x1).toInt (y91_5).toInt (x2).toNatClampNeg (s110.2.1 147) (z100).toNatClampNeg := by first | exact pbw_pu hIc29 g29_0 g91_0.1 g91_0.2 g91_1 hx91 g91_2.1 g91_2.2 p110a p100a | (obtain ⟨k, hk1, hk2⟩ := g46_1; rw [g46_0]; exact pbw_0 hk2 hk1 (by show ((y46_7.toInt.toNat : Nat) : Int) = _; have a0 := oa4 h2 h1 j91_7 i100; omega) (by show ((x2.toInt.toNat : Nat) : Int) ≠ _; have hq := q_0; have a0 := oa4 h2 h1 j91_7 i100; omega) g29_1)
            have n91b : 1 ≤ (y91_5).toInt ∧ (y91_5).toInt ≤ 1000000000 := by first | exact g91_2 | exact g46_3
            have m91 : rkf sc29 (x1).toInt (z100).toNatClampNeg < k91 := by rw [p100a, bf_cg g91_0.1 g91_0.2]; have hl := hev.2.2.1; have hm := mm91; omega
            exact gg_w (by first | exact Nat.le_add_right _ _ | exact gw2 | exact gw3 | exact gwe rfl | exact gwf rfl | exact gwg rfl | exact gwh rfl | omega) (gg_f (gf_cons rfl (gf_cons rfl (gf_cons rfl (gf_cons rfl (gf_cons rfl (gf_cons rfl gf_nil)))))) (ih91  s110 y91_5 z100 hI110 (fr_tr rfl hFc91 hF110) (in_w 0 31 i100 rfl) n91 n91a n91b m91))
      have ct46 : ∀ (k46 : Nat) (sc46 : GS) (y46_5 : Int64) (y46_7 : Int32), Inv sc46 → Fr fm_352 s sc46 → (In y46_7 0 31) → (sc46 = sc29) → (∃ k, (y46_7).toNatClampNeg = it sc29 (x2).toNatClampNeg k ∧ WY sc29 (x1).toInt (y46_5).toInt (x2).toNatClampNeg k) → (ND sc29 (y46_7).toNatClampNeg) → (1 ≤ (y46_5).toInt ∧ (y46_5).toInt ≤ 1000000000) → rkf sc29 (x1).toInt (y46_7).toNatClampNeg < k46 → GG Z (d - 1) 352 post (gx xp) (1 + k29 * 62102 + 28802 + k46 * 900) 46 (fun j => xlook j [(0, .ref (A 109)), (1, .int x1), (2, .int x2), (3, .long y29_3), (5, .long y46_5), (7, .int y46_7)]) [] (WW Z A sc46 ++ ex) 0 0 := by
        intro k46
        induction k46 with
        | zero => intro sc46 y46_5 y46_7 hIc46 hFc46 j46_7 g46_0 g46_1 g46_2 g46_3 mm46; exact absurd mm46 (Nat.not_lt_zero _)
        | succ k46 ih46 =>
          intro sc46 y46_5 y46_7 hIc46 hFc46 j46_7 g46_0 g46_1 g46_2 g46_3 mm46
          refine gg_w (M := 1 + k29 * 62102 + 28802 + k46 * 900 + 900) gws ?_
          refine g_iload 48 (gd rfl) rfl rfl ?_
          refine g_iload_n 49 (gd rfl) rfl rfl ?_
          refine g_cmp_eq 52 88 (gd rfl) rfl rfl (fun c49 => ?_) (fun c49 => ?_)
          · skip
            refine g_iload_n 89 (gd rfl) rfl rfl ?_
            refine g_istore 91 (gd rfl) rfl (Nat.le_of_ble_eq_true rfl) ?_
            have n91 : sc46.1 = sc29.1 ∧ sc46.2.2.1 = sc29.2.2.1 := by first | exact ⟨(funext fun q => hF110.1 q rfl).trans g91_0.1, (funext fun q => funext fun k => hF110.2.2.1 q k rfl).trans g91_0.2⟩ | (rw [g46_0]; exact ⟨rfl, rfl⟩)
            have n91a : PBW sc29 (x1).toInt (y46_5).toInt (x2).toNatClampNeg (sc46.2.1 147) (x2).toNatClampNeg := by first | exact pbw_pu hIc29 g29_0 g91_0.1 g91_0.2 g91_1 hx91 g91_2.1 g91_2.2 p110a p100a | (obtain ⟨k, hk1, hk2⟩ := g46_1; rw [g46_0]; exact pbw_0 hk2 hk1 (by show ((y46_7.toInt.toNat : Nat) : Int) = _; have a0 := oa3 h2 h1 j46_7; omega) (by show ((x2.toInt.toNat : Nat) : Int) ≠ _; have hq := q_0; have a0 := oa3 h2 h1 j46_7; omega) g29_1)
            have n91b : 1 ≤ (y46_5).toInt ∧ (y46_5).toInt ≤ 1000000000 := by first | exact g91_2 | exact g46_3
            have m91 : rkf sc29 (x1).toInt (x2).toNatClampNeg < 32 := by have hnd := pbw_nd n91a (by show ((x2.toInt.toNat : Nat) : Int) ≠ _; have hq := q_0; have a0 := oa3 h2 h1 j46_7; omega); exact (rkf_ok g29_0).1 _ hnd.1 hnd.2.2
            exact gg_w (by first | exact Nat.le_add_right _ _ | exact gw2 | exact gw3 | exact gwe rfl | exact gwf rfl | exact gwg rfl | exact gwh rfl | omega) (gg_f (gf_cons rfl (gf_cons rfl (gf_cons rfl (gf_cons rfl (gf_cons rfl (gf_cons rfl gf_nil)))))) (ct91 (32) sc46 y46_5 x2 hIc46 hFc46 (in_w 0 31 h2 rfl) n91 n91a n91b m91))
          · skip
            have hx46 : ((y46_7.toNatClampNeg : Nat) : Int) ≠ x1.toInt := (by show ((y46_7.toInt.toNat : Nat) : Int) ≠ _; have a0 := oa3 h2 h1 j46_7; omega)
            have hev := ev_bf hIc29 (rkf_ok g29_0) g46_2 hx46
            have hfo := fb_fo hIc29 g29_1 hev.2.2.2.2.1 hev.2.2.2.2.2.1
            refine g_aload_n 53 (gd rfl) rfl rfl ?_
            refine g_iload 55 (gd rfl) rfl rfl ?_
            have p55 : BE sc46 (y46_7).toNatClampNeg := by rw [g46_0]; exact hev.1
            refine g_callv (X := _) (As := [.int y46_7]) (r := []) (b := A 109) (q := 109) 58 (gd rfl) rfl rfl rfl rfl rfl (ww_o rfl) (Nat.le_of_ble_eq_true rfl) (Nat.zero_le _) (Nat.zero_le _) (k_350 (by first | exact dq1 hd rfl | exact dq0 hd rfl | exact dq2 hd rfl | exact dq3 hd rfl | omega) hIc46 (in_w 0 31 j46_7 rfl) p55) (fun e u h => h) (fun v u h => ?_)
            obtain ⟨z55, rfl, rfl, p55a⟩ := h
            show GG _ _ _ _ _ _ _ _ [.long z55] _ _ _
            have hz55 : z55.toInt = rm sc29 y46_7.toNatClampNeg := (by have h := p55a; rw [g46_0] at h; exact h hfo)
            refine g_lload 60 (gd rfl) rfl rfl ?_
            refine g_lcmp 61 (gd rfl) rfl (fun z60 e60 => ?_)
            have i60 := lc_in e60
            refine g_if_ge 64 73 (gd rfl) rfl rfl (fun c61 => ?_) (fun c61 => ?_)
            · skip
              have i61 := z_ge 0 1 c61 i60 rfl
              have c61a := lc_ge e60 c61
              refine g_lload 75 (gd rfl) rfl rfl ?_
              refine g_lstore 77 (gd rfl) rfl (Nat.le_of_ble_eq_true rfl) ?_
              refine g_aload_n 78 (gd rfl) rfl rfl ?_
              refine g_iload 80 (gd rfl) rfl rfl ?_
              have p80 : BE sc46 (y46_7).toNatClampNeg := by rw [g46_0]; exact hev.1
              refine g_callv (X := _) (As := [.int y46_7]) (r := []) (b := A 109) (q := 109) 83 (gd rfl) rfl rfl rfl rfl rfl (ww_o rfl) (Nat.le_of_ble_eq_true rfl) (Nat.zero_le _) (Nat.zero_le _) (k_349 (by first | exact dq1 hd rfl | exact dq0 hd rfl | exact dq2 hd rfl | exact dq3 hd rfl | omega) hIc46 (in_w 0 31 j46_7 rfl) p80) (fun e u h => h) (fun v u h => ?_)
              obtain ⟨z80, rfl, rfl, i80, p80a⟩ := h
              show GG _ _ _ _ _ _ _ _ [.int z80] _ _ _
              refine g_istore 85 (gd rfl) rfl (Nat.le_of_ble_eq_true rfl) ?_
              refine g_goto 46 (gd rfl) rfl ?_
              have n46 : sc46 = sc29 := by first | exact g46_0 | rfl
              have n46a : ∃ k, (z80).toNatClampNeg = it sc29 (x2).toNatClampNeg k ∧ WY sc29 (x1).toInt (y46_5).toInt (x2).toNatClampNeg k := by first | (obtain ⟨k, hk1, hk2⟩ := g46_1; exact ⟨k + 1, by rw [p80a, g46_0, hk1]; rfl, wy_s hk2 (by rw [← hk1]; exact hx46) (by rw [← hk1]; exact g46_2) (by omega) (by rw [← hk1]; omega)⟩) | exact ⟨0, rfl, fun j hj => absurd hj (Nat.not_lt_zero _)⟩
              have n46b : ND sc29 (z80).toNatClampNeg := by first | (rw [p80a, g46_0]; exact hev.2.1) | exact ⟨by show x2.toInt.toNat < 32; have a0 := oa4 h2 h1 j46_7 i80; (first | exact zt_l (by decide) (by omega) | omega), by show ((x2.toInt.toNat : Nat) : Int) < _; rw [hFc29.2.2.1 109 20 rfl]; have hq := q_0; have a0 := oa4 h2 h1 j46_7 i80; omega, by rw [← e34]; have a0 := oa4 h2 h1 j46_7 i80; omega⟩
              have n46c : 1 ≤ (y46_5).toInt ∧ (y46_5).toInt ≤ 1000000000 := by first | exact g46_3 | (first | exact ⟨by decide, by decide⟩ | (have hr1 := hev.2.2.2.1; have hq := g46_3; exact ⟨by omega, by omega⟩))
              have m46 : rkf sc29 (x1).toInt (z80).toNatClampNeg < k46 := by rw [p80a, g46_0]; have hl := hev.2.2.1; have hm := mm46; omega
              exact gg_w (by first | exact Nat.le_add_right _ _ | exact gw2 | exact gw3 | exact gwe rfl | exact gwf rfl | exact gwg rfl | exact gwh rfl | omega) (gg_f (gf_cons rfl (gf_cons rfl (gf_cons rfl (gf_cons rfl (gf_cons rfl (gf_cons rfl gf_nil)))))) (ih46  sc46 y46_5 z80 hIc46 hFc46 (in_w 0 31 i80 rfl) n46 n46a n46b n46c m46))
            · skip
              have i61 := z_lt (-1) (-1) c61 i60 rfl
              have c61a := lc_lt e60 c61
              have i61a := lr_lt1 (-9223372036854775808) 9223372036854775806 c61a (l_rng z55) (l_rng y46_5) rfl
              have i61b := lr_lt2 (-9223372036854775807) 9223372036854775807 c61a (l_rng z55) (l_rng y46_5) rfl
              refine g_aload_n 65 (gd rfl) rfl rfl ?_
              refine g_iload 67 (gd rfl) rfl rfl ?_
              have p67 : BE sc46 (y46_7).toNatClampNeg := by rw [g46_0]; exact hev.1
              refine g_callv (X := _) (As := [.int y46_7]) (r := []) (b := A 109) (q := 109) 70 (gd rfl) rfl rfl rfl rfl rfl (ww_o rfl) (Nat.le_of_ble_eq_true rfl) (Nat.zero_le _) (Nat.zero_le _) (k_350 (by first | exact dq1 hd rfl | exact dq0 hd rfl | exact dq2 hd rfl | exact dq3 hd rfl | omega) hIc46 (in_w 0 31 j46_7 rfl) p67) (fun e u h => h) (fun v u h => ?_)
              obtain ⟨z67, rfl, rfl, p67a⟩ := h
              show GG _ _ _ _ _ _ _ _ [.long z67] _ _ _
              have hz67 : z67.toInt = rm sc29 y46_7.toNatClampNeg := (by have h := p67a; rw [g46_0] at h; exact h hfo)
              refine g_goto 75 (gd rfl) rfl ?_
              refine g_lstore 77 (gd rfl) rfl (Nat.le_of_ble_eq_true rfl) ?_
              refine g_aload_n 78 (gd rfl) rfl rfl ?_
              refine g_iload 80 (gd rfl) rfl rfl ?_
              have p80 : BE sc46 (y46_7).toNatClampNeg := by rw [g46_0]; exact hev.1
              refine g_callv (X := _) (As := [.int y46_7]) (r := []) (b := A 109) (q := 109) 83 (gd rfl) rfl rfl rfl rfl rfl (ww_o rfl) (Nat.le_of_ble_eq_true rfl) (Nat.zero_le _) (Nat.zero_le _) (k_349 (by first | exact dq1 hd rfl | exact dq0 hd rfl | exact dq2 hd rfl | exact dq3 hd rfl | omega) hIc46 (in_w 0 31 j46_7 rfl) p80) (fun e u h => h) (fun v u h => ?_)
              obtain ⟨z80, rfl, rfl, i80, p80a⟩ := h
              show GG _ _ _ _ _ _ _ _ [.int z80] _ _ _
              refine g_istore 85 (gd rfl) rfl (Nat.le_of_ble_eq_true rfl) ?_
              refine g_goto 46 (gd rfl) rfl ?_
              have n46 : sc46 = sc29 := by first | exact g46_0 | rfl
              have n46a : ∃ k, (z80).toNatClampNeg = it sc29 (x2).toNatClampNeg k ∧ WY sc29 (x1).toInt (z67).toInt (x2).toNatClampNeg k := by first | (obtain ⟨k, hk1, hk2⟩ := g46_1; exact ⟨k + 1, by rw [p80a, g46_0, hk1]; rfl, wy_s hk2 (by rw [← hk1]; exact hx46) (by rw [← hk1]; exact g46_2) (by omega) (by rw [← hk1]; omega)⟩) | exact ⟨0, rfl, fun j hj => absurd hj (Nat.not_lt_zero _)⟩
              have n46b : ND sc29 (z80).toNatClampNeg := by first | (rw [p80a, g46_0]; exact hev.2.1) | exact ⟨by show x2.toInt.toNat < 32; have a0 := oa4 h2 h1 j46_7 i80; (first | exact zt_l (by decide) (by omega) | omega), by show ((x2.toInt.toNat : Nat) : Int) < _; rw [hFc29.2.2.1 109 20 rfl]; have hq := q_0; have a0 := oa4 h2 h1 j46_7 i80; omega, by rw [← e34]; have a0 := oa4 h2 h1 j46_7 i80; omega⟩
              have n46c : 1 ≤ (z67).toInt ∧ (z67).toInt ≤ 1000000000 := by first | exact ⟨by decide, by decide⟩ | (have hr1 := hev.2.2.2.1; have hq := g46_3; exact ⟨by omega, by omega⟩)
              have m46 : rkf sc29 (x1).toInt (z80).toNatClampNeg < k46 := by rw [p80a, g46_0]; have hl := hev.2.2.1; have hm := mm46; omega
              exact gg_w (by first | exact Nat.le_add_right _ _ | exact gw2 | exact gw3 | exact gwe rfl | exact gwf rfl | exact gwg rfl | exact gwh rfl | omega) (gg_f (gf_cons rfl (gf_cons rfl (gf_cons rfl (gf_cons rfl (gf_cons rfl (gf_cons rfl gf_nil)))))) (ih46  sc46 z67 z80 hIc46 hFc46 (in_w 0 31 i80 rfl) n46 n46a n46b n46c m46))
      refine g_aload_n 30 (gd rfl) rfl rfl ?_
      refine g_getA (q2 := 148) 33 (gd rfl) rfl rfl rfl rfl ?_
      refine g_iload_n 34 (gd rfl) rfl rfl ?_
      refine g_iaload 35 (gd rfl) rfl (n := 34) rfl (in_ix h2 rfl) (fun z34 e34 => ?_)
      have i34 := inv_I hIc29 (n := 34) (t := 0) (-1) 1000 rfl (in_ix h2 rfl) rfl e34
      refine g_if_lt 38 133 (gd rfl) rfl rfl (fun c35 => ?_) (fun c35 => ?_)
      · skip
        have i35 := z_lt (-1) (-1) c35 i34 rfl
        refine g_lload_n 134 (gd rfl) rfl rfl ?_
        exact g_lreturn (gd rfl) rfl (hP _ _ ⟨sc29, hIc29, hFc29, y29_3, rfl, rfl⟩)
      · skip
        have i35 := z_ge 0 1000 c35 i34 rfl
        refine g_ldc2_w 1000000000 41 (gd rfl) rfl rfl ?_
        refine g_lstore 43 (gd rfl) rfl (Nat.le_of_ble_eq_true rfl) ?_
        refine g_iload_n 44 (gd rfl) rfl rfl ?_
        refine g_istore 46 (gd rfl) rfl (Nat.le_of_ble_eq_true rfl) ?_
        have n46 : sc29 = sc29 := by first | exact g46_0 | rfl
        have n46a : ∃ k, (x2).toNatClampNeg = it sc29 (x2).toNatClampNeg k ∧ WY sc29 (x1).toInt ((Int64.ofInt 1000000000)).toInt (x2).toNatClampNeg k := by first | (obtain ⟨k, hk1, hk2⟩ := g46_1; exact ⟨k + 1, by rw [p80a, g46_0, hk1]; rfl, wy_s hk2 (by rw [← hk1]; exact hx46) (by rw [← hk1]; exact g46_2) (by omega) (by rw [← hk1]; omega)⟩) | exact ⟨0, rfl, fun j hj => absurd hj (Nat.not_lt_zero _)⟩
        have n46b : ND sc29 (x2).toNatClampNeg := by first | (rw [p80a, g46_0]; exact hev.2.1) | exact ⟨by show x2.toInt.toNat < 32; have a0 := oa2 h2 h1; (first | exact zt_l (by decide) (by omega) | omega), by show ((x2.toInt.toNat : Nat) : Int) < _; rw [hFc29.2.2.1 109 20 rfl]; have hq := q_0; have a0 := oa2 h2 h1; omega, by rw [← e34]; have a0 := oa2 h2 h1; omega⟩
        have n46c : 1 ≤ ((Int64.ofInt 1000000000)).toInt ∧ ((Int64.ofInt 1000000000)).toInt ≤ 1000000000 := by first | exact ⟨by decide, by decide⟩ | (have hr1 := hev.2.2.2.1; have hq := g46_3; exact ⟨by omega, by omega⟩)
        have m46 : rkf sc29 (x1).toInt (x2).toNatClampNeg < 32 := by exact (rkf_ok g29_0).1 _ n46b.1 n46b.2.2
        exact gg_w (by first | exact Nat.le_add_right _ _ | exact gw2 | exact gw3 | exact gwe rfl | exact gwf rfl | exact gwg rfl | exact gwh rfl | omega) (gg_f (gf_cons rfl (gf_cons rfl (gf_cons rfl (gf_cons rfl (gf_cons rfl (gf_cons rfl gf_nil)))))) (ct46 (32) sc29 (Int64.ofInt 1000000000) x2 hIc29 hFc29 (in_w 0 31 h2 rfl) n46 n46a n46b n46c m46))
  have ct2 : ∀ (k2 : Nat) (sc2 : GS) (y2_3 : Int32), Inv sc2 → Fr fm_352 s sc2 → (In y2_3 0 160) → (∀ k : Nat, (k : Int) < (y2_3).toInt → (sc2.2.1 147 k).toInt = 0) → 160 - (y2_3).toInt < (k2 : Int) → GG Z (d - 1) 352 post (gx xp) (19872640062104 + k2 * 900) 2 (fun j => xlook j [(0, .ref (A 109)), (1, .int x1), (2, .int x2), (3, .int y2_3)]) [] (WW Z A sc2 ++ ex) 0 0 := by
    intro k2
    induction k2 with
    | zero => intro sc2 y2_3 hIc2 hFc2 j2_3 g2_0 mm2; exact m_no mm2 j2_3 rfl
    | succ k2 ih2 =>
      intro sc2 y2_3 hIc2 hFc2 j2_3 g2_0 mm2
      refine gg_w (M := 19872640062104 + k2 * 900 + 900) gws ?_
      refine g_iload_n 3 (gd rfl) rfl rfl ?_
      refine g_sipush 160 6 (gd rfl) rfl rfl ?_
      refine g_cmp_ge 9 22 (gd rfl) rfl rfl (fun c6 => ?_) (fun c6 => ?_)
      · skip
        have i6 := r_le2 160 160 c6 (in_c 160 rfl) j2_3 rfl
        refine g_lconst 0 23 (gd rfl) rfl rfl ?_
        refine g_lstore_n 24 (gd rfl) rfl (Nat.le_of_ble_eq_true rfl) ?_
        refine g_aload_n 25 (gd rfl) rfl rfl ?_
        refine g_iload_n 26 (gd rfl) rfl rfl ?_
        refine g_callv (X := _) (As := [.int x1]) (r := []) (b := A 109) (q := 109) 29 (gd rfl) rfl rfl rfl rfl rfl (ww_o rfl) (Nat.le_of_ble_eq_true rfl) (Nat.zero_le _) (Nat.zero_le _) (k_348 (by first | exact dq1 hd rfl | exact dq0 hd rfl | exact dq2 hd rfl | exact dq3 hd rfl | omega) hIc2 (in_w 0 31 h1 rfl)) (fun e u h => h) (fun v u h => ?_)
        obtain ⟨s26, hI26, hF26, rfl, rfl, p26⟩ := h
        show GG _ _ _ _ _ _ _ _ [] _ _ _
        have n29 : SR s26 (x1).toInt := by first | exact p26 | exact p127
        have n29a : FB s26 (s26.2.1 147) := by first | exact (ms_e hIc29 g91_0.1 g91_0.2 g91_1 (by show ((y91_7.toInt.toNat : Nat) : Int) = _; have a0 := oa3 h2 h1 i6; omega) g91_2.1 (hF127.2.1 147 rfl) (hF127.1 112 rfl) (hF127.1 113 rfl) (hF127.1 114 rfl) (hF127.1 116 rfl) (hF127.2.2.1 109 19 rfl) mm29).1 | (intro a ha ht; rw [hF26.2.1 147 rfl]; have h0 := g2_0 a (by have a0 := oa3 h2 h1 i6; omega); have hr := (arc_n hI26 ha ht).2.2.1; omega)
        have m29 : (RS s26 (x1).toInt (s26.2.1 147) 160).toNat < 320000001 := by have h := (RS_b (x := x1.toInt) hI26 n29a 160 (Nat.le_refl _)).2; omega
        exact gg_w (by first | exact Nat.le_add_right _ _ | exact gw2 | exact gw3 | exact gwe rfl | exact gwf rfl | exact gwg rfl | exact gwh rfl | omega) (gg_f (gf_cons rfl (gf_cons rfl (gf_cons rfl (gf_cons rfl gf_nil)))) (ct29 (320000001) s26 (Int64.ofInt 0) hI26 (fr_tr rfl hFc2 hF26) n29 n29a m29))
      · skip
        have i6 := r_lt1 0 159 c6 j2_3 (in_c 160 rfl) rfl
        refine g_aload_n 10 (gd rfl) rfl rfl ?_
        refine g_getA (q2 := 147) 13 (gd rfl) rfl rfl rfl rfl ?_
        refine g_iload_n 14 (gd rfl) rfl rfl ?_
        refine g_lconst 0 15 (gd rfl) rfl rfl ?_
        refine g_lastore 16 (gd rfl) rfl (n := 160) rfl (in_ix i6 rfl) ?_
        have hI15 := inv_sL (q := 147) (j := y2_3.toNatClampNeg) (x := (Int64.ofInt 0)) hIc2 rfl (l_rng (Int64.ofInt 0))
        refine g_iinc 19 (gd rfl) rfl rfl (Nat.le_of_ble_eq_true rfl) (fun z16 e16 => ?_)
        have i16 := in_add 1 160 e16 i6 (in_c 1 rfl) rfl rfl
        refine g_goto 2 (gd rfl) rfl ?_
        have n2 : ∀ k : Nat, (k : Int) < (z16).toInt → ((sL sc2 147 y2_3.toNatClampNeg (Int64.ofInt 0)).2.1 147 k).toInt = 0 := by first | (intro k hk; exfalso; have h0 : (Int32.ofInt 0).toInt = 0 := rfl; omega) | (intro k hk; rw [show ((sL sc2 147 y2_3.toNatClampNeg (Int64.ofInt 0))).2.1 147 = vp_updL (sc2.2.1 147) y2_3.toNatClampNeg (Int64.ofInt 0) from (by simp [sL])]; have e3 : y2_3.toNatClampNeg = y2_3.toInt.toNat := rfl; by_cases c : k = y2_3.toNatClampNeg; (rw [c, ul_eq]; decide); (rw [ul_ne c]; exact g2_0 k (by have a0 := oa4 h2 h1 i6 i16; have a4 := t_add e16 i6 (in_c 1 rfl) rfl; have a5 := in_u ((in_c 1 rfl)); omega)))
        exact gg_w (by first | exact Nat.le_add_right _ _ | exact gw2 | exact gw3 | exact gwe rfl | exact gwf rfl | exact gwg rfl | exact gwh rfl | omega) (gg_f (gf_cons rfl (gf_cons rfl (gf_cons rfl (gf_cons rfl gf_nil)))) (ih2 (sL sc2 147 y2_3.toNatClampNeg (Int64.ofInt 0)) z16 hI15 (fr_sL rfl hFc2) (in_w 0 160 i16 rfl) n2 (m_up mm2 (t_add e16 i6 (in_c 1 rfl) rfl) (in_w 1 1 (in_c 1 rfl) rfl))))
  refine g_enter2 (k := 352) (N := 19872640207904) (by first | exact dq1 hd rfl | exact dq0 hd rfl | exact dq2 hd rfl | exact dq3 hd rfl | omega) rfl (Nat.le_of_ble_eq_true rfl) ?_
  refine g_iconst 0 1 (gd rfl) rfl rfl ?_
  refine g_istore_n 2 (gd rfl) rfl (Nat.le_of_ble_eq_true rfl) ?_
  have n2 : ∀ k : Nat, (k : Int) < ((Int32.ofInt 0)).toInt → (s.2.1 147 k).toInt = 0 := by first | (intro k hk; exfalso; have h0 : (Int32.ofInt 0).toInt = 0 := rfl; omega) | (intro k hk; rw [show (s).2.1 147 = vp_updL (sc2.2.1 147) y2_3.toNatClampNeg (Int64.ofInt 0) from (by simp [sL])]; have e3 : y2_3.toNatClampNeg = y2_3.toInt.toNat := rfl; by_cases c : k = y2_3.toNatClampNeg; (rw [c, ul_eq]; decide); (rw [ul_ne c]; exact g2_0 k (by have a0 := oa3 h2 h1 ((in_c 0 rfl)); omega)))
  exact gg_w (by first | exact Nat.le_of_ble_eq_true rfl | omega) (gg_f (gf_cons rfl (gf_cons rfl (gf_cons rfl (gf_cons rfl gf_nil)))) (ct2 161 s (Int32.ofInt 0) hI fr_rf (in_w 0 160 (in_c 0 rfl) rfl) n2 (m_in 161 (in_w 0 160 (in_c 0 rfl) rfl) rfl)))

def fm_354 : FM := ([132, 148], [147], [(109, 0)], [])
/-- GraphHouseModel.flow -/
theorem k_354 {Z : AmZ} {A : Nat → Nat} {s : GS} {ex : va_W} {d : Nat} {X : AmX} {x1 : Int32} {x2 : Int32} (hd : 4 ≤ d) (hI : Inv s)  : GC Z d 354 [.ref (A 109), .int x1, .int x2] (WW Z A s ++ ex) 0 0 (fun v u => ∃ t : GS, Inv t ∧ Fr fm_354 s t ∧ ∃ z : Int64, v = some (.long z) ∧ u = WW Z A t ++ ex) X := by
  intro post xp hP hX
  obtain ⟨u_109_20, e_109_20⟩ : ∃ w, w = s.2.2.1 109 20 := ⟨_, rfl⟩
  have ro_109_20 := inv_F hI 0 32 rfl e_109_20
  refine g_enter2 (k := 354) (N := 900) (by first | exact dq1 hd rfl | exact dq0 hd rfl | exact dq2 hd rfl | exact dq3 hd rfl | omega) rfl (Nat.le_of_ble_eq_true rfl) ?_
  refine g_aload_n 1 (gd rfl) rfl rfl ?_
  refine g_aload_n 2 (gd rfl) rfl rfl ?_
  refine g_iload_n 3 (gd rfl) rfl rfl ?_
  refine g_iload_n 4 (gd rfl) rfl rfl ?_
  refine g_callv (X := _) (As := [.int x1, .int x2]) (r := [.ref (A 109)]) (b := A 109) (q := 109) 7 (gd rfl) rfl rfl rfl rfl rfl (ww_o rfl) (Nat.le_of_ble_eq_true rfl) (mc := 0) (ms := 0) (Nat.zero_le _) (Nat.zero_le _) (P := fun v u => _) ?_ (fun e u h => h) (fun v u h => h)
  intro po4 xx4 hp4 hx4
  refine g_enter2 (k := 353) (N := 300) (by first | exact dq1 hd rfl | exact dq0 hd rfl | exact dq2 hd rfl | exact dq3 hd rfl | omega) rfl (Nat.le_of_ble_eq_true rfl) ?_
  refine g_aload_n 1 (gd rfl) rfl rfl ?_
  refine g_iload_n 2 (gd rfl) rfl rfl ?_
  refine g_callv (X := _) (As := [.int x1]) (r := []) (b := A 109) (q := 109) 5 (gd rfl) rfl rfl rfl rfl rfl (ww_o rfl) (Nat.le_of_ble_eq_true rfl) (mc := 0) (ms := 0) (Nat.zero_le _) (Nat.zero_le _) (P := fun v u => _) ?_ (fun e u h => h) (fun v u h => h)
  intro po4x2 xx4x2 hp4x2 hx4x2
  refine g_enter2 (k := 272) (N := 300) (by first | exact dq1 hd rfl | exact dq0 hd rfl | exact dq2 hd rfl | exact dq3 hd rfl | omega) rfl (Nat.le_of_ble_eq_true rfl) ?_
  refine g_iload_n 1 (gd rfl) rfl rfl ?_
  refine g_if_lt 4 16 (gd rfl) rfl rfl (fun c4x2x1 => ?_) (fun c4x2x1 => ?_)
  · skip
    have i4x2x1 := z_lt (-2147483648) (-1) c4x2x1 (i_rng x1) rfl
    refine g_iconst 0 17 (gd rfl) rfl rfl ?_
    refine g_ireturn (gd rfl) rfl (nb01 (in_w 0 1 (in_c 0 rfl) rfl)) (hp4x2 _ _ ?_)
    show GG _ _ _ _ _ _ _ _ [.int (Int32.ofInt 0)] _ _ _
    refine g_if_eq 8 25 (gd rfl) rfl rfl (fun c4x5 => ?_) (fun c4x5 => ?_)
    · skip
      refine g_iconst 0 26 (gd rfl) rfl rfl ?_
      refine g_ireturn (gd rfl) rfl (nb01 (in_w 0 1 (in_c 0 rfl) rfl)) (hp4 _ _ ?_)
      show GG _ _ _ _ _ _ _ _ [.int (Int32.ofInt 0), .ref (A 109)] _ _ _
      refine g_callv (X := _) (As := [.int (Int32.ofInt 0)]) (r := []) (b := A 109) (q := 109) 10 (gd rfl) rfl rfl rfl rfl rfl (ww_o rfl) (Nat.le_of_ble_eq_true rfl) (mc := 0) (ms := 0) (Nat.zero_le _) (Nat.zero_le _) (P := fun v u => _) ?_ (fun e u h => h) (fun v u h => h)
      intro po7 xx7 hp7 hx7
      refine g_enter2 (k := 271) (N := 300) (by first | exact dq1 hd rfl | exact dq0 hd rfl | exact dq2 hd rfl | exact dq3 hd rfl | omega) rfl (Nat.le_of_ble_eq_true rfl) ?_
      refine g_aload_n 1 (gd rfl) rfl rfl ?_
      refine g_iload_n 2 (gd rfl) rfl rfl ?_
      refine g_iconst 1 3 (gd rfl) rfl rfl ?_
      refine g_callv (X := _) (As := [.int (Int32.ofInt 0), .int (Int32.ofInt 1)]) (r := []) (b := A 109) (q := 109) 6 (gd rfl) rfl rfl rfl rfl rfl (ww_o rfl) (Nat.le_of_ble_eq_true rfl) (mc := 0) (ms := 0) (Nat.zero_le _) (Nat.zero_le _) (P := fun v u => _) ?_ (fun e u h => h) (fun v u h => h)
      intro po7x3 xx7x3 hp7x3 hx7x3
      refine g_enter2 (k := 270) (N := 300) (by first | exact dq1 hd rfl | exact dq0 hd rfl | exact dq2 hd rfl | exact dq3 hd rfl | omega) rfl (Nat.le_of_ble_eq_true rfl) ?_
      refine g_aload_n 1 (gd rfl) rfl rfl ?_
      refine g_iload_n 2 (gd rfl) rfl rfl ?_
      refine g_if_ne 5 9 (gd rfl) rfl rfl (fun c7x3x2 => ?_) (fun c7x3x2 => ?_)
      · skip
        exact zn_ne c7x3x2 (in_c 0 rfl) rfl
      · skip
        refine g_iconst 1 6 (gd rfl) rfl rfl ?_
        refine g_goto 18 (gd rfl) rfl ?_
        refine g_putI 21 (gd rfl) rfl rfl rfl rfl ?_
        have hI7x3x18 := inv_sF (q := 109) (j := 0) hI rfl (in_w 0 2 (in_c 1 rfl) rfl)
        refine g_aload_n 22 (gd rfl) rfl rfl ?_
        refine g_getI 25 (gd rfl) rfl rfl rfl (fun z7x3x22 e7x3x22 => ?_)
        have q7x3x22 : (Int32.ofInt 1) = z7x3x22 := (sF_get).trans e7x3x22.symm
        subst q7x3x22
        refine g_if_le 28 32 (gd rfl) rfl rfl (fun c7x3x25 => ?_) (fun c7x3x25 => ?_)
        · skip
          exact zn_le c7x3x25 (in_c 1 rfl) rfl
        · skip
          refine g_iconst 1 29 (gd rfl) rfl rfl ?_
          refine g_goto 33 (gd rfl) rfl ?_
          refine g_ireturn (gd rfl) rfl (nb01 (in_w 0 1 (in_c 1 rfl) rfl)) (hp7x3 _ _ ?_)
          show GG _ _ _ _ _ _ _ _ [.int (Int32.ofInt 1)] _ _ _
          refine g_ireturn (gd rfl) rfl (nb01 (in_w 0 1 (in_c 1 rfl) rfl)) (hp7 _ _ ?_)
          show GG _ _ _ _ _ _ _ _ [.int (Int32.ofInt 1)] _ _ _
          refine g_if_eq 13 17 (gd rfl) rfl rfl (fun c10 => ?_) (fun c10 => ?_)
          · skip
            exact zn_eq c10 (in_c 1 rfl) rfl
          · skip
            refine g_lconst 0 14 (gd rfl) rfl rfl ?_
            refine g_goto 23 (gd rfl) rfl ?_
            exact g_lreturn (gd rfl) rfl (hP _ _ ⟨(sF s 109 0 (Int32.ofInt 1)), hI7x3x18, (fr_sF rfl fr_rf), (Int64.ofInt 0), rfl, rfl⟩)
    · skip
      exact zn_ne c4x5 (in_c 0 rfl) rfl
  · skip
    have i4x2x1 := z_ge 0 2147483647 c4x2x1 (i_rng x1) rfl
    refine g_iload_n 5 (gd rfl) rfl rfl ?_
    refine g_aload_n 6 (gd rfl) rfl rfl ?_
    refine g_getI 9 (gd rfl) rfl rfl rfl (fun z4x2x6 e4x2x6 => ?_)
    have q4x2x6 : u_109_20 = z4x2x6 := (e_109_20).trans e4x2x6.symm
    subst q4x2x6
    refine g_cmp_ge 12 16 (gd rfl) rfl rfl (fun c4x2x9 => ?_) (fun c4x2x9 => ?_)
    · skip
      refine g_iconst 0 17 (gd rfl) rfl rfl ?_
      refine g_ireturn (gd rfl) rfl (nb01 (in_w 0 1 (in_c 0 rfl) rfl)) (hp4x2 _ _ ?_)
      show GG _ _ _ _ _ _ _ _ [.int (Int32.ofInt 0)] _ _ _
      refine g_if_eq 8 25 (gd rfl) rfl rfl (fun c4x5 => ?_) (fun c4x5 => ?_)
      · skip
        refine g_iconst 0 26 (gd rfl) rfl rfl ?_
        refine g_ireturn (gd rfl) rfl (nb01 (in_w 0 1 (in_c 0 rfl) rfl)) (hp4 _ _ ?_)
        show GG _ _ _ _ _ _ _ _ [.int (Int32.ofInt 0), .ref (A 109)] _ _ _
        refine g_callv (X := _) (As := [.int (Int32.ofInt 0)]) (r := []) (b := A 109) (q := 109) 10 (gd rfl) rfl rfl rfl rfl rfl (ww_o rfl) (Nat.le_of_ble_eq_true rfl) (mc := 0) (ms := 0) (Nat.zero_le _) (Nat.zero_le _) (P := fun v u => _) ?_ (fun e u h => h) (fun v u h => h)
        intro po7 xx7 hp7 hx7
        refine g_enter2 (k := 271) (N := 300) (by first | exact dq1 hd rfl | exact dq0 hd rfl | exact dq2 hd rfl | exact dq3 hd rfl | omega) rfl (Nat.le_of_ble_eq_true rfl) ?_
        refine g_aload_n 1 (gd rfl) rfl rfl ?_
        refine g_iload_n 2 (gd rfl) rfl rfl ?_
        refine g_iconst 1 3 (gd rfl) rfl rfl ?_
        refine g_callv (X := _) (As := [.int (Int32.ofInt 0), .int (Int32.ofInt 1)]) (r := []) (b := A 109) (q := 109) 6 (gd rfl) rfl rfl rfl rfl rfl (ww_o rfl) (Nat.le_of_ble_eq_true rfl) (mc := 0) (ms := 0) (Nat.zero_le _) (Nat.zero_le _) (P := fun v u => _) ?_ (fun e u h => h) (fun v u h => h)
        intro po7x3 xx7x3 hp7x3 hx7x3
        refine g_enter2 (k := 270) (N := 300) (by first | exact dq1 hd rfl | exact dq0 hd rfl | exact dq2 hd rfl | exact dq3 hd rfl | omega) rfl (Nat.le_of_ble_eq_true rfl) ?_
        refine g_aload_n 1 (gd rfl) rfl rfl ?_
        refine g_iload_n 2 (gd rfl) rfl rfl ?_
        refine g_if_ne 5 9 (gd rfl) rfl rfl (fun c7x3x2 => ?_) (fun c7x3x2 => ?_)
        · skip
          exact zn_ne c7x3x2 (in_c 0 rfl) rfl
        · skip
          refine g_iconst 1 6 (gd rfl) rfl rfl ?_
          refine g_goto 18 (gd rfl) rfl ?_
          refine g_putI 21 (gd rfl) rfl rfl rfl rfl ?_
          have hI7x3x18 := inv_sF (q := 109) (j := 0) hI rfl (in_w 0 2 (in_c 1 rfl) rfl)
          refine g_aload_n 22 (gd rfl) rfl rfl ?_
          refine g_getI 25 (gd rfl) rfl rfl rfl (fun z7x3x22 e7x3x22 => ?_)
          have q7x3x22 : (Int32.ofInt 1) = z7x3x22 := (sF_get).trans e7x3x22.symm
          subst q7x3x22
          refine g_if_le 28 32 (gd rfl) rfl rfl (fun c7x3x25 => ?_) (fun c7x3x25 => ?_)
          · skip
            exact zn_le c7x3x25 (in_c 1 rfl) rfl
          · skip
            refine g_iconst 1 29 (gd rfl) rfl rfl ?_
            refine g_goto 33 (gd rfl) rfl ?_
            refine g_ireturn (gd rfl) rfl (nb01 (in_w 0 1 (in_c 1 rfl) rfl)) (hp7x3 _ _ ?_)
            show GG _ _ _ _ _ _ _ _ [.int (Int32.ofInt 1)] _ _ _
            refine g_ireturn (gd rfl) rfl (nb01 (in_w 0 1 (in_c 1 rfl) rfl)) (hp7 _ _ ?_)
            show GG _ _ _ _ _ _ _ _ [.int (Int32.ofInt 1)] _ _ _
            refine g_if_eq 13 17 (gd rfl) rfl rfl (fun c10 => ?_) (fun c10 => ?_)
            · skip
              exact zn_eq c10 (in_c 1 rfl) rfl
            · skip
              refine g_lconst 0 14 (gd rfl) rfl rfl ?_
              refine g_goto 23 (gd rfl) rfl ?_
              exact g_lreturn (gd rfl) rfl (hP _ _ ⟨(sF s 109 0 (Int32.ofInt 1)), hI7x3x18, (fr_sF rfl fr_rf), (Int64.ofInt 0), rfl, rfl⟩)
      · skip
        exact zn_ne c4x5 (in_c 0 rfl) rfl
    · skip
      have i4x2x9 := r_lt1 0 31 c4x2x9 i4x2x1 ro_109_20 rfl
      have i4x2x9a := r_lt2 1 32 c4x2x9 i4x2x1 ro_109_20 rfl
      refine g_iconst 1 13 (gd rfl) rfl rfl ?_
      refine g_goto 17 (gd rfl) rfl ?_
      refine g_ireturn (gd rfl) rfl (nb01 (in_w 0 1 (in_c 1 rfl) rfl)) (hp4x2 _ _ ?_)
      show GG _ _ _ _ _ _ _ _ [.int (Int32.ofInt 1)] _ _ _
      refine g_if_eq 8 25 (gd rfl) rfl rfl (fun c4x5 => ?_) (fun c4x5 => ?_)
      · skip
        exact zn_eq c4x5 (in_c 1 rfl) rfl
      · skip
        refine g_aload_n 9 (gd rfl) rfl rfl ?_
        refine g_iload_n 10 (gd rfl) rfl rfl ?_
        refine g_callv (X := _) (As := [.int x2]) (r := []) (b := A 109) (q := 109) 13 (gd rfl) rfl rfl rfl rfl rfl (ww_o rfl) (Nat.le_of_ble_eq_true rfl) (mc := 0) (ms := 0) (Nat.zero_le _) (Nat.zero_le _) (P := fun v u => _) ?_ (fun e u h => h) (fun v u h => h)
        intro po4x10 xx4x10 hp4x10 hx4x10
        refine g_enter2 (k := 272) (N := 300) (by first | exact dq1 hd rfl | exact dq0 hd rfl | exact dq2 hd rfl | exact dq3 hd rfl | omega) rfl (Nat.le_of_ble_eq_true rfl) ?_
        refine g_iload_n 1 (gd rfl) rfl rfl ?_
        refine g_if_lt 4 16 (gd rfl) rfl rfl (fun c4x10x1 => ?_) (fun c4x10x1 => ?_)
        · skip
          have i4x10x1 := z_lt (-2147483648) (-1) c4x10x1 (i_rng x2) rfl
          refine g_iconst 0 17 (gd rfl) rfl rfl ?_
          refine g_ireturn (gd rfl) rfl (nb01 (in_w 0 1 (in_c 0 rfl) rfl)) (hp4x10 _ _ ?_)
          show GG _ _ _ _ _ _ _ _ [.int (Int32.ofInt 0)] _ _ _
          refine g_if_eq 16 25 (gd rfl) rfl rfl (fun c4x13 => ?_) (fun c4x13 => ?_)
          · skip
            refine g_iconst 0 26 (gd rfl) rfl rfl ?_
            refine g_ireturn (gd rfl) rfl (nb01 (in_w 0 1 (in_c 0 rfl) rfl)) (hp4 _ _ ?_)
            show GG _ _ _ _ _ _ _ _ [.int (Int32.ofInt 0), .ref (A 109)] _ _ _
            refine g_callv (X := _) (As := [.int (Int32.ofInt 0)]) (r := []) (b := A 109) (q := 109) 10 (gd rfl) rfl rfl rfl rfl rfl (ww_o rfl) (Nat.le_of_ble_eq_true rfl) (mc := 0) (ms := 0) (Nat.zero_le _) (Nat.zero_le _) (P := fun v u => _) ?_ (fun e u h => h) (fun v u h => h)
            intro po7 xx7 hp7 hx7
            refine g_enter2 (k := 271) (N := 300) (by first | exact dq1 hd rfl | exact dq0 hd rfl | exact dq2 hd rfl | exact dq3 hd rfl | omega) rfl (Nat.le_of_ble_eq_true rfl) ?_
            refine g_aload_n 1 (gd rfl) rfl rfl ?_
            refine g_iload_n 2 (gd rfl) rfl rfl ?_
            refine g_iconst 1 3 (gd rfl) rfl rfl ?_
            refine g_callv (X := _) (As := [.int (Int32.ofInt 0), .int (Int32.ofInt 1)]) (r := []) (b := A 109) (q := 109) 6 (gd rfl) rfl rfl rfl rfl rfl (ww_o rfl) (Nat.le_of_ble_eq_true rfl) (mc := 0) (ms := 0) (Nat.zero_le _) (Nat.zero_le _) (P := fun v u => _) ?_ (fun e u h => h) (fun v u h => h)
            intro po7x3 xx7x3 hp7x3 hx7x3
            refine g_enter2 (k := 270) (N := 300) (by first | exact dq1 hd rfl | exact dq0 hd rfl | exact dq2 hd rfl | exact dq3 hd rfl | omega) rfl (Nat.le_of_ble_eq_true rfl) ?_
            refine g_aload_n 1 (gd rfl) rfl rfl ?_
            refine g_iload_n 2 (gd rfl) rfl rfl ?_
            refine g_if_ne 5 9 (gd rfl) rfl rfl (fun c7x3x2 => ?_) (fun c7x3x2 => ?_)
            · skip
              exact zn_ne c7x3x2 (in_c 0 rfl) rfl
            · skip
              refine g_iconst 1 6 (gd rfl) rfl rfl ?_
              refine g_goto 18 (gd rfl) rfl ?_
              refine g_putI 21 (gd rfl) rfl rfl rfl rfl ?_
              have hI7x3x18 := inv_sF (q := 109) (j := 0) hI rfl (in_w 0 2 (in_c 1 rfl) rfl)
              refine g_aload_n 22 (gd rfl) rfl rfl ?_
              refine g_getI 25 (gd rfl) rfl rfl rfl (fun z7x3x22 e7x3x22 => ?_)
              have q7x3x22 : (Int32.ofInt 1) = z7x3x22 := (sF_get).trans e7x3x22.symm
              subst q7x3x22
              refine g_if_le 28 32 (gd rfl) rfl rfl (fun c7x3x25 => ?_) (fun c7x3x25 => ?_)
              · skip
                exact zn_le c7x3x25 (in_c 1 rfl) rfl
              · skip
                refine g_iconst 1 29 (gd rfl) rfl rfl ?_
                refine g_goto 33 (gd rfl) rfl ?_
                refine g_ireturn (gd rfl) rfl (nb01 (in_w 0 1 (in_c 1 rfl) rfl)) (hp7x3 _ _ ?_)
                show GG _ _ _ _ _ _ _ _ [.int (Int32.ofInt 1)] _ _ _
                refine g_ireturn (gd rfl) rfl (nb01 (in_w 0 1 (in_c 1 rfl) rfl)) (hp7 _ _ ?_)
                show GG _ _ _ _ _ _ _ _ [.int (Int32.ofInt 1)] _ _ _
                refine g_if_eq 13 17 (gd rfl) rfl rfl (fun c10 => ?_) (fun c10 => ?_)
                · skip
                  exact zn_eq c10 (in_c 1 rfl) rfl
                · skip
                  refine g_lconst 0 14 (gd rfl) rfl rfl ?_
                  refine g_goto 23 (gd rfl) rfl ?_
                  exact g_lreturn (gd rfl) rfl (hP _ _ ⟨(sF s 109 0 (Int32.ofInt 1)), hI7x3x18, (fr_sF rfl fr_rf), (Int64.ofInt 0), rfl, rfl⟩)
          · skip
            exact zn_ne c4x13 (in_c 0 rfl) rfl
        · skip
          have i4x10x1 := z_ge 0 2147483647 c4x10x1 (i_rng x2) rfl
          refine g_iload_n 5 (gd rfl) rfl rfl ?_
          refine g_aload_n 6 (gd rfl) rfl rfl ?_
          refine g_getI 9 (gd rfl) rfl rfl rfl (fun z4x10x6 e4x10x6 => ?_)
          have q4x10x6 : u_109_20 = z4x10x6 := (e_109_20).trans e4x10x6.symm
          subst q4x10x6
          refine g_cmp_ge 12 16 (gd rfl) rfl rfl (fun c4x10x9 => ?_) (fun c4x10x9 => ?_)
          · skip
            have i4x10x9 := r_le2 1 2147483647 c4x10x9 i4x2x9a i4x10x1 rfl
            refine g_iconst 0 17 (gd rfl) rfl rfl ?_
            refine g_ireturn (gd rfl) rfl (nb01 (in_w 0 1 (in_c 0 rfl) rfl)) (hp4x10 _ _ ?_)
            show GG _ _ _ _ _ _ _ _ [.int (Int32.ofInt 0)] _ _ _
            refine g_if_eq 16 25 (gd rfl) rfl rfl (fun c4x13 => ?_) (fun c4x13 => ?_)
            · skip
              refine g_iconst 0 26 (gd rfl) rfl rfl ?_
              refine g_ireturn (gd rfl) rfl (nb01 (in_w 0 1 (in_c 0 rfl) rfl)) (hp4 _ _ ?_)
              show GG _ _ _ _ _ _ _ _ [.int (Int32.ofInt 0), .ref (A 109)] _ _ _
              refine g_callv (X := _) (As := [.int (Int32.ofInt 0)]) (r := []) (b := A 109) (q := 109) 10 (gd rfl) rfl rfl rfl rfl rfl (ww_o rfl) (Nat.le_of_ble_eq_true rfl) (mc := 0) (ms := 0) (Nat.zero_le _) (Nat.zero_le _) (P := fun v u => _) ?_ (fun e u h => h) (fun v u h => h)
              intro po7 xx7 hp7 hx7
              refine g_enter2 (k := 271) (N := 300) (by first | exact dq1 hd rfl | exact dq0 hd rfl | exact dq2 hd rfl | exact dq3 hd rfl | omega) rfl (Nat.le_of_ble_eq_true rfl) ?_
              refine g_aload_n 1 (gd rfl) rfl rfl ?_
              refine g_iload_n 2 (gd rfl) rfl rfl ?_
              refine g_iconst 1 3 (gd rfl) rfl rfl ?_
              refine g_callv (X := _) (As := [.int (Int32.ofInt 0), .int (Int32.ofInt 1)]) (r := []) (b := A 109) (q := 109) 6 (gd rfl) rfl rfl rfl rfl rfl (ww_o rfl) (Nat.le_of_ble_eq_true rfl) (mc := 0) (ms := 0) (Nat.zero_le _) (Nat.zero_le _) (P := fun v u => _) ?_ (fun e u h => h) (fun v u h => h)
              intro po7x3 xx7x3 hp7x3 hx7x3
              refine g_enter2 (k := 270) (N := 300) (by first | exact dq1 hd rfl | exact dq0 hd rfl | exact dq2 hd rfl | exact dq3 hd rfl | omega) rfl (Nat.le_of_ble_eq_true rfl) ?_
              refine g_aload_n 1 (gd rfl) rfl rfl ?_
              refine g_iload_n 2 (gd rfl) rfl rfl ?_
              refine g_if_ne 5 9 (gd rfl) rfl rfl (fun c7x3x2 => ?_) (fun c7x3x2 => ?_)
              · skip
                exact zn_ne c7x3x2 (in_c 0 rfl) rfl
              · skip
                refine g_iconst 1 6 (gd rfl) rfl rfl ?_
                refine g_goto 18 (gd rfl) rfl ?_
                refine g_putI 21 (gd rfl) rfl rfl rfl rfl ?_
                have hI7x3x18 := inv_sF (q := 109) (j := 0) hI rfl (in_w 0 2 (in_c 1 rfl) rfl)
                refine g_aload_n 22 (gd rfl) rfl rfl ?_
                refine g_getI 25 (gd rfl) rfl rfl rfl (fun z7x3x22 e7x3x22 => ?_)
                have q7x3x22 : (Int32.ofInt 1) = z7x3x22 := (sF_get).trans e7x3x22.symm
                subst q7x3x22
                refine g_if_le 28 32 (gd rfl) rfl rfl (fun c7x3x25 => ?_) (fun c7x3x25 => ?_)
                · skip
                  exact zn_le c7x3x25 (in_c 1 rfl) rfl
                · skip
                  refine g_iconst 1 29 (gd rfl) rfl rfl ?_
                  refine g_goto 33 (gd rfl) rfl ?_
                  refine g_ireturn (gd rfl) rfl (nb01 (in_w 0 1 (in_c 1 rfl) rfl)) (hp7x3 _ _ ?_)
                  show GG _ _ _ _ _ _ _ _ [.int (Int32.ofInt 1)] _ _ _
                  refine g_ireturn (gd rfl) rfl (nb01 (in_w 0 1 (in_c 1 rfl) rfl)) (hp7 _ _ ?_)
                  show GG _ _ _ _ _ _ _ _ [.int (Int32.ofInt 1)] _ _ _
                  refine g_if_eq 13 17 (gd rfl) rfl rfl (fun c10 => ?_) (fun c10 => ?_)
                  · skip
                    exact zn_eq c10 (in_c 1 rfl) rfl
                  · skip
                    refine g_lconst 0 14 (gd rfl) rfl rfl ?_
                    refine g_goto 23 (gd rfl) rfl ?_
                    exact g_lreturn (gd rfl) rfl (hP _ _ ⟨(sF s 109 0 (Int32.ofInt 1)), hI7x3x18, (fr_sF rfl fr_rf), (Int64.ofInt 0), rfl, rfl⟩)
            · skip
              exact zn_ne c4x13 (in_c 0 rfl) rfl
          · skip
            have i4x10x9 := r_lt1 0 31 c4x10x9 i4x10x1 i4x2x9a rfl
            refine g_iconst 1 13 (gd rfl) rfl rfl ?_
            refine g_goto 17 (gd rfl) rfl ?_
            refine g_ireturn (gd rfl) rfl (nb01 (in_w 0 1 (in_c 1 rfl) rfl)) (hp4x10 _ _ ?_)
            show GG _ _ _ _ _ _ _ _ [.int (Int32.ofInt 1)] _ _ _
            refine g_if_eq 16 25 (gd rfl) rfl rfl (fun c4x13 => ?_) (fun c4x13 => ?_)
            · skip
              exact zn_eq c4x13 (in_c 1 rfl) rfl
            · skip
              refine g_iload_n 17 (gd rfl) rfl rfl ?_
              refine g_iload_n 18 (gd rfl) rfl rfl ?_
              refine g_cmp_eq 21 25 (gd rfl) rfl rfl (fun c4x18 => ?_) (fun c4x18 => ?_)
              · skip
                refine g_iconst 0 26 (gd rfl) rfl rfl ?_
                refine g_ireturn (gd rfl) rfl (nb01 (in_w 0 1 (in_c 0 rfl) rfl)) (hp4 _ _ ?_)
                show GG _ _ _ _ _ _ _ _ [.int (Int32.ofInt 0), .ref (A 109)] _ _ _
                refine g_callv (X := _) (As := [.int (Int32.ofInt 0)]) (r := []) (b := A 109) (q := 109) 10 (gd rfl) rfl rfl rfl rfl rfl (ww_o rfl) (Nat.le_of_ble_eq_true rfl) (mc := 0) (ms := 0) (Nat.zero_le _) (Nat.zero_le _) (P := fun v u => _) ?_ (fun e u h => h) (fun v u h => h)
                intro po7 xx7 hp7 hx7
                refine g_enter2 (k := 271) (N := 300) (by first | exact dq1 hd rfl | exact dq0 hd rfl | exact dq2 hd rfl | exact dq3 hd rfl | omega) rfl (Nat.le_of_ble_eq_true rfl) ?_
                refine g_aload_n 1 (gd rfl) rfl rfl ?_
                refine g_iload_n 2 (gd rfl) rfl rfl ?_
                refine g_iconst 1 3 (gd rfl) rfl rfl ?_
                refine g_callv (X := _) (As := [.int (Int32.ofInt 0), .int (Int32.ofInt 1)]) (r := []) (b := A 109) (q := 109) 6 (gd rfl) rfl rfl rfl rfl rfl (ww_o rfl) (Nat.le_of_ble_eq_true rfl) (mc := 0) (ms := 0) (Nat.zero_le _) (Nat.zero_le _) (P := fun v u => _) ?_ (fun e u h => h) (fun v u h => h)
                intro po7x3 xx7x3 hp7x3 hx7x3
                refine g_enter2 (k := 270) (N := 300) (by first | exact dq1 hd rfl | exact dq0 hd rfl | exact dq2 hd rfl | exact dq3 hd rfl | omega) rfl (Nat.le_of_ble_eq_true rfl) ?_
                refine g_aload_n 1 (gd rfl) rfl rfl ?_
                refine g_iload_n 2 (gd rfl) rfl rfl ?_
                refine g_if_ne 5 9 (gd rfl) rfl rfl (fun c7x3x2 => ?_) (fun c7x3x2 => ?_)
                · skip
                  exact zn_ne c7x3x2 (in_c 0 rfl) rfl
                · skip
                  refine g_iconst 1 6 (gd rfl) rfl rfl ?_
                  refine g_goto 18 (gd rfl) rfl ?_
                  refine g_putI 21 (gd rfl) rfl rfl rfl rfl ?_
                  have hI7x3x18 := inv_sF (q := 109) (j := 0) hI rfl (in_w 0 2 (in_c 1 rfl) rfl)
                  refine g_aload_n 22 (gd rfl) rfl rfl ?_
                  refine g_getI 25 (gd rfl) rfl rfl rfl (fun z7x3x22 e7x3x22 => ?_)
                  have q7x3x22 : (Int32.ofInt 1) = z7x3x22 := (sF_get).trans e7x3x22.symm
                  subst q7x3x22
                  refine g_if_le 28 32 (gd rfl) rfl rfl (fun c7x3x25 => ?_) (fun c7x3x25 => ?_)
                  · skip
                    exact zn_le c7x3x25 (in_c 1 rfl) rfl
                  · skip
                    refine g_iconst 1 29 (gd rfl) rfl rfl ?_
                    refine g_goto 33 (gd rfl) rfl ?_
                    refine g_ireturn (gd rfl) rfl (nb01 (in_w 0 1 (in_c 1 rfl) rfl)) (hp7x3 _ _ ?_)
                    show GG _ _ _ _ _ _ _ _ [.int (Int32.ofInt 1)] _ _ _
                    refine g_ireturn (gd rfl) rfl (nb01 (in_w 0 1 (in_c 1 rfl) rfl)) (hp7 _ _ ?_)
                    show GG _ _ _ _ _ _ _ _ [.int (Int32.ofInt 1)] _ _ _
                    refine g_if_eq 13 17 (gd rfl) rfl rfl (fun c10 => ?_) (fun c10 => ?_)
                    · skip
                      exact zn_eq c10 (in_c 1 rfl) rfl
                    · skip
                      refine g_lconst 0 14 (gd rfl) rfl rfl ?_
                      refine g_goto 23 (gd rfl) rfl ?_
                      exact g_lreturn (gd rfl) rfl (hP _ _ ⟨(sF s 109 0 (Int32.ofInt 1)), hI7x3x18, (fr_sF rfl fr_rf), (Int64.ofInt 0), rfl, rfl⟩)
              · skip
                refine g_iconst 1 22 (gd rfl) rfl rfl ?_
                refine g_goto 26 (gd rfl) rfl ?_
                refine g_ireturn (gd rfl) rfl (nb01 (in_w 0 1 (in_c 1 rfl) rfl)) (hp4 _ _ ?_)
                show GG _ _ _ _ _ _ _ _ [.int (Int32.ofInt 1), .ref (A 109)] _ _ _
                refine g_callv (X := _) (As := [.int (Int32.ofInt 1)]) (r := []) (b := A 109) (q := 109) 10 (gd rfl) rfl rfl rfl rfl rfl (ww_o rfl) (Nat.le_of_ble_eq_true rfl) (mc := 0) (ms := 0) (Nat.zero_le _) (Nat.zero_le _) (P := fun v u => _) ?_ (fun e u h => h) (fun v u h => h)
                intro po7 xx7 hp7 hx7
                refine g_enter2 (k := 271) (N := 300) (by first | exact dq1 hd rfl | exact dq0 hd rfl | exact dq2 hd rfl | exact dq3 hd rfl | omega) rfl (Nat.le_of_ble_eq_true rfl) ?_
                refine g_aload_n 1 (gd rfl) rfl rfl ?_
                refine g_iload_n 2 (gd rfl) rfl rfl ?_
                refine g_iconst 1 3 (gd rfl) rfl rfl ?_
                refine g_callv (X := _) (As := [.int (Int32.ofInt 1), .int (Int32.ofInt 1)]) (r := []) (b := A 109) (q := 109) 6 (gd rfl) rfl rfl rfl rfl rfl (ww_o rfl) (Nat.le_of_ble_eq_true rfl) (mc := 0) (ms := 0) (Nat.zero_le _) (Nat.zero_le _) (P := fun v u => _) ?_ (fun e u h => h) (fun v u h => h)
                intro po7x3 xx7x3 hp7x3 hx7x3
                refine g_enter2 (k := 270) (N := 300) (by first | exact dq1 hd rfl | exact dq0 hd rfl | exact dq2 hd rfl | exact dq3 hd rfl | omega) rfl (Nat.le_of_ble_eq_true rfl) ?_
                refine g_aload_n 1 (gd rfl) rfl rfl ?_
                refine g_iload_n 2 (gd rfl) rfl rfl ?_
                refine g_if_ne 5 9 (gd rfl) rfl rfl (fun c7x3x2 => ?_) (fun c7x3x2 => ?_)
                · skip
                  refine g_iload_n 10 (gd rfl) rfl rfl ?_
                  refine g_if_ne 13 17 (gd rfl) rfl rfl (fun c7x3x10 => ?_) (fun c7x3x10 => ?_)
                  · skip
                    refine g_iconst 0 18 (gd rfl) rfl rfl ?_
                    refine g_putI 21 (gd rfl) rfl rfl rfl rfl ?_
                    have hI7x3x18 := inv_sF (q := 109) (j := 0) hI rfl (in_w 0 2 (in_c 0 rfl) rfl)
                    refine g_aload_n 22 (gd rfl) rfl rfl ?_
                    refine g_getI 25 (gd rfl) rfl rfl rfl (fun z7x3x22 e7x3x22 => ?_)
                    have q7x3x22 : (Int32.ofInt 0) = z7x3x22 := (sF_get).trans e7x3x22.symm
                    subst q7x3x22
                    refine g_if_le 28 32 (gd rfl) rfl rfl (fun c7x3x25 => ?_) (fun c7x3x25 => ?_)
                    · skip
                      refine g_iconst 0 33 (gd rfl) rfl rfl ?_
                      refine g_ireturn (gd rfl) rfl (nb01 (in_w 0 1 (in_c 0 rfl) rfl)) (hp7x3 _ _ ?_)
                      show GG _ _ _ _ _ _ _ _ [.int (Int32.ofInt 0)] _ _ _
                      refine g_ireturn (gd rfl) rfl (nb01 (in_w 0 1 (in_c 0 rfl) rfl)) (hp7 _ _ ?_)
                      show GG _ _ _ _ _ _ _ _ [.int (Int32.ofInt 0)] _ _ _
                      refine g_if_eq 13 17 (gd rfl) rfl rfl (fun c10 => ?_) (fun c10 => ?_)
                      · skip
                        refine g_aload_n 18 (gd rfl) rfl rfl ?_
                        refine g_iload_n 19 (gd rfl) rfl rfl ?_
                        refine g_iload_n 20 (gd rfl) rfl rfl ?_
                        have p20 : (x2).toInt < ((sF s 109 0 (Int32.ofInt 0)).2.2.1 109 20).toInt ∧ (x1).toInt ≠ (x2).toInt := by exact ⟨by rw [← (show u_109_20 = (sF s 109 0 (Int32.ofInt 0)).2.2.1 109 20 from sF_ne rfl (e_109_20))]; have a0 := oa4 i4x10x9 i4x2x9 i4x2x9a ((in_c 0 rfl)); omega, by have a0 := oa4 i4x10x9 i4x2x9 i4x2x9a ((in_c 0 rfl)); omega⟩
                        refine g_callv (X := _) (As := [.int x1, .int x2]) (r := []) (b := A 109) (q := 109) 23 (gd rfl) rfl rfl rfl rfl rfl (ww_o rfl) (Nat.le_of_ble_eq_true rfl) (Nat.zero_le _) (Nat.zero_le _) (k_352 (by first | exact dq1 hd rfl | exact dq0 hd rfl | exact dq2 hd rfl | exact dq3 hd rfl | omega) hI7x3x18 (in_w 0 31 i4x2x9 rfl) (in_w 0 31 i4x10x9 rfl) p20) (fun e u h => h) (fun v u h => ?_)
                        obtain ⟨s20, hI20, hF20, z20, rfl, rfl⟩ := h
                        show GG _ _ _ _ _ _ _ _ [.long z20] _ _ _
                        exact g_lreturn (gd rfl) rfl (hP _ _ ⟨s20, hI20, (fr_tr rfl (fr_sF rfl fr_rf) hF20), z20, rfl, rfl⟩)
                      · skip
                        exact zn_ne c10 (in_c 0 rfl) rfl
                    · skip
                      exact zn_gt c7x3x25 (in_c 0 rfl) rfl
                  · skip
                    exact zn_eq c7x3x10 (in_c 1 rfl) rfl
                · skip
                  exact zn_eq c7x3x2 (in_c 1 rfl) rfl

def fm_355 : FM := ([132, 148], [147], [(109, 0)], [])
/-- GraphHouseModel.side -/
theorem k_355 {Z : AmZ} {A : Nat → Nat} {s : GS} {ex : va_W} {d : Nat} {X : AmX} {x1 : Int32} {x2 : Int32} {x3 : Int32} (hd : 4 ≤ d) (hI : Inv s)  : GC Z d 355 [.ref (A 109), .int x1, .int x2, .int x3] (WW Z A s ++ ex) 0 0 (fun v u => ∃ t : GS, Inv t ∧ Fr fm_355 s t ∧ ∃ z : Int32, v = some (.int z) ∧ u = WW Z A t ++ ex ∧ In z 0 1) X := by
  intro post xp hP hX
  obtain ⟨u_109_20, e_109_20⟩ : ∃ w, w = s.2.2.1 109 20 := ⟨_, rfl⟩
  have ro_109_20 := inv_F hI 0 32 rfl e_109_20
  refine g_enter2 (k := 355) (N := 900) (by first | exact dq1 hd rfl | exact dq0 hd rfl | exact dq2 hd rfl | exact dq3 hd rfl | omega) rfl (Nat.le_of_ble_eq_true rfl) ?_
  refine g_aload_n 1 (gd rfl) rfl rfl ?_
  refine g_aload_n 2 (gd rfl) rfl rfl ?_
  refine g_iload_n 3 (gd rfl) rfl rfl ?_
  refine g_iload_n 4 (gd rfl) rfl rfl ?_
  refine g_callv (X := _) (As := [.int x1, .int x2]) (r := [.ref (A 109)]) (b := A 109) (q := 109) 7 (gd rfl) rfl rfl rfl rfl rfl (ww_o rfl) (Nat.le_of_ble_eq_true rfl) (mc := 0) (ms := 0) (Nat.zero_le _) (Nat.zero_le _) (P := fun v u => _) ?_ (fun e u h => h) (fun v u h => h)
  intro po4 xx4 hp4 hx4
  refine g_enter2 (k := 353) (N := 300) (by first | exact dq1 hd rfl | exact dq0 hd rfl | exact dq2 hd rfl | exact dq3 hd rfl | omega) rfl (Nat.le_of_ble_eq_true rfl) ?_
  refine g_aload_n 1 (gd rfl) rfl rfl ?_
  refine g_iload_n 2 (gd rfl) rfl rfl ?_
  refine g_callv (X := _) (As := [.int x1]) (r := []) (b := A 109) (q := 109) 5 (gd rfl) rfl rfl rfl rfl rfl (ww_o rfl) (Nat.le_of_ble_eq_true rfl) (mc := 0) (ms := 0) (Nat.zero_le _) (Nat.zero_le _) (P := fun v u => _) ?_ (fun e u h => h) (fun v u h => h)
  intro po4x2 xx4x2 hp4x2 hx4x2
  refine g_enter2 (k := 272) (N := 300) (by first | exact dq1 hd rfl | exact dq0 hd rfl | exact dq2 hd rfl | exact dq3 hd rfl | omega) rfl (Nat.le_of_ble_eq_true rfl) ?_
  refine g_iload_n 1 (gd rfl) rfl rfl ?_
  refine g_if_lt 4 16 (gd rfl) rfl rfl (fun c4x2x1 => ?_) (fun c4x2x1 => ?_)
  · skip
    have i4x2x1 := z_lt (-2147483648) (-1) c4x2x1 (i_rng x1) rfl
    refine g_iconst 0 17 (gd rfl) rfl rfl ?_
    refine g_ireturn (gd rfl) rfl (nb01 (in_w 0 1 (in_c 0 rfl) rfl)) (hp4x2 _ _ ?_)
    show GG _ _ _ _ _ _ _ _ [.int (Int32.ofInt 0)] _ _ _
    refine g_if_eq 8 25 (gd rfl) rfl rfl (fun c4x5 => ?_) (fun c4x5 => ?_)
    · skip
      refine g_iconst 0 26 (gd rfl) rfl rfl ?_
      refine g_ireturn (gd rfl) rfl (nb01 (in_w 0 1 (in_c 0 rfl) rfl)) (hp4 _ _ ?_)
      show GG _ _ _ _ _ _ _ _ [.int (Int32.ofInt 0), .ref (A 109)] _ _ _
      refine g_if_eq 10 22 (gd rfl) rfl rfl (fun c7 => ?_) (fun c7 => ?_)
      · skip
        refine g_iconst 0 23 (gd rfl) rfl rfl ?_
        refine g_callv (X := _) (As := [.int (Int32.ofInt 0)]) (r := []) (b := A 109) (q := 109) 26 (gd rfl) rfl rfl rfl rfl rfl (ww_o rfl) (Nat.le_of_ble_eq_true rfl) (mc := 0) (ms := 0) (Nat.zero_le _) (Nat.zero_le _) (P := fun v u => _) ?_ (fun e u h => h) (fun v u h => h)
        intro po23 xx23 hp23 hx23
        refine g_enter2 (k := 271) (N := 300) (by first | exact dq1 hd rfl | exact dq0 hd rfl | exact dq2 hd rfl | exact dq3 hd rfl | omega) rfl (Nat.le_of_ble_eq_true rfl) ?_
        refine g_aload_n 1 (gd rfl) rfl rfl ?_
        refine g_iload_n 2 (gd rfl) rfl rfl ?_
        refine g_iconst 1 3 (gd rfl) rfl rfl ?_
        refine g_callv (X := _) (As := [.int (Int32.ofInt 0), .int (Int32.ofInt 1)]) (r := []) (b := A 109) (q := 109) 6 (gd rfl) rfl rfl rfl rfl rfl (ww_o rfl) (Nat.le_of_ble_eq_true rfl) (mc := 0) (ms := 0) (Nat.zero_le _) (Nat.zero_le _) (P := fun v u => _) ?_ (fun e u h => h) (fun v u h => h)
        intro po23x3 xx23x3 hp23x3 hx23x3
        refine g_enter2 (k := 270) (N := 300) (by first | exact dq1 hd rfl | exact dq0 hd rfl | exact dq2 hd rfl | exact dq3 hd rfl | omega) rfl (Nat.le_of_ble_eq_true rfl) ?_
        refine g_aload_n 1 (gd rfl) rfl rfl ?_
        refine g_iload_n 2 (gd rfl) rfl rfl ?_
        refine g_if_ne 5 9 (gd rfl) rfl rfl (fun c23x3x2 => ?_) (fun c23x3x2 => ?_)
        · skip
          exact zn_ne c23x3x2 (in_c 0 rfl) rfl
        · skip
          refine g_iconst 1 6 (gd rfl) rfl rfl ?_
          refine g_goto 18 (gd rfl) rfl ?_
          refine g_putI 21 (gd rfl) rfl rfl rfl rfl ?_
          have hI23x3x18 := inv_sF (q := 109) (j := 0) hI rfl (in_w 0 2 (in_c 1 rfl) rfl)
          refine g_aload_n 22 (gd rfl) rfl rfl ?_
          refine g_getI 25 (gd rfl) rfl rfl rfl (fun z23x3x22 e23x3x22 => ?_)
          have q23x3x22 : (Int32.ofInt 1) = z23x3x22 := (sF_get).trans e23x3x22.symm
          subst q23x3x22
          refine g_if_le 28 32 (gd rfl) rfl rfl (fun c23x3x25 => ?_) (fun c23x3x25 => ?_)
          · skip
            exact zn_le c23x3x25 (in_c 1 rfl) rfl
          · skip
            refine g_iconst 1 29 (gd rfl) rfl rfl ?_
            refine g_goto 33 (gd rfl) rfl ?_
            refine g_ireturn (gd rfl) rfl (nb01 (in_w 0 1 (in_c 1 rfl) rfl)) (hp23x3 _ _ ?_)
            show GG _ _ _ _ _ _ _ _ [.int (Int32.ofInt 1)] _ _ _
            refine g_ireturn (gd rfl) rfl (nb01 (in_w 0 1 (in_c 1 rfl) rfl)) (hp23 _ _ ?_)
            show GG _ _ _ _ _ _ _ _ [.int (Int32.ofInt 1)] _ _ _
            refine g_if_eq 29 31 (gd rfl) rfl rfl (fun c26 => ?_) (fun c26 => ?_)
            · skip
              exact zn_eq c26 (in_c 1 rfl) rfl
            · skip
              refine g_iconst 0 30 (gd rfl) rfl rfl ?_
              exact g_ireturn (gd rfl) rfl (nb01 (in_w 0 1 (in_c 0 rfl) rfl)) (hP _ _ ⟨(sF s 109 0 (Int32.ofInt 1)), hI23x3x18, (fr_sF rfl fr_rf), (Int32.ofInt 0), rfl, rfl, in_w 0 1 (in_c 0 rfl) rfl⟩)
      · skip
        exact zn_ne c7 (in_c 0 rfl) rfl
    · skip
      exact zn_ne c4x5 (in_c 0 rfl) rfl
  · skip
    have i4x2x1 := z_ge 0 2147483647 c4x2x1 (i_rng x1) rfl
    refine g_iload_n 5 (gd rfl) rfl rfl ?_
    refine g_aload_n 6 (gd rfl) rfl rfl ?_
    refine g_getI 9 (gd rfl) rfl rfl rfl (fun z4x2x6 e4x2x6 => ?_)
    have q4x2x6 : u_109_20 = z4x2x6 := (e_109_20).trans e4x2x6.symm
    subst q4x2x6
    refine g_cmp_ge 12 16 (gd rfl) rfl rfl (fun c4x2x9 => ?_) (fun c4x2x9 => ?_)
    · skip
      refine g_iconst 0 17 (gd rfl) rfl rfl ?_
      refine g_ireturn (gd rfl) rfl (nb01 (in_w 0 1 (in_c 0 rfl) rfl)) (hp4x2 _ _ ?_)
      show GG _ _ _ _ _ _ _ _ [.int (Int32.ofInt 0)] _ _ _
      refine g_if_eq 8 25 (gd rfl) rfl rfl (fun c4x5 => ?_) (fun c4x5 => ?_)
      · skip
        refine g_iconst 0 26 (gd rfl) rfl rfl ?_
        refine g_ireturn (gd rfl) rfl (nb01 (in_w 0 1 (in_c 0 rfl) rfl)) (hp4 _ _ ?_)
        show GG _ _ _ _ _ _ _ _ [.int (Int32.ofInt 0), .ref (A 109)] _ _ _
        refine g_if_eq 10 22 (gd rfl) rfl rfl (fun c7 => ?_) (fun c7 => ?_)
        · skip
          refine g_iconst 0 23 (gd rfl) rfl rfl ?_
          refine g_callv (X := _) (As := [.int (Int32.ofInt 0)]) (r := []) (b := A 109) (q := 109) 26 (gd rfl) rfl rfl rfl rfl rfl (ww_o rfl) (Nat.le_of_ble_eq_true rfl) (mc := 0) (ms := 0) (Nat.zero_le _) (Nat.zero_le _) (P := fun v u => _) ?_ (fun e u h => h) (fun v u h => h)
          intro po23 xx23 hp23 hx23
          refine g_enter2 (k := 271) (N := 300) (by first | exact dq1 hd rfl | exact dq0 hd rfl | exact dq2 hd rfl | exact dq3 hd rfl | omega) rfl (Nat.le_of_ble_eq_true rfl) ?_
          refine g_aload_n 1 (gd rfl) rfl rfl ?_
          refine g_iload_n 2 (gd rfl) rfl rfl ?_
          refine g_iconst 1 3 (gd rfl) rfl rfl ?_
          refine g_callv (X := _) (As := [.int (Int32.ofInt 0), .int (Int32.ofInt 1)]) (r := []) (b := A 109) (q := 109) 6 (gd rfl) rfl rfl rfl rfl rfl (ww_o rfl) (Nat.le_of_ble_eq_true rfl) (mc := 0) (ms := 0) (Nat.zero_le _) (Nat.zero_le _) (P := fun v u => _) ?_ (fun e u h => h) (fun v u h => h)
          intro po23x3 xx23x3 hp23x3 hx23x3
          refine g_enter2 (k := 270) (N := 300) (by first | exact dq1 hd rfl | exact dq0 hd rfl | exact dq2 hd rfl | exact dq3 hd rfl | omega) rfl (Nat.le_of_ble_eq_true rfl) ?_
          refine g_aload_n 1 (gd rfl) rfl rfl ?_
          refine g_iload_n 2 (gd rfl) rfl rfl ?_
          refine g_if_ne 5 9 (gd rfl) rfl rfl (fun c23x3x2 => ?_) (fun c23x3x2 => ?_)
          · skip
            exact zn_ne c23x3x2 (in_c 0 rfl) rfl
          · skip
            refine g_iconst 1 6 (gd rfl) rfl rfl ?_
            refine g_goto 18 (gd rfl) rfl ?_
            refine g_putI 21 (gd rfl) rfl rfl rfl rfl ?_
            have hI23x3x18 := inv_sF (q := 109) (j := 0) hI rfl (in_w 0 2 (in_c 1 rfl) rfl)
            refine g_aload_n 22 (gd rfl) rfl rfl ?_
            refine g_getI 25 (gd rfl) rfl rfl rfl (fun z23x3x22 e23x3x22 => ?_)
            have q23x3x22 : (Int32.ofInt 1) = z23x3x22 := (sF_get).trans e23x3x22.symm
            subst q23x3x22
            refine g_if_le 28 32 (gd rfl) rfl rfl (fun c23x3x25 => ?_) (fun c23x3x25 => ?_)
            · skip
              exact zn_le c23x3x25 (in_c 1 rfl) rfl
            · skip
              refine g_iconst 1 29 (gd rfl) rfl rfl ?_
              refine g_goto 33 (gd rfl) rfl ?_
              refine g_ireturn (gd rfl) rfl (nb01 (in_w 0 1 (in_c 1 rfl) rfl)) (hp23x3 _ _ ?_)
              show GG _ _ _ _ _ _ _ _ [.int (Int32.ofInt 1)] _ _ _
              refine g_ireturn (gd rfl) rfl (nb01 (in_w 0 1 (in_c 1 rfl) rfl)) (hp23 _ _ ?_)
              show GG _ _ _ _ _ _ _ _ [.int (Int32.ofInt 1)] _ _ _
              refine g_if_eq 29 31 (gd rfl) rfl rfl (fun c26 => ?_) (fun c26 => ?_)
              · skip
                exact zn_eq c26 (in_c 1 rfl) rfl
              · skip
                refine g_iconst 0 30 (gd rfl) rfl rfl ?_
                exact g_ireturn (gd rfl) rfl (nb01 (in_w 0 1 (in_c 0 rfl) rfl)) (hP _ _ ⟨(sF s 109 0 (Int32.ofInt 1)), hI23x3x18, (fr_sF rfl fr_rf), (Int32.ofInt 0), rfl, rfl, in_w 0 1 (in_c 0 rfl) rfl⟩)
        · skip
          exact zn_ne c7 (in_c 0 rfl) rfl
      · skip
        exact zn_ne c4x5 (in_c 0 rfl) rfl
    · skip
      have i4x2x9 := r_lt1 0 31 c4x2x9 i4x2x1 ro_109_20 rfl
      have i4x2x9a := r_lt2 1 32 c4x2x9 i4x2x1 ro_109_20 rfl
      refine g_iconst 1 13 (gd rfl) rfl rfl ?_
      refine g_goto 17 (gd rfl) rfl ?_
      refine g_ireturn (gd rfl) rfl (nb01 (in_w 0 1 (in_c 1 rfl) rfl)) (hp4x2 _ _ ?_)
      show GG _ _ _ _ _ _ _ _ [.int (Int32.ofInt 1)] _ _ _
      refine g_if_eq 8 25 (gd rfl) rfl rfl (fun c4x5 => ?_) (fun c4x5 => ?_)
      · skip
        exact zn_eq c4x5 (in_c 1 rfl) rfl
      · skip
        refine g_aload_n 9 (gd rfl) rfl rfl ?_
        refine g_iload_n 10 (gd rfl) rfl rfl ?_
        refine g_callv (X := _) (As := [.int x2]) (r := []) (b := A 109) (q := 109) 13 (gd rfl) rfl rfl rfl rfl rfl (ww_o rfl) (Nat.le_of_ble_eq_true rfl) (mc := 0) (ms := 0) (Nat.zero_le _) (Nat.zero_le _) (P := fun v u => _) ?_ (fun e u h => h) (fun v u h => h)
        intro po4x10 xx4x10 hp4x10 hx4x10
        refine g_enter2 (k := 272) (N := 300) (by first | exact dq1 hd rfl | exact dq0 hd rfl | exact dq2 hd rfl | exact dq3 hd rfl | omega) rfl (Nat.le_of_ble_eq_true rfl) ?_
        refine g_iload_n 1 (gd rfl) rfl rfl ?_
        refine g_if_lt 4 16 (gd rfl) rfl rfl (fun c4x10x1 => ?_) (fun c4x10x1 => ?_)
        · skip
          have i4x10x1 := z_lt (-2147483648) (-1) c4x10x1 (i_rng x2) rfl
          refine g_iconst 0 17 (gd rfl) rfl rfl ?_
          refine g_ireturn (gd rfl) rfl (nb01 (in_w 0 1 (in_c 0 rfl) rfl)) (hp4x10 _ _ ?_)
          show GG _ _ _ _ _ _ _ _ [.int (Int32.ofInt 0)] _ _ _
          refine g_if_eq 16 25 (gd rfl) rfl rfl (fun c4x13 => ?_) (fun c4x13 => ?_)
          · skip
            refine g_iconst 0 26 (gd rfl) rfl rfl ?_
            refine g_ireturn (gd rfl) rfl (nb01 (in_w 0 1 (in_c 0 rfl) rfl)) (hp4 _ _ ?_)
            show GG _ _ _ _ _ _ _ _ [.int (Int32.ofInt 0), .ref (A 109)] _ _ _
            refine g_if_eq 10 22 (gd rfl) rfl rfl (fun c7 => ?_) (fun c7 => ?_)
            · skip
              refine g_iconst 0 23 (gd rfl) rfl rfl ?_
              refine g_callv (X := _) (As := [.int (Int32.ofInt 0)]) (r := []) (b := A 109) (q := 109) 26 (gd rfl) rfl rfl rfl rfl rfl (ww_o rfl) (Nat.le_of_ble_eq_true rfl) (mc := 0) (ms := 0) (Nat.zero_le _) (Nat.zero_le _) (P := fun v u => _) ?_ (fun e u h => h) (fun v u h => h)
              intro po23 xx23 hp23 hx23
              refine g_enter2 (k := 271) (N := 300) (by first | exact dq1 hd rfl | exact dq0 hd rfl | exact dq2 hd rfl | exact dq3 hd rfl | omega) rfl (Nat.le_of_ble_eq_true rfl) ?_
              refine g_aload_n 1 (gd rfl) rfl rfl ?_
              refine g_iload_n 2 (gd rfl) rfl rfl ?_
              refine g_iconst 1 3 (gd rfl) rfl rfl ?_
              refine g_callv (X := _) (As := [.int (Int32.ofInt 0), .int (Int32.ofInt 1)]) (r := []) (b := A 109) (q := 109) 6 (gd rfl) rfl rfl rfl rfl rfl (ww_o rfl) (Nat.le_of_ble_eq_true rfl) (mc := 0) (ms := 0) (Nat.zero_le _) (Nat.zero_le _) (P := fun v u => _) ?_ (fun e u h => h) (fun v u h => h)
              intro po23x3 xx23x3 hp23x3 hx23x3
              refine g_enter2 (k := 270) (N := 300) (by first | exact dq1 hd rfl | exact dq0 hd rfl | exact dq2 hd rfl | exact dq3 hd rfl | omega) rfl (Nat.le_of_ble_eq_true rfl) ?_
              refine g_aload_n 1 (gd rfl) rfl rfl ?_
              refine g_iload_n 2 (gd rfl) rfl rfl ?_
              refine g_if_ne 5 9 (gd rfl) rfl rfl (fun c23x3x2 => ?_) (fun c23x3x2 => ?_)
              · skip
                exact zn_ne c23x3x2 (in_c 0 rfl) rfl
              · skip
                refine g_iconst 1 6 (gd rfl) rfl rfl ?_
                refine g_goto 18 (gd rfl) rfl ?_
                refine g_putI 21 (gd rfl) rfl rfl rfl rfl ?_
                have hI23x3x18 := inv_sF (q := 109) (j := 0) hI rfl (in_w 0 2 (in_c 1 rfl) rfl)
                refine g_aload_n 22 (gd rfl) rfl rfl ?_
                refine g_getI 25 (gd rfl) rfl rfl rfl (fun z23x3x22 e23x3x22 => ?_)
                have q23x3x22 : (Int32.ofInt 1) = z23x3x22 := (sF_get).trans e23x3x22.symm
                subst q23x3x22
                refine g_if_le 28 32 (gd rfl) rfl rfl (fun c23x3x25 => ?_) (fun c23x3x25 => ?_)
                · skip
                  exact zn_le c23x3x25 (in_c 1 rfl) rfl
                · skip
                  refine g_iconst 1 29 (gd rfl) rfl rfl ?_
                  refine g_goto 33 (gd rfl) rfl ?_
                  refine g_ireturn (gd rfl) rfl (nb01 (in_w 0 1 (in_c 1 rfl) rfl)) (hp23x3 _ _ ?_)
                  show GG _ _ _ _ _ _ _ _ [.int (Int32.ofInt 1)] _ _ _
                  refine g_ireturn (gd rfl) rfl (nb01 (in_w 0 1 (in_c 1 rfl) rfl)) (hp23 _ _ ?_)
                  show GG _ _ _ _ _ _ _ _ [.int (Int32.ofInt 1)] _ _ _
                  refine g_if_eq 29 31 (gd rfl) rfl rfl (fun c26 => ?_) (fun c26 => ?_)
                  · skip
                    exact zn_eq c26 (in_c 1 rfl) rfl
                  · skip
                    refine g_iconst 0 30 (gd rfl) rfl rfl ?_
                    exact g_ireturn (gd rfl) rfl (nb01 (in_w 0 1 (in_c 0 rfl) rfl)) (hP _ _ ⟨(sF s 109 0 (Int32.ofInt 1)), hI23x3x18, (fr_sF rfl fr_rf), (Int32.ofInt 0), rfl, rfl, in_w 0 1 (in_c 0 rfl) rfl⟩)
            · skip
              exact zn_ne c7 (in_c 0 rfl) rfl
          · skip
            exact zn_ne c4x13 (in_c 0 rfl) rfl
        · skip
          have i4x10x1 := z_ge 0 2147483647 c4x10x1 (i_rng x2) rfl
          refine g_iload_n 5 (gd rfl) rfl rfl ?_
          refine g_aload_n 6 (gd rfl) rfl rfl ?_
          refine g_getI 9 (gd rfl) rfl rfl rfl (fun z4x10x6 e4x10x6 => ?_)
          have q4x10x6 : u_109_20 = z4x10x6 := (e_109_20).trans e4x10x6.symm
          subst q4x10x6
          refine g_cmp_ge 12 16 (gd rfl) rfl rfl (fun c4x10x9 => ?_) (fun c4x10x9 => ?_)
          · skip
            have i4x10x9 := r_le2 1 2147483647 c4x10x9 i4x2x9a i4x10x1 rfl
            refine g_iconst 0 17 (gd rfl) rfl rfl ?_
            refine g_ireturn (gd rfl) rfl (nb01 (in_w 0 1 (in_c 0 rfl) rfl)) (hp4x10 _ _ ?_)
            show GG _ _ _ _ _ _ _ _ [.int (Int32.ofInt 0)] _ _ _
            refine g_if_eq 16 25 (gd rfl) rfl rfl (fun c4x13 => ?_) (fun c4x13 => ?_)
            · skip
              refine g_iconst 0 26 (gd rfl) rfl rfl ?_
              refine g_ireturn (gd rfl) rfl (nb01 (in_w 0 1 (in_c 0 rfl) rfl)) (hp4 _ _ ?_)
              show GG _ _ _ _ _ _ _ _ [.int (Int32.ofInt 0), .ref (A 109)] _ _ _
              refine g_if_eq 10 22 (gd rfl) rfl rfl (fun c7 => ?_) (fun c7 => ?_)
              · skip
                refine g_iconst 0 23 (gd rfl) rfl rfl ?_
                refine g_callv (X := _) (As := [.int (Int32.ofInt 0)]) (r := []) (b := A 109) (q := 109) 26 (gd rfl) rfl rfl rfl rfl rfl (ww_o rfl) (Nat.le_of_ble_eq_true rfl) (mc := 0) (ms := 0) (Nat.zero_le _) (Nat.zero_le _) (P := fun v u => _) ?_ (fun e u h => h) (fun v u h => h)
                intro po23 xx23 hp23 hx23
                refine g_enter2 (k := 271) (N := 300) (by first | exact dq1 hd rfl | exact dq0 hd rfl | exact dq2 hd rfl | exact dq3 hd rfl | omega) rfl (Nat.le_of_ble_eq_true rfl) ?_
                refine g_aload_n 1 (gd rfl) rfl rfl ?_
                refine g_iload_n 2 (gd rfl) rfl rfl ?_
                refine g_iconst 1 3 (gd rfl) rfl rfl ?_
                refine g_callv (X := _) (As := [.int (Int32.ofInt 0), .int (Int32.ofInt 1)]) (r := []) (b := A 109) (q := 109) 6 (gd rfl) rfl rfl rfl rfl rfl (ww_o rfl) (Nat.le_of_ble_eq_true rfl) (mc := 0) (ms := 0) (Nat.zero_le _) (Nat.zero_le _) (P := fun v u => _) ?_ (fun e u h => h) (fun v u h => h)
                intro po23x3 xx23x3 hp23x3 hx23x3
                refine g_enter2 (k := 270) (N := 300) (by first | exact dq1 hd rfl | exact dq0 hd rfl | exact dq2 hd rfl | exact dq3 hd rfl | omega) rfl (Nat.le_of_ble_eq_true rfl) ?_
                refine g_aload_n 1 (gd rfl) rfl rfl ?_
                refine g_iload_n 2 (gd rfl) rfl rfl ?_
                refine g_if_ne 5 9 (gd rfl) rfl rfl (fun c23x3x2 => ?_) (fun c23x3x2 => ?_)
                · skip
                  exact zn_ne c23x3x2 (in_c 0 rfl) rfl
                · skip
                  refine g_iconst 1 6 (gd rfl) rfl rfl ?_
                  refine g_goto 18 (gd rfl) rfl ?_
                  refine g_putI 21 (gd rfl) rfl rfl rfl rfl ?_
                  have hI23x3x18 := inv_sF (q := 109) (j := 0) hI rfl (in_w 0 2 (in_c 1 rfl) rfl)
                  refine g_aload_n 22 (gd rfl) rfl rfl ?_
                  refine g_getI 25 (gd rfl) rfl rfl rfl (fun z23x3x22 e23x3x22 => ?_)
                  have q23x3x22 : (Int32.ofInt 1) = z23x3x22 := (sF_get).trans e23x3x22.symm
                  subst q23x3x22
                  refine g_if_le 28 32 (gd rfl) rfl rfl (fun c23x3x25 => ?_) (fun c23x3x25 => ?_)
                  · skip
                    exact zn_le c23x3x25 (in_c 1 rfl) rfl
                  · skip
                    refine g_iconst 1 29 (gd rfl) rfl rfl ?_
                    refine g_goto 33 (gd rfl) rfl ?_
                    refine g_ireturn (gd rfl) rfl (nb01 (in_w 0 1 (in_c 1 rfl) rfl)) (hp23x3 _ _ ?_)
                    show GG _ _ _ _ _ _ _ _ [.int (Int32.ofInt 1)] _ _ _
                    refine g_ireturn (gd rfl) rfl (nb01 (in_w 0 1 (in_c 1 rfl) rfl)) (hp23 _ _ ?_)
                    show GG _ _ _ _ _ _ _ _ [.int (Int32.ofInt 1)] _ _ _
                    refine g_if_eq 29 31 (gd rfl) rfl rfl (fun c26 => ?_) (fun c26 => ?_)
                    · skip
                      exact zn_eq c26 (in_c 1 rfl) rfl
                    · skip
                      refine g_iconst 0 30 (gd rfl) rfl rfl ?_
                      exact g_ireturn (gd rfl) rfl (nb01 (in_w 0 1 (in_c 0 rfl) rfl)) (hP _ _ ⟨(sF s 109 0 (Int32.ofInt 1)), hI23x3x18, (fr_sF rfl fr_rf), (Int32.ofInt 0), rfl, rfl, in_w 0 1 (in_c 0 rfl) rfl⟩)
              · skip
                exact zn_ne c7 (in_c 0 rfl) rfl
            · skip
              exact zn_ne c4x13 (in_c 0 rfl) rfl
          · skip
            have i4x10x9 := r_lt1 0 31 c4x10x9 i4x10x1 i4x2x9a rfl
            refine g_iconst 1 13 (gd rfl) rfl rfl ?_
            refine g_goto 17 (gd rfl) rfl ?_
            refine g_ireturn (gd rfl) rfl (nb01 (in_w 0 1 (in_c 1 rfl) rfl)) (hp4x10 _ _ ?_)
            show GG _ _ _ _ _ _ _ _ [.int (Int32.ofInt 1)] _ _ _
            refine g_if_eq 16 25 (gd rfl) rfl rfl (fun c4x13 => ?_) (fun c4x13 => ?_)
            · skip
              exact zn_eq c4x13 (in_c 1 rfl) rfl
            · skip
              refine g_iload_n 17 (gd rfl) rfl rfl ?_
              refine g_iload_n 18 (gd rfl) rfl rfl ?_
              refine g_cmp_eq 21 25 (gd rfl) rfl rfl (fun c4x18 => ?_) (fun c4x18 => ?_)
              · skip
                refine g_iconst 0 26 (gd rfl) rfl rfl ?_
                refine g_ireturn (gd rfl) rfl (nb01 (in_w 0 1 (in_c 0 rfl) rfl)) (hp4 _ _ ?_)
                show GG _ _ _ _ _ _ _ _ [.int (Int32.ofInt 0), .ref (A 109)] _ _ _
                refine g_if_eq 10 22 (gd rfl) rfl rfl (fun c7 => ?_) (fun c7 => ?_)
                · skip
                  refine g_iconst 0 23 (gd rfl) rfl rfl ?_
                  refine g_callv (X := _) (As := [.int (Int32.ofInt 0)]) (r := []) (b := A 109) (q := 109) 26 (gd rfl) rfl rfl rfl rfl rfl (ww_o rfl) (Nat.le_of_ble_eq_true rfl) (mc := 0) (ms := 0) (Nat.zero_le _) (Nat.zero_le _) (P := fun v u => _) ?_ (fun e u h => h) (fun v u h => h)
                  intro po23 xx23 hp23 hx23
                  refine g_enter2 (k := 271) (N := 300) (by first | exact dq1 hd rfl | exact dq0 hd rfl | exact dq2 hd rfl | exact dq3 hd rfl | omega) rfl (Nat.le_of_ble_eq_true rfl) ?_
                  refine g_aload_n 1 (gd rfl) rfl rfl ?_
                  refine g_iload_n 2 (gd rfl) rfl rfl ?_
                  refine g_iconst 1 3 (gd rfl) rfl rfl ?_
                  refine g_callv (X := _) (As := [.int (Int32.ofInt 0), .int (Int32.ofInt 1)]) (r := []) (b := A 109) (q := 109) 6 (gd rfl) rfl rfl rfl rfl rfl (ww_o rfl) (Nat.le_of_ble_eq_true rfl) (mc := 0) (ms := 0) (Nat.zero_le _) (Nat.zero_le _) (P := fun v u => _) ?_ (fun e u h => h) (fun v u h => h)
                  intro po23x3 xx23x3 hp23x3 hx23x3
                  refine g_enter2 (k := 270) (N := 300) (by first | exact dq1 hd rfl | exact dq0 hd rfl | exact dq2 hd rfl | exact dq3 hd rfl | omega) rfl (Nat.le_of_ble_eq_true rfl) ?_
                  refine g_aload_n 1 (gd rfl) rfl rfl ?_
                  refine g_iload_n 2 (gd rfl) rfl rfl ?_
                  refine g_if_ne 5 9 (gd rfl) rfl rfl (fun c23x3x2 => ?_) (fun c23x3x2 => ?_)
                  · skip
                    exact zn_ne c23x3x2 (in_c 0 rfl) rfl
                  · skip
                    refine g_iconst 1 6 (gd rfl) rfl rfl ?_
                    refine g_goto 18 (gd rfl) rfl ?_
                    refine g_putI 21 (gd rfl) rfl rfl rfl rfl ?_
                    have hI23x3x18 := inv_sF (q := 109) (j := 0) hI rfl (in_w 0 2 (in_c 1 rfl) rfl)
                    refine g_aload_n 22 (gd rfl) rfl rfl ?_
                    refine g_getI 25 (gd rfl) rfl rfl rfl (fun z23x3x22 e23x3x22 => ?_)
                    have q23x3x22 : (Int32.ofInt 1) = z23x3x22 := (sF_get).trans e23x3x22.symm
                    subst q23x3x22
                    refine g_if_le 28 32 (gd rfl) rfl rfl (fun c23x3x25 => ?_) (fun c23x3x25 => ?_)
                    · skip
                      exact zn_le c23x3x25 (in_c 1 rfl) rfl
                    · skip
                      refine g_iconst 1 29 (gd rfl) rfl rfl ?_
                      refine g_goto 33 (gd rfl) rfl ?_
                      refine g_ireturn (gd rfl) rfl (nb01 (in_w 0 1 (in_c 1 rfl) rfl)) (hp23x3 _ _ ?_)
                      show GG _ _ _ _ _ _ _ _ [.int (Int32.ofInt 1)] _ _ _
                      refine g_ireturn (gd rfl) rfl (nb01 (in_w 0 1 (in_c 1 rfl) rfl)) (hp23 _ _ ?_)
                      show GG _ _ _ _ _ _ _ _ [.int (Int32.ofInt 1)] _ _ _
                      refine g_if_eq 29 31 (gd rfl) rfl rfl (fun c26 => ?_) (fun c26 => ?_)
                      · skip
                        exact zn_eq c26 (in_c 1 rfl) rfl
                      · skip
                        refine g_iconst 0 30 (gd rfl) rfl rfl ?_
                        exact g_ireturn (gd rfl) rfl (nb01 (in_w 0 1 (in_c 0 rfl) rfl)) (hP _ _ ⟨(sF s 109 0 (Int32.ofInt 1)), hI23x3x18, (fr_sF rfl fr_rf), (Int32.ofInt 0), rfl, rfl, in_w 0 1 (in_c 0 rfl) rfl⟩)
                · skip
                  exact zn_ne c7 (in_c 0 rfl) rfl
              · skip
                refine g_iconst 1 22 (gd rfl) rfl rfl ?_
                refine g_goto 26 (gd rfl) rfl ?_
                refine g_ireturn (gd rfl) rfl (nb01 (in_w 0 1 (in_c 1 rfl) rfl)) (hp4 _ _ ?_)
                show GG _ _ _ _ _ _ _ _ [.int (Int32.ofInt 1), .ref (A 109)] _ _ _
                refine g_if_eq 10 22 (gd rfl) rfl rfl (fun c7 => ?_) (fun c7 => ?_)
                · skip
                  exact zn_eq c7 (in_c 1 rfl) rfl
                · skip
                  refine g_aload_n 11 (gd rfl) rfl rfl ?_
                  refine g_iload_n 12 (gd rfl) rfl rfl ?_
                  refine g_callv (X := _) (As := [.int x3]) (r := [.ref (A 109)]) (b := A 109) (q := 109) 15 (gd rfl) rfl rfl rfl rfl rfl (ww_o rfl) (Nat.le_of_ble_eq_true rfl) (mc := 0) (ms := 0) (Nat.zero_le _) (Nat.zero_le _) (P := fun v u => _) ?_ (fun e u h => h) (fun v u h => h)
                  intro po12 xx12 hp12 hx12
                  refine g_enter2 (k := 272) (N := 300) (by first | exact dq1 hd rfl | exact dq0 hd rfl | exact dq2 hd rfl | exact dq3 hd rfl | omega) rfl (Nat.le_of_ble_eq_true rfl) ?_
                  refine g_iload_n 1 (gd rfl) rfl rfl ?_
                  refine g_if_lt 4 16 (gd rfl) rfl rfl (fun c12x1 => ?_) (fun c12x1 => ?_)
                  · skip
                    have i12x1 := z_lt (-2147483648) (-1) c12x1 (i_rng x3) rfl
                    refine g_iconst 0 17 (gd rfl) rfl rfl ?_
                    refine g_ireturn (gd rfl) rfl (nb01 (in_w 0 1 (in_c 0 rfl) rfl)) (hp12 _ _ ?_)
                    show GG _ _ _ _ _ _ _ _ [.int (Int32.ofInt 0), .ref (A 109)] _ _ _
                    refine g_if_eq 18 22 (gd rfl) rfl rfl (fun c15 => ?_) (fun c15 => ?_)
                    · skip
                      refine g_iconst 0 23 (gd rfl) rfl rfl ?_
                      refine g_callv (X := _) (As := [.int (Int32.ofInt 0)]) (r := []) (b := A 109) (q := 109) 26 (gd rfl) rfl rfl rfl rfl rfl (ww_o rfl) (Nat.le_of_ble_eq_true rfl) (mc := 0) (ms := 0) (Nat.zero_le _) (Nat.zero_le _) (P := fun v u => _) ?_ (fun e u h => h) (fun v u h => h)
                      intro po23 xx23 hp23 hx23
                      refine g_enter2 (k := 271) (N := 300) (by first | exact dq1 hd rfl | exact dq0 hd rfl | exact dq2 hd rfl | exact dq3 hd rfl | omega) rfl (Nat.le_of_ble_eq_true rfl) ?_
                      refine g_aload_n 1 (gd rfl) rfl rfl ?_
                      refine g_iload_n 2 (gd rfl) rfl rfl ?_
                      refine g_iconst 1 3 (gd rfl) rfl rfl ?_
                      refine g_callv (X := _) (As := [.int (Int32.ofInt 0), .int (Int32.ofInt 1)]) (r := []) (b := A 109) (q := 109) 6 (gd rfl) rfl rfl rfl rfl rfl (ww_o rfl) (Nat.le_of_ble_eq_true rfl) (mc := 0) (ms := 0) (Nat.zero_le _) (Nat.zero_le _) (P := fun v u => _) ?_ (fun e u h => h) (fun v u h => h)
                      intro po23x3 xx23x3 hp23x3 hx23x3
                      refine g_enter2 (k := 270) (N := 300) (by first | exact dq1 hd rfl | exact dq0 hd rfl | exact dq2 hd rfl | exact dq3 hd rfl | omega) rfl (Nat.le_of_ble_eq_true rfl) ?_
                      refine g_aload_n 1 (gd rfl) rfl rfl ?_
                      refine g_iload_n 2 (gd rfl) rfl rfl ?_
                      refine g_if_ne 5 9 (gd rfl) rfl rfl (fun c23x3x2 => ?_) (fun c23x3x2 => ?_)
                      · skip
                        exact zn_ne c23x3x2 (in_c 0 rfl) rfl
                      · skip
                        refine g_iconst 1 6 (gd rfl) rfl rfl ?_
                        refine g_goto 18 (gd rfl) rfl ?_
                        refine g_putI 21 (gd rfl) rfl rfl rfl rfl ?_
                        have hI23x3x18 := inv_sF (q := 109) (j := 0) hI rfl (in_w 0 2 (in_c 1 rfl) rfl)
                        refine g_aload_n 22 (gd rfl) rfl rfl ?_
                        refine g_getI 25 (gd rfl) rfl rfl rfl (fun z23x3x22 e23x3x22 => ?_)
                        have q23x3x22 : (Int32.ofInt 1) = z23x3x22 := (sF_get).trans e23x3x22.symm
                        subst q23x3x22
                        refine g_if_le 28 32 (gd rfl) rfl rfl (fun c23x3x25 => ?_) (fun c23x3x25 => ?_)
                        · skip
                          exact zn_le c23x3x25 (in_c 1 rfl) rfl
                        · skip
                          refine g_iconst 1 29 (gd rfl) rfl rfl ?_
                          refine g_goto 33 (gd rfl) rfl ?_
                          refine g_ireturn (gd rfl) rfl (nb01 (in_w 0 1 (in_c 1 rfl) rfl)) (hp23x3 _ _ ?_)
                          show GG _ _ _ _ _ _ _ _ [.int (Int32.ofInt 1)] _ _ _
                          refine g_ireturn (gd rfl) rfl (nb01 (in_w 0 1 (in_c 1 rfl) rfl)) (hp23 _ _ ?_)
                          show GG _ _ _ _ _ _ _ _ [.int (Int32.ofInt 1)] _ _ _
                          refine g_if_eq 29 31 (gd rfl) rfl rfl (fun c26 => ?_) (fun c26 => ?_)
                          · skip
                            exact zn_eq c26 (in_c 1 rfl) rfl
                          · skip
                            refine g_iconst 0 30 (gd rfl) rfl rfl ?_
                            exact g_ireturn (gd rfl) rfl (nb01 (in_w 0 1 (in_c 0 rfl) rfl)) (hP _ _ ⟨(sF s 109 0 (Int32.ofInt 1)), hI23x3x18, (fr_sF rfl fr_rf), (Int32.ofInt 0), rfl, rfl, in_w 0 1 (in_c 0 rfl) rfl⟩)
                    · skip
                      exact zn_ne c15 (in_c 0 rfl) rfl
                  · skip
                    have i12x1 := z_ge 0 2147483647 c12x1 (i_rng x3) rfl
                    refine g_iload_n 5 (gd rfl) rfl rfl ?_
                    refine g_aload_n 6 (gd rfl) rfl rfl ?_
                    refine g_getI 9 (gd rfl) rfl rfl rfl (fun z12x6 e12x6 => ?_)
                    have q12x6 : u_109_20 = z12x6 := (e_109_20).trans e12x6.symm
                    subst q12x6
                    refine g_cmp_ge 12 16 (gd rfl) rfl rfl (fun c12x9 => ?_) (fun c12x9 => ?_)
                    · skip
                      have i12x9 := r_le2 1 2147483647 c12x9 i4x2x9a i12x1 rfl
                      refine g_iconst 0 17 (gd rfl) rfl rfl ?_
                      refine g_ireturn (gd rfl) rfl (nb01 (in_w 0 1 (in_c 0 rfl) rfl)) (hp12 _ _ ?_)
                      show GG _ _ _ _ _ _ _ _ [.int (Int32.ofInt 0), .ref (A 109)] _ _ _
                      refine g_if_eq 18 22 (gd rfl) rfl rfl (fun c15 => ?_) (fun c15 => ?_)
                      · skip
                        refine g_iconst 0 23 (gd rfl) rfl rfl ?_
                        refine g_callv (X := _) (As := [.int (Int32.ofInt 0)]) (r := []) (b := A 109) (q := 109) 26 (gd rfl) rfl rfl rfl rfl rfl (ww_o rfl) (Nat.le_of_ble_eq_true rfl) (mc := 0) (ms := 0) (Nat.zero_le _) (Nat.zero_le _) (P := fun v u => _) ?_ (fun e u h => h) (fun v u h => h)
                        intro po23 xx23 hp23 hx23
                        refine g_enter2 (k := 271) (N := 300) (by first | exact dq1 hd rfl | exact dq0 hd rfl | exact dq2 hd rfl | exact dq3 hd rfl | omega) rfl (Nat.le_of_ble_eq_true rfl) ?_
                        refine g_aload_n 1 (gd rfl) rfl rfl ?_
                        refine g_iload_n 2 (gd rfl) rfl rfl ?_
                        refine g_iconst 1 3 (gd rfl) rfl rfl ?_
                        refine g_callv (X := _) (As := [.int (Int32.ofInt 0), .int (Int32.ofInt 1)]) (r := []) (b := A 109) (q := 109) 6 (gd rfl) rfl rfl rfl rfl rfl (ww_o rfl) (Nat.le_of_ble_eq_true rfl) (mc := 0) (ms := 0) (Nat.zero_le _) (Nat.zero_le _) (P := fun v u => _) ?_ (fun e u h => h) (fun v u h => h)
                        intro po23x3 xx23x3 hp23x3 hx23x3
                        refine g_enter2 (k := 270) (N := 300) (by first | exact dq1 hd rfl | exact dq0 hd rfl | exact dq2 hd rfl | exact dq3 hd rfl | omega) rfl (Nat.le_of_ble_eq_true rfl) ?_
                        refine g_aload_n 1 (gd rfl) rfl rfl ?_
                        refine g_iload_n 2 (gd rfl) rfl rfl ?_
                        refine g_if_ne 5 9 (gd rfl) rfl rfl (fun c23x3x2 => ?_) (fun c23x3x2 => ?_)
                        · skip
                          exact zn_ne c23x3x2 (in_c 0 rfl) rfl
                        · skip
                          refine g_iconst 1 6 (gd rfl) rfl rfl ?_
                          refine g_goto 18 (gd rfl) rfl ?_
                          refine g_putI 21 (gd rfl) rfl rfl rfl rfl ?_
                          have hI23x3x18 := inv_sF (q := 109) (j := 0) hI rfl (in_w 0 2 (in_c 1 rfl) rfl)
                          refine g_aload_n 22 (gd rfl) rfl rfl ?_
                          refine g_getI 25 (gd rfl) rfl rfl rfl (fun z23x3x22 e23x3x22 => ?_)
                          have q23x3x22 : (Int32.ofInt 1) = z23x3x22 := (sF_get).trans e23x3x22.symm
                          subst q23x3x22
                          refine g_if_le 28 32 (gd rfl) rfl rfl (fun c23x3x25 => ?_) (fun c23x3x25 => ?_)
                          · skip
                            exact zn_le c23x3x25 (in_c 1 rfl) rfl
                          · skip
                            refine g_iconst 1 29 (gd rfl) rfl rfl ?_
                            refine g_goto 33 (gd rfl) rfl ?_
                            refine g_ireturn (gd rfl) rfl (nb01 (in_w 0 1 (in_c 1 rfl) rfl)) (hp23x3 _ _ ?_)
                            show GG _ _ _ _ _ _ _ _ [.int (Int32.ofInt 1)] _ _ _
                            refine g_ireturn (gd rfl) rfl (nb01 (in_w 0 1 (in_c 1 rfl) rfl)) (hp23 _ _ ?_)
                            show GG _ _ _ _ _ _ _ _ [.int (Int32.ofInt 1)] _ _ _
                            refine g_if_eq 29 31 (gd rfl) rfl rfl (fun c26 => ?_) (fun c26 => ?_)
                            · skip
                              exact zn_eq c26 (in_c 1 rfl) rfl
                            · skip
                              refine g_iconst 0 30 (gd rfl) rfl rfl ?_
                              exact g_ireturn (gd rfl) rfl (nb01 (in_w 0 1 (in_c 0 rfl) rfl)) (hP _ _ ⟨(sF s 109 0 (Int32.ofInt 1)), hI23x3x18, (fr_sF rfl fr_rf), (Int32.ofInt 0), rfl, rfl, in_w 0 1 (in_c 0 rfl) rfl⟩)
                      · skip
                        exact zn_ne c15 (in_c 0 rfl) rfl
                    · skip
                      have i12x9 := r_lt1 0 31 c12x9 i12x1 i4x2x9a rfl
                      refine g_iconst 1 13 (gd rfl) rfl rfl ?_
                      refine g_goto 17 (gd rfl) rfl ?_
                      refine g_ireturn (gd rfl) rfl (nb01 (in_w 0 1 (in_c 1 rfl) rfl)) (hp12 _ _ ?_)
                      show GG _ _ _ _ _ _ _ _ [.int (Int32.ofInt 1), .ref (A 109)] _ _ _
                      refine g_if_eq 18 22 (gd rfl) rfl rfl (fun c15 => ?_) (fun c15 => ?_)
                      · skip
                        exact zn_eq c15 (in_c 1 rfl) rfl
                      · skip
                        refine g_iconst 1 19 (gd rfl) rfl rfl ?_
                        refine g_goto 23 (gd rfl) rfl ?_
                        refine g_callv (X := _) (As := [.int (Int32.ofInt 1)]) (r := []) (b := A 109) (q := 109) 26 (gd rfl) rfl rfl rfl rfl rfl (ww_o rfl) (Nat.le_of_ble_eq_true rfl) (mc := 0) (ms := 0) (Nat.zero_le _) (Nat.zero_le _) (P := fun v u => _) ?_ (fun e u h => h) (fun v u h => h)
                        intro po23 xx23 hp23 hx23
                        refine g_enter2 (k := 271) (N := 300) (by first | exact dq1 hd rfl | exact dq0 hd rfl | exact dq2 hd rfl | exact dq3 hd rfl | omega) rfl (Nat.le_of_ble_eq_true rfl) ?_
                        refine g_aload_n 1 (gd rfl) rfl rfl ?_
                        refine g_iload_n 2 (gd rfl) rfl rfl ?_
                        refine g_iconst 1 3 (gd rfl) rfl rfl ?_
                        refine g_callv (X := _) (As := [.int (Int32.ofInt 1), .int (Int32.ofInt 1)]) (r := []) (b := A 109) (q := 109) 6 (gd rfl) rfl rfl rfl rfl rfl (ww_o rfl) (Nat.le_of_ble_eq_true rfl) (mc := 0) (ms := 0) (Nat.zero_le _) (Nat.zero_le _) (P := fun v u => _) ?_ (fun e u h => h) (fun v u h => h)
                        intro po23x3 xx23x3 hp23x3 hx23x3
                        refine g_enter2 (k := 270) (N := 300) (by first | exact dq1 hd rfl | exact dq0 hd rfl | exact dq2 hd rfl | exact dq3 hd rfl | omega) rfl (Nat.le_of_ble_eq_true rfl) ?_
                        refine g_aload_n 1 (gd rfl) rfl rfl ?_
                        refine g_iload_n 2 (gd rfl) rfl rfl ?_
                        refine g_if_ne 5 9 (gd rfl) rfl rfl (fun c23x3x2 => ?_) (fun c23x3x2 => ?_)
                        · skip
                          refine g_iload_n 10 (gd rfl) rfl rfl ?_
                          refine g_if_ne 13 17 (gd rfl) rfl rfl (fun c23x3x10 => ?_) (fun c23x3x10 => ?_)
                          · skip
                            refine g_iconst 0 18 (gd rfl) rfl rfl ?_
                            refine g_putI 21 (gd rfl) rfl rfl rfl rfl ?_
                            have hI23x3x18 := inv_sF (q := 109) (j := 0) hI rfl (in_w 0 2 (in_c 0 rfl) rfl)
                            refine g_aload_n 22 (gd rfl) rfl rfl ?_
                            refine g_getI 25 (gd rfl) rfl rfl rfl (fun z23x3x22 e23x3x22 => ?_)
                            have q23x3x22 : (Int32.ofInt 0) = z23x3x22 := (sF_get).trans e23x3x22.symm
                            subst q23x3x22
                            refine g_if_le 28 32 (gd rfl) rfl rfl (fun c23x3x25 => ?_) (fun c23x3x25 => ?_)
                            · skip
                              refine g_iconst 0 33 (gd rfl) rfl rfl ?_
                              refine g_ireturn (gd rfl) rfl (nb01 (in_w 0 1 (in_c 0 rfl) rfl)) (hp23x3 _ _ ?_)
                              show GG _ _ _ _ _ _ _ _ [.int (Int32.ofInt 0)] _ _ _
                              refine g_ireturn (gd rfl) rfl (nb01 (in_w 0 1 (in_c 0 rfl) rfl)) (hp23 _ _ ?_)
                              show GG _ _ _ _ _ _ _ _ [.int (Int32.ofInt 0)] _ _ _
                              refine g_if_eq 29 31 (gd rfl) rfl rfl (fun c26 => ?_) (fun c26 => ?_)
                              · skip
                                refine g_aload_n 32 (gd rfl) rfl rfl ?_
                                refine g_iload_n 33 (gd rfl) rfl rfl ?_
                                refine g_iload_n 34 (gd rfl) rfl rfl ?_
                                have p34 : (x2).toInt < ((sF s 109 0 (Int32.ofInt 0)).2.2.1 109 20).toInt ∧ (x1).toInt ≠ (x2).toInt := by exact ⟨by rw [← (show u_109_20 = (sF s 109 0 (Int32.ofInt 0)).2.2.1 109 20 from sF_ne rfl (e_109_20))]; have a0 := oa5 i12x9 i4x10x9 i4x2x9 i4x2x9a ((in_c 0 rfl)); omega, by have a0 := oa5 i12x9 i4x10x9 i4x2x9 i4x2x9a ((in_c 0 rfl)); omega⟩
                                refine g_callv (X := _) (As := [.int x1, .int x2]) (r := []) (b := A 109) (q := 109) 37 (gd rfl) rfl rfl rfl rfl rfl (ww_o rfl) (Nat.le_of_ble_eq_true rfl) (Nat.zero_le _) (Nat.zero_le _) (k_352 (by first | exact dq1 hd rfl | exact dq0 hd rfl | exact dq2 hd rfl | exact dq3 hd rfl | omega) hI23x3x18 (in_w 0 31 i4x2x9 rfl) (in_w 0 31 i4x10x9 rfl) p34) (fun e u h => h) (fun v u h => ?_)
                                obtain ⟨s34, hI34, hF34, z34, rfl, rfl⟩ := h
                                show GG _ _ _ _ _ _ _ _ [.long z34] _ _ _
                                refine g_lstore 39 (gd rfl) rfl (Nat.le_of_ble_eq_true rfl) ?_
                                refine g_aload_n 40 (gd rfl) rfl rfl ?_
                                refine g_getA (q2 := 148) 43 (gd rfl) rfl rfl rfl rfl ?_
                                refine g_iload_n 44 (gd rfl) rfl rfl ?_
                                refine g_iaload 45 (gd rfl) rfl (n := 34) rfl (in_ix i12x9 rfl) (fun z44 e44 => ?_)
                                have i44 := inv_I hI34 (n := 34) (t := 0) (-1) 1000 rfl (in_ix i12x9 rfl) rfl e44
                                refine g_if_lt 48 52 (gd rfl) rfl rfl (fun c45 => ?_) (fun c45 => ?_)
                                · skip
                                  have i45 := z_lt (-1) (-1) c45 i44 rfl
                                  refine g_iconst 0 53 (gd rfl) rfl rfl ?_
                                  exact g_ireturn (gd rfl) rfl (nb01 (in_w 0 1 (in_c 0 rfl) rfl)) (hP _ _ ⟨s34, hI34, (fr_tr rfl (fr_sF rfl fr_rf) hF34), (Int32.ofInt 0), rfl, rfl, in_w 0 1 (in_c 0 rfl) rfl⟩)
                                · skip
                                  have i45 := z_ge 0 1000 c45 i44 rfl
                                  refine g_iconst 1 49 (gd rfl) rfl rfl ?_
                                  refine g_goto 53 (gd rfl) rfl ?_
                                  exact g_ireturn (gd rfl) rfl (nb01 (in_w 0 1 (in_c 1 rfl) rfl)) (hP _ _ ⟨s34, hI34, (fr_tr rfl (fr_sF rfl fr_rf) hF34), (Int32.ofInt 1), rfl, rfl, in_w 0 1 (in_c 1 rfl) rfl⟩)
                              · skip
                                exact zn_ne c26 (in_c 0 rfl) rfl
                            · skip
                              exact zn_gt c23x3x25 (in_c 0 rfl) rfl
                          · skip
                            exact zn_eq c23x3x10 (in_c 1 rfl) rfl
                        · skip
                          exact zn_eq c23x3x2 (in_c 1 rfl) rfl
end
section
/-! methods, by vc.py -/
def fm_358 : FM := ([148], [147, 149, 150], [], [])
/-- GraphHouseModel.sends -/
theorem k_358 {Z : AmZ} {A : Nat → Nat} {s : GS} {ex : va_W} {d : Nat} {X : AmX} {x1 : Int32} (hd : 2 ≤ d) (hI : Inv s) (h1 : In x1 0 31) (q_0 : CO s) (q_1 : SU s) (q_2 : (x1).toInt < (s.2.2.1 109 20).toInt ∧ 0 < (s.2.1 150 (x1).toNatClampNeg).toInt) : GC Z d 358 [.ref (A 109), .int x1] (WW Z A s ++ ex) 0 0 (fun v u => ∃ t : GS, Inv t ∧ Fr fm_358 s t ∧ ∃ z : Int32, v = some (.int z) ∧ u = WW Z A t ++ ex ∧ In z 0 1 ∧ (CO t) ∧ (SU t) ∧ (((z).toInt ≠ 0 → (t.2.1 150 (x1).toNatClampNeg).toInt < (s.2.1 150 (x1).toNatClampNeg).toInt ∧ 0 ≤ (t.2.1 150 (x1).toNatClampNeg).toInt) ∧ ((z).toInt = 0 → t.2.1 150 = s.2.1 150))) X := by
  intro post xp hP hX
  obtain ⟨u_109_20, e_109_20⟩ : ∃ w, w = s.2.2.1 109 20 := ⟨_, rfl⟩
  have ro_109_20 := inv_F hI 0 32 rfl e_109_20
  have ct158 : ∀ (k158 : Nat) (sc158 : GS) (y158_2 : Int32) (y158_3 : Int64) (y158_5 : Int32), Inv sc158 → Fr fm_358 s sc158 → (In y158_2 0 31) → (In y158_5 0 31) → (PL sc158 (x1).toInt (y158_3).toInt (y158_2).toNatClampNeg (y158_5).toNatClampNeg) → (sc158.2.1 150 = s.2.1 150) → (MO s (x1).toNatClampNeg (y158_2).toNatClampNeg (y158_3).toInt) → ((((y158_2).toNatClampNeg : Nat) : Int) ≠ (x1).toInt) → ((y158_2).toInt < (s.2.2.1 109 20).toInt) → rkb sc158.1 sc158.2.2.1 (x1).toInt (y158_5).toNatClampNeg < k158 → GG Z (d - 1) 358 post (gx xp) (1 + k158 * 900) 158 (fun j => xlook j [(0, .ref (A 109)), (1, .int x1), (2, .int y158_2), (3, .long y158_3), (5, .int y158_5)]) [] (WW Z A sc158 ++ ex) 0 0 := by
    intro k158
    induction k158 with
    | zero => intro sc158 y158_2 y158_3 y158_5 hIc158 hFc158 j158_2 j158_5 g158_0 g158_1 g158_2 g158_3 g158_4 mm158; exact absurd mm158 (Nat.not_lt_zero _)
    | succ k158 ih158 =>
      intro sc158 y158_2 y158_3 y158_5 hIc158 hFc158 j158_2 j158_5 g158_0 g158_1 g158_2 g158_3 g158_4 mm158
      refine gg_w (M := 1 + k158 * 900 + 900) gws ?_
      refine g_iload 160 (gd rfl) rfl rfl ?_
      refine g_iload_n 161 (gd rfl) rfl rfl ?_
      refine g_cmp_eq 164 186 (gd rfl) rfl rfl (fun c161 => ?_) (fun c161 => ?_)
      · skip
        refine g_aload_n 187 (gd rfl) rfl rfl ?_
        refine g_getA (q2 := 150) 190 (gd rfl) rfl rfl rfl rfl ?_
        refine g_iload_n 191 (gd rfl) rfl rfl ?_
        refine g_dup2 192 (gd rfl) rfl rfl rfl ?_
        refine g_laload 193 (gd rfl) rfl (n := 32) rfl (in_ix h1 rfl) (fun z192 e192 => ?_)
        refine g_lload_n 194 (gd rfl) rfl rfl ?_
        refine g_lsub 195 (gd rfl) rfl (fun z194 e194 => ?_)
        refine g_lastore 196 (gd rfl) rfl (n := 32) rfl (in_ix h1 rfl) ?_
        have hI195 := inv_sL (q := 150) (j := x1.toNatClampNeg) (x := z194) hIc158 rfl (l_rng z194)
        refine g_aload_n 197 (gd rfl) rfl rfl ?_
        refine g_getA (q2 := 150) 200 (gd rfl) rfl rfl rfl rfl ?_
        refine g_iload_n 201 (gd rfl) rfl rfl ?_
        refine g_dup2 202 (gd rfl) rfl rfl rfl ?_
        refine g_laload 203 (gd rfl) rfl (n := 32) rfl (in_ix j158_2 rfl) (fun z202 e202 => ?_)
        refine g_lload_n 204 (gd rfl) rfl rfl ?_
        refine g_ladd 205 (gd rfl) rfl (fun z204 e204 => ?_)
        refine g_lastore 206 (gd rfl) rfl (n := 32) rfl (in_ix j158_2 rfl) ?_
        have hI205 := inv_sL (q := 150) (j := y158_2.toNatClampNeg) (x := z204) hI195 rfl (l_rng z204)
        refine g_iconst 1 207 (gd rfl) rfl rfl ?_
        have n207 : CO (sL (sL sc158 150 x1.toNatClampNeg z194) 150 y158_2.toNatClampNeg z204) := by first | exact g9_1 | exact co_cg (pl_e g158_0 (by show ((y158_5.toInt.toNat : Nat) : Int) = _; have a0 := oa4 h1 ro_109_20 j158_5 j158_2; omega)) ⟨rfl, rfl, rfl, rfl, rfl, by simp [sL], rfl, rfl⟩
        have n207a : SU (sL (sL sc158 150 x1.toNatClampNeg z194) 150 y158_2.toNatClampNeg z204) := by first | (intro v hv hvn; rw [g9_2]; rw [hFc9.2.2.1 109 20 rfl] at hvn; exact q_1 v hv hvn) | exact (su_t (T := (sL (sL sc158 150 x1.toNatClampNeg z194) 150 y158_2.toNatClampNeg z204)) (m := y158_3) q_1 (nat_in h1 q_2.1).1 (nat_in h1 q_2.1).2 (nat_in j158_2 g158_4).1 (nat_in j158_2 g158_4).2 (fun e => g158_3 (by rw [e]; show ((x1.toInt.toNat : Nat) : Int) = _; have a0 := oa4 h1 ro_109_20 j158_5 j158_2; omega)) g158_2 (by rw [← g158_1]; exact e192) e194 (by rw [e202, show (sL sc158 150 x1.toNatClampNeg z194).2.1 150 = vp_updL (sc158.2.1 150) x1.toNatClampNeg z194 from (by simp [sL]), g158_1]) e204 (by rw [show ((sL (sL sc158 150 x1.toNatClampNeg z194) 150 y158_2.toNatClampNeg z204)).2.1 150 = vp_updL (vp_updL (sc158.2.1 150) x1.toNatClampNeg z194) y158_2.toNatClampNeg z204 from (by simp [sL]), g158_1]) (hFc158.2.2.1 109 20 rfl)).1
        have n207b : (((Int32.ofInt 1)).toInt ≠ 0 → ((sL (sL sc158 150 x1.toNatClampNeg z194) 150 y158_2.toNatClampNeg z204).2.1 150 (x1).toNatClampNeg).toInt < (s.2.1 150 (x1).toNatClampNeg).toInt ∧ 0 ≤ ((sL (sL sc158 150 x1.toNatClampNeg z194) 150 y158_2.toNatClampNeg z204).2.1 150 (x1).toNatClampNeg).toInt) ∧ (((Int32.ofInt 1)).toInt = 0 → (sL (sL sc158 150 x1.toNatClampNeg z194) 150 y158_2.toNatClampNeg z204).2.1 150 = s.2.1 150) := by first | exact ⟨fun hz => absurd (by decide) hz, fun _ => g9_2⟩ | exact ⟨fun _ => (su_t (T := (sL (sL sc158 150 x1.toNatClampNeg z194) 150 y158_2.toNatClampNeg z204)) (m := y158_3) q_1 (nat_in h1 q_2.1).1 (nat_in h1 q_2.1).2 (nat_in j158_2 g158_4).1 (nat_in j158_2 g158_4).2 (fun e => g158_3 (by rw [e]; show ((x1.toInt.toNat : Nat) : Int) = _; have a0 := oa4 h1 ro_109_20 j158_5 j158_2; omega)) g158_2 (by rw [← g158_1]; exact e192) e194 (by rw [e202, show (sL sc158 150 x1.toNatClampNeg z194).2.1 150 = vp_updL (sc158.2.1 150) x1.toNatClampNeg z194 from (by simp [sL]), g158_1]) e204 (by rw [show ((sL (sL sc158 150 x1.toNatClampNeg z194) 150 y158_2.toNatClampNeg z204)).2.1 150 = vp_updL (vp_updL (sc158.2.1 150) x1.toNatClampNeg z194) y158_2.toNatClampNeg z204 from (by simp [sL]), g158_1]) (hFc158.2.2.1 109 20 rfl)).2, fun hz => absurd hz (by decide)⟩
        exact g_ireturn (gd rfl) rfl (nb01 (in_w 0 1 (in_c 1 rfl) rfl)) (hP _ _ ⟨(sL (sL sc158 150 x1.toNatClampNeg z194) 150 y158_2.toNatClampNeg z204), hI205, (fr_sL rfl (fr_sL rfl hFc158)), (Int32.ofInt 1), rfl, rfl, in_w 0 1 (in_c 1 rfl) rfl, n207, n207a, n207b⟩)
      · skip
        have hx158 : ((y158_5.toNatClampNeg : Nat) : Int) ≠ x1.toInt := (by show ((y158_5.toInt.toNat : Nat) : Int) ≠ _; have a0 := oa4 h1 ro_109_20 j158_5 j158_2; omega)
        have hpi := pl_i g158_0 hx158
        refine g_aload_n 165 (gd rfl) rfl rfl ?_
        refine g_iload 167 (gd rfl) rfl rfl ?_
        have p167 : BE sc158 (y158_5).toNatClampNeg := by exact hpi.1
        refine g_callv (X := _) (As := [.int y158_5]) (r := []) (b := A 109) (q := 109) 170 (gd rfl) rfl rfl rfl rfl rfl (ww_o rfl) (Nat.le_of_ble_eq_true rfl) (Nat.zero_le _) (Nat.zero_le _) (k_349 (by first | exact dq1 hd rfl | exact dq0 hd rfl | exact dq2 hd rfl | exact dq3 hd rfl | omega) hIc158 (in_w 0 31 j158_5 rfl) p167) (fun e u h => h) (fun v u h => ?_)
        obtain ⟨z167, rfl, rfl, i167, p167a⟩ := h
        show GG _ _ _ _ _ _ _ _ [.int z167] _ _ _
        refine g_istore 172 (gd rfl) rfl (Nat.le_of_ble_eq_true rfl) ?_
        refine g_aload_n 173 (gd rfl) rfl rfl ?_
        refine g_iload 175 (gd rfl) rfl rfl ?_
        refine g_lload_n 176 (gd rfl) rfl rfl ?_
        have p176 : BE sc158 (y158_5).toNatClampNeg := by exact hpi.1
        refine g_callv (X := _) (As := [.int y158_5, .long y158_3]) (r := []) (b := A 109) (q := 109) 179 (gd rfl) rfl rfl rfl rfl rfl (ww_o rfl) (Nat.le_of_ble_eq_true rfl) (Nat.zero_le _) (Nat.zero_le _) (k_351 (by first | exact dq1 hd rfl | exact dq0 hd rfl | exact dq2 hd rfl | exact dq3 hd rfl | omega) hIc158 (in_w 0 31 j158_5 rfl) p176) (fun e u h => h) (fun v u h => ?_)
        obtain ⟨s176, hI176, hF176, rfl, rfl, p176a⟩ := h
        show GG _ _ _ _ _ _ _ _ [] _ _ _
        refine g_iload 181 (gd rfl) rfl rfl ?_
        refine g_istore 183 (gd rfl) rfl (Nat.le_of_ble_eq_true rfl) ?_
        refine g_goto 158 (gd rfl) rfl ?_
        have n158 : PL s176 (x1).toInt (y158_3).toInt (y158_2).toNatClampNeg (z167).toNatClampNeg := by first | exact pl_s g158_0 hx158 g158_2.1 (by have h := g158_2.2.2.2; omega) p176a p167a (funext fun q => hF176.1 q rfl) (funext fun q => funext fun k => hF176.2.2.1 q k rfl) | (obtain ⟨k, hk1, hk2⟩ := g116_4; exact pl_0 hI176 g116_0 g116_1.1 hk2 hk1 (by show ((y116_5.toInt.toNat : Nat) : Int) = _; have a0 := oa5 h1 ro_109_20 j158_5 j158_2 i167; omega) g116_3.2 g116_3.1)
        have n158a : s176.2.1 150 = s.2.1 150 := by first | exact (hF176.2.1 150 rfl).trans g158_1 | exact g116_2
        have n158b : MO s (x1).toNatClampNeg (y158_2).toNatClampNeg (y158_3).toInt := by first | exact g158_2 | exact g116_6
        have n158c : (((y158_2).toNatClampNeg : Nat) : Int) ≠ (x1).toInt := by first | exact g158_3 | exact g116_3.2
        have n158d : (y158_2).toInt < (s.2.2.1 109 20).toInt := by first | exact g158_4 | (first | exact g158_4 | (have h := g116_3.1.2.1; rw [hFc116.2.2.1 109 20 rfl] at h; have e : ((y116_2.toNatClampNeg : Nat) : Int) = y116_2.toInt := (by show ((y116_2.toInt.toNat : Nat) : Int) = _; have a0 := oa5 h1 ro_109_20 j158_5 j158_2 i167; omega); rw [← e]; exact h))
        have m158 : rkb s176.1 s176.2.2.1 (x1).toInt (z167).toNatClampNeg < k158 := by rw [p167a, show (s176).1 = sc158.1 from (funext fun q => hF176.1 q rfl), show (s176).2.2.1 = sc158.2.2.1 from (funext fun q => funext fun k => hF176.2.2.1 q k rfl)]; have hl := hpi.2; have hm := mm158; omega
        exact gg_w (by first | exact Nat.le_add_right _ _ | exact gw2 | exact gw3 | exact gwe rfl | exact gwf rfl | exact gwg rfl | exact gwh rfl | omega) (gg_f (gf_cons rfl (gf_cons rfl (gf_cons rfl (gf_cons rfl (gf_cons rfl gf_nil))))) (ih158  s176 y158_2 y158_3 z167 hI176 (fr_tr rfl hFc158 hF176) (in_w 0 31 j158_2 rfl) (in_w 0 31 i167 rfl) n158 n158a n158b n158c n158d m158))
  have ct116 : ∀ (k116 : Nat) (sc116 : GS) (y116_2 : Int32) (y116_3 : Int64) (y116_5 : Int32), Inv sc116 → Fr fm_358 s sc116 → (In y116_2 0 31) → (In y116_5 0 31) → (CHE sc116 (x1).toInt) → (CO sc116) → (sc116.2.1 150 = s.2.1 150) → (ND sc116 (y116_2).toNatClampNeg ∧ (((y116_2).toNatClampNeg : Nat) : Int) ≠ (x1).toInt) → (∃ k, (y116_5).toNatClampNeg = it sc116 (y116_2).toNatClampNeg k ∧ WY sc116 (x1).toInt (y116_3).toInt (y116_2).toNatClampNeg k) → (ND sc116 (y116_5).toNatClampNeg) → (MO s (x1).toNatClampNeg (y116_2).toNatClampNeg (y116_3).toInt) → rkb sc116.1 sc116.2.2.1 (x1).toInt (y116_5).toNatClampNeg < k116 → GG Z (d - 1) 358 post (gx xp) (28802 + k116 * 900) 116 (fun j => xlook j [(0, .ref (A 109)), (1, .int x1), (2, .int y116_2), (3, .long y116_3), (5, .int y116_5)]) [] (WW Z A sc116 ++ ex) 0 0 := by
    intro k116
    induction k116 with
    | zero => intro sc116 y116_2 y116_3 y116_5 hIc116 hFc116 j116_2 j116_5 g116_0 g116_1 g116_2 g116_3 g116_4 g116_5 g116_6 mm116; exact absurd mm116 (Nat.not_lt_zero _)
    | succ k116 ih116 =>
      intro sc116 y116_2 y116_3 y116_5 hIc116 hFc116 j116_2 j116_5 g116_0 g116_1 g116_2 g116_3 g116_4 g116_5 g116_6 mm116
      refine gg_w (M := 28802 + k116 * 900 + 900) gws ?_
      refine g_iload 118 (gd rfl) rfl rfl ?_
      refine g_iload_n 119 (gd rfl) rfl rfl ?_
      refine g_cmp_eq 122 155 (gd rfl) rfl rfl (fun c119 => ?_) (fun c119 => ?_)
      · skip
        refine g_iload_n 156 (gd rfl) rfl rfl ?_
        refine g_istore 158 (gd rfl) rfl (Nat.le_of_ble_eq_true rfl) ?_
        have n158 : PL sc116 (x1).toInt (y116_3).toInt (y116_2).toNatClampNeg (y116_2).toNatClampNeg := by first | exact pl_s g158_0 hx158 g158_2.1 (by have h := g158_2.2.2.2; omega) p176a p167a (funext fun q => hF176.1 q rfl) (funext fun q => funext fun k => hF176.2.2.1 q k rfl) | (obtain ⟨k, hk1, hk2⟩ := g116_4; exact pl_0 hIc116 g116_0 g116_1.1 hk2 hk1 (by show ((y116_5.toInt.toNat : Nat) : Int) = _; have a0 := oa4 h1 ro_109_20 j116_5 j116_2; omega) g116_3.2 g116_3.1)
        have n158a : sc116.2.1 150 = s.2.1 150 := by first | exact (hF176.2.1 150 rfl).trans g158_1 | exact g116_2
        have n158b : MO s (x1).toNatClampNeg (y116_2).toNatClampNeg (y116_3).toInt := by first | exact g158_2 | exact g116_6
        have n158c : (((y116_2).toNatClampNeg : Nat) : Int) ≠ (x1).toInt := by first | exact g158_3 | exact g116_3.2
        have n158d : (y116_2).toInt < (s.2.2.1 109 20).toInt := by first | exact g158_4 | (have h := g116_3.1.2.1; rw [hFc116.2.2.1 109 20 rfl] at h; have e : ((y116_2.toNatClampNeg : Nat) : Int) = y116_2.toInt := (by show ((y116_2.toInt.toNat : Nat) : Int) = _; have a0 := oa4 h1 ro_109_20 j116_5 j116_2; omega); rw [← e]; exact h)
        have m158 : rkb sc116.1 sc116.2.2.1 (x1).toInt (y116_2).toNatClampNeg < 32 := by exact (br_ok hIc116 g116_0.1).1 _ g116_3.1.1 g116_3.1.2.2
        exact gg_w (by first | exact Nat.le_add_right _ _ | exact gw2 | exact gw3 | exact gwe rfl | exact gwf rfl | exact gwg rfl | exact gwh rfl | omega) (gg_f (gf_cons rfl (gf_cons rfl (gf_cons rfl (gf_cons rfl (gf_cons rfl gf_nil))))) (ct158 (32) sc116 y116_2 y116_3 y116_2 hIc116 hFc116 (in_w 0 31 j116_2 rfl) (in_w 0 31 j116_2 rfl) n158 n158a n158b n158c n158d m158))
      · skip
        have hx116 : ((y116_5.toNatClampNeg : Nat) : Int) ≠ x1.toInt := (by show ((y116_5.toInt.toNat : Nat) : Int) ≠ _; have a0 := oa4 h1 ro_109_20 j116_5 j116_2; omega)
        have hev := ev_bf hIc116 (rkf_ok g116_0.1) g116_5 hx116
        have hfo := fb_fo hIc116 g116_1.1 hev.2.2.2.2.1 hev.2.2.2.2.2.1
        refine g_aload_n 123 (gd rfl) rfl rfl ?_
        refine g_iload 125 (gd rfl) rfl rfl ?_
        have p125 : BE sc116 (y116_5).toNatClampNeg := by exact hev.1
        refine g_callv (X := _) (As := [.int y116_5]) (r := []) (b := A 109) (q := 109) 128 (gd rfl) rfl rfl rfl rfl rfl (ww_o rfl) (Nat.le_of_ble_eq_true rfl) (Nat.zero_le _) (Nat.zero_le _) (k_350 (by first | exact dq1 hd rfl | exact dq0 hd rfl | exact dq2 hd rfl | exact dq3 hd rfl | omega) hIc116 (in_w 0 31 j116_5 rfl) p125) (fun e u h => h) (fun v u h => ?_)
        obtain ⟨z125, rfl, rfl, p125a⟩ := h
        show GG _ _ _ _ _ _ _ _ [.long z125] _ _ _
        have hz125 := p125a hfo
        refine g_lload_n 129 (gd rfl) rfl rfl ?_
        refine g_lcmp 130 (gd rfl) rfl (fun z129 e129 => ?_)
        have i129 := lc_in e129
        refine g_if_ge 133 142 (gd rfl) rfl rfl (fun c130 => ?_) (fun c130 => ?_)
        · skip
          have i130 := z_ge 0 1 c130 i129 rfl
          have c130a := lc_ge e129 c130
          refine g_lload_n 143 (gd rfl) rfl rfl ?_
          refine g_lstore_n 144 (gd rfl) rfl (Nat.le_of_ble_eq_true rfl) ?_
          refine g_aload_n 145 (gd rfl) rfl rfl ?_
          refine g_iload 147 (gd rfl) rfl rfl ?_
          have p147 : BE sc116 (y116_5).toNatClampNeg := by exact hev.1
          refine g_callv (X := _) (As := [.int y116_5]) (r := []) (b := A 109) (q := 109) 150 (gd rfl) rfl rfl rfl rfl rfl (ww_o rfl) (Nat.le_of_ble_eq_true rfl) (Nat.zero_le _) (Nat.zero_le _) (k_349 (by first | exact dq1 hd rfl | exact dq0 hd rfl | exact dq2 hd rfl | exact dq3 hd rfl | omega) hIc116 (in_w 0 31 j116_5 rfl) p147) (fun e u h => h) (fun v u h => ?_)
          obtain ⟨z147, rfl, rfl, i147, p147a⟩ := h
          show GG _ _ _ _ _ _ _ _ [.int z147] _ _ _
          refine g_istore 152 (gd rfl) rfl (Nat.le_of_ble_eq_true rfl) ?_
          refine g_goto 116 (gd rfl) rfl ?_
          have n116 : CHE sc116 (x1).toInt := by first | exact g116_0 | exact g9_0
          have n116a : CO sc116 := by first | exact g116_1 | exact g9_1
          have n116b : sc116.2.1 150 = s.2.1 150 := by first | exact g116_2 | exact g9_2
          have n116c : ND sc116 (y116_2).toNatClampNeg ∧ (((y116_2).toNatClampNeg : Nat) : Int) ≠ (x1).toInt := by first | exact g116_3 | (first | exact g116_3 | (rcases g9_3 with hk | ⟨k1, k2, k3⟩; (exfalso; have a0 := oa5 h1 ro_109_20 j116_5 j116_2 i147; omega); exact gd_i g9_0 j116_2 h1 k1 k2 k3 g9_2 q_2.2))
          have n116d : ∃ k, (z147).toNatClampNeg = it sc116 (y116_2).toNatClampNeg k ∧ WY sc116 (x1).toInt (y116_3).toInt (y116_2).toNatClampNeg k := by first | (obtain ⟨k, hk1, hk2⟩ := g116_4; exact ⟨k + 1, by rw [p147a, hk1]; rfl, wy_s hk2 (by rw [← hk1]; exact hx116) (by rw [← hk1]; exact g116_5) (by omega) (by rw [← hk1]; omega)⟩) | exact ⟨0, rfl, fun j hj => absurd hj (Nat.not_lt_zero _)⟩
          have n116e : ND sc116 (z147).toNatClampNeg := by first | (rw [p147a]; exact hev.2.1) | (rcases g9_3 with hk | ⟨k1, k2, k3⟩; (exfalso; have a0 := oa5 h1 ro_109_20 j116_5 j116_2 i147; omega); exact (gd_i g9_0 j116_2 h1 k1 k2 k3 g9_2 q_2.2).1)
          have n116f : MO s (x1).toNatClampNeg (y116_2).toNatClampNeg (y116_3).toInt := by first | exact g116_6 | (first | (have hr1 := hev.2.2.2.1; have hq := g116_6; unfold MO at hq ⊢; exact ⟨by omega, by omega, by omega, by omega⟩) | (rcases g9_3 with hk | ⟨k1, k2, k3⟩; (exfalso; have a0 := oa5 h1 ro_109_20 j116_5 j116_2 i147; omega); (rw [hFc9.2.2.1 109 20 rfl] at k1; rw [g9_2] at k2; first | exact mo_1 q_1 h1 j116_2 q_2.1 k1 q_2.2 (by rw [← g9_2]; exact e84) (by rw [← g9_2]; exact e90) e91 (by rw [← g9_2]; exact e101) c93a | exact mo_2 q_1 h1 j116_2 q_2.1 k1 k2 (by rw [← g9_2]; exact e84) (by rw [← g9_2]; exact e90) e91 (by rw [← g9_2]; exact e110) e111 c93a)))
          have m116 : rkb sc116.1 sc116.2.2.1 (x1).toInt (z147).toNatClampNeg < k116 := by rw [p147a]; have hl := (br_ok hIc116 g116_0.1).2 _ g116_5 hx116; have hm := mm116; omega
          exact gg_w (by first | exact Nat.le_add_right _ _ | exact gw2 | exact gw3 | exact gwe rfl | exact gwf rfl | exact gwg rfl | exact gwh rfl | omega) (gg_f (gf_cons rfl (gf_cons rfl (gf_cons rfl (gf_cons rfl (gf_cons rfl gf_nil))))) (ih116  sc116 y116_2 y116_3 z147 hIc116 hFc116 (in_w 0 31 j116_2 rfl) (in_w 0 31 i147 rfl) n116 n116a n116b n116c n116d n116e n116f m116))
        · skip
          have i130 := z_lt (-1) (-1) c130 i129 rfl
          have c130a := lc_lt e129 c130
          have i130a := lr_lt1 (-9223372036854775808) 9223372036854775806 c130a (l_rng z125) (l_rng y116_3) rfl
          have i130b := lr_lt2 (-9223372036854775807) 9223372036854775807 c130a (l_rng z125) (l_rng y116_3) rfl
          refine g_aload_n 134 (gd rfl) rfl rfl ?_
          refine g_iload 136 (gd rfl) rfl rfl ?_
          have p136 : BE sc116 (y116_5).toNatClampNeg := by exact hev.1
          refine g_callv (X := _) (As := [.int y116_5]) (r := []) (b := A 109) (q := 109) 139 (gd rfl) rfl rfl rfl rfl rfl (ww_o rfl) (Nat.le_of_ble_eq_true rfl) (Nat.zero_le _) (Nat.zero_le _) (k_350 (by first | exact dq1 hd rfl | exact dq0 hd rfl | exact dq2 hd rfl | exact dq3 hd rfl | omega) hIc116 (in_w 0 31 j116_5 rfl) p136) (fun e u h => h) (fun v u h => ?_)
          obtain ⟨z136, rfl, rfl, p136a⟩ := h
          show GG _ _ _ _ _ _ _ _ [.long z136] _ _ _
          have hz136 := p136a hfo
          refine g_goto 143 (gd rfl) rfl ?_
          refine g_lstore_n 144 (gd rfl) rfl (Nat.le_of_ble_eq_true rfl) ?_
          refine g_aload_n 145 (gd rfl) rfl rfl ?_
          refine g_iload 147 (gd rfl) rfl rfl ?_
          have p147 : BE sc116 (y116_5).toNatClampNeg := by exact hev.1
          refine g_callv (X := _) (As := [.int y116_5]) (r := []) (b := A 109) (q := 109) 150 (gd rfl) rfl rfl rfl rfl rfl (ww_o rfl) (Nat.le_of_ble_eq_true rfl) (Nat.zero_le _) (Nat.zero_le _) (k_349 (by first | exact dq1 hd rfl | exact dq0 hd rfl | exact dq2 hd rfl | exact dq3 hd rfl | omega) hIc116 (in_w 0 31 j116_5 rfl) p147) (fun e u h => h) (fun v u h => ?_)
          obtain ⟨z147, rfl, rfl, i147, p147a⟩ := h
          show GG _ _ _ _ _ _ _ _ [.int z147] _ _ _
          refine g_istore 152 (gd rfl) rfl (Nat.le_of_ble_eq_true rfl) ?_
          refine g_goto 116 (gd rfl) rfl ?_
          have n116 : CHE sc116 (x1).toInt := by first | exact g116_0 | exact g9_0
          have n116a : CO sc116 := by first | exact g116_1 | exact g9_1
          have n116b : sc116.2.1 150 = s.2.1 150 := by first | exact g116_2 | exact g9_2
          have n116c : ND sc116 (y116_2).toNatClampNeg ∧ (((y116_2).toNatClampNeg : Nat) : Int) ≠ (x1).toInt := by first | exact g116_3 | (first | exact g116_3 | (rcases g9_3 with hk | ⟨k1, k2, k3⟩; (exfalso; have a0 := oa5 h1 ro_109_20 j116_5 j116_2 i147; omega); exact gd_i g9_0 j116_2 h1 k1 k2 k3 g9_2 q_2.2))
          have n116d : ∃ k, (z147).toNatClampNeg = it sc116 (y116_2).toNatClampNeg k ∧ WY sc116 (x1).toInt (z136).toInt (y116_2).toNatClampNeg k := by first | (obtain ⟨k, hk1, hk2⟩ := g116_4; exact ⟨k + 1, by rw [p147a, hk1]; rfl, wy_s hk2 (by rw [← hk1]; exact hx116) (by rw [← hk1]; exact g116_5) (by omega) (by rw [← hk1]; omega)⟩) | exact ⟨0, rfl, fun j hj => absurd hj (Nat.not_lt_zero _)⟩
          have n116e : ND sc116 (z147).toNatClampNeg := by first | (rw [p147a]; exact hev.2.1) | (rcases g9_3 with hk | ⟨k1, k2, k3⟩; (exfalso; have a0 := oa5 h1 ro_109_20 j116_5 j116_2 i147; omega); exact (gd_i g9_0 j116_2 h1 k1 k2 k3 g9_2 q_2.2).1)
          have n116f : MO s (x1).toNatClampNeg (y116_2).toNatClampNeg (z136).toInt := by first | (have hr1 := hev.2.2.2.1; have hq := g116_6; unfold MO at hq ⊢; exact ⟨by omega, by omega, by omega, by omega⟩) | (rcases g9_3 with hk | ⟨k1, k2, k3⟩; (exfalso; have a0 := oa5 h1 ro_109_20 j116_5 j116_2 i147; omega); (rw [hFc9.2.2.1 109 20 rfl] at k1; rw [g9_2] at k2; first | exact mo_1 q_1 h1 j116_2 q_2.1 k1 q_2.2 (by rw [← g9_2]; exact e84) (by rw [← g9_2]; exact e90) e91 (by rw [← g9_2]; exact e101) c93a | exact mo_2 q_1 h1 j116_2 q_2.1 k1 k2 (by rw [← g9_2]; exact e84) (by rw [← g9_2]; exact e90) e91 (by rw [← g9_2]; exact e110) e111 c93a))
          have m116 : rkb sc116.1 sc116.2.2.1 (x1).toInt (z147).toNatClampNeg < k116 := by rw [p147a]; have hl := (br_ok hIc116 g116_0.1).2 _ g116_5 hx116; have hm := mm116; omega
          exact gg_w (by first | exact Nat.le_add_right _ _ | exact gw2 | exact gw3 | exact gwe rfl | exact gwf rfl | exact gwg rfl | exact gwh rfl | omega) (gg_f (gf_cons rfl (gf_cons rfl (gf_cons rfl (gf_cons rfl (gf_cons rfl gf_nil))))) (ih116  sc116 y116_2 z136 z147 hIc116 hFc116 (in_w 0 31 j116_2 rfl) (in_w 0 31 i147 rfl) n116 n116a n116b n116c n116d n116e n116f m116))
  have ct9 : ∀ (k9 : Nat) (sc9 : GS) (y9_2 : Int32) (y9_3 : Int32), Inv sc9 → Fr fm_358 s sc9 → (In y9_2 (-1) 31) → (In y9_3 0 32) → (CHE sc9 (x1).toInt) → (CO sc9) → (sc9.2.1 150 = s.2.1 150) → ((y9_2).toInt < 0 ∨ ((y9_2).toInt < (sc9.2.2.1 109 20).toInt ∧ (sc9.2.1 150 (y9_2).toNatClampNeg).toInt < 0 ∧ (sc9.2.1 149 (y9_2).toNatClampNeg).toInt < 9000000000000000)) → 32 - (y9_3).toInt < (k9 : Int) → GG Z (d - 1) 358 post (gx xp) (57603 + k9 * 900) 9 (fun j => xlook j [(0, .ref (A 109)), (1, .int x1), (2, .int y9_2), (3, .int y9_3)]) [] (WW Z A sc9 ++ ex) 0 0 := by
    intro k9
    induction k9 with
    | zero => intro sc9 y9_2 y9_3 hIc9 hFc9 j9_2 j9_3 g9_0 g9_1 g9_2 g9_3 mm9; exact m_no mm9 j9_3 rfl
    | succ k9 ih9 =>
      intro sc9 y9_2 y9_3 hIc9 hFc9 j9_2 j9_3 g9_0 g9_1 g9_2 g9_3 mm9
      refine gg_w (M := 57603 + k9 * 900 + 900) gws ?_
      refine g_iload_n 10 (gd rfl) rfl rfl ?_
      refine g_aload_n 11 (gd rfl) rfl rfl ?_
      refine g_getI 14 (gd rfl) rfl rfl rfl (fun z11 e11 => ?_)
      have q11 : u_109_20 = z11 := (fr_F e_109_20 hFc9 rfl).trans e11.symm
      subst q11
      refine g_cmp_ge 17 73 (gd rfl) rfl rfl (fun c14 => ?_) (fun c14 => ?_)
      · skip
        refine g_iload_n 74 (gd rfl) rfl rfl ?_
        refine g_if_ge 77 79 (gd rfl) rfl rfl (fun c74 => ?_) (fun c74 => ?_)
        · skip
          have i74 := z_ge 0 31 c74 j9_2 rfl
          refine g_aload_n 80 (gd rfl) rfl rfl ?_
          refine g_getA (q2 := 150) 83 (gd rfl) rfl rfl rfl rfl ?_
          refine g_iload_n 84 (gd rfl) rfl rfl ?_
          refine g_laload 85 (gd rfl) rfl (n := 32) rfl (in_ix h1 rfl) (fun z84 e84 => ?_)
          refine g_aload_n 86 (gd rfl) rfl rfl ?_
          refine g_getA (q2 := 150) 89 (gd rfl) rfl rfl rfl rfl ?_
          refine g_iload_n 90 (gd rfl) rfl rfl ?_
          refine g_laload 91 (gd rfl) rfl (n := 32) rfl (in_ix i74 rfl) (fun z90 e90 => ?_)
          refine g_lneg 92 (gd rfl) rfl (fun z91 e91 => ?_)
          refine g_lcmp 93 (gd rfl) rfl (fun z92 e92 => ?_)
          have i92 := lc_in e92
          refine g_if_ge 96 105 (gd rfl) rfl rfl (fun c93 => ?_) (fun c93 => ?_)
          · skip
            have i93 := z_ge 0 1 c93 i92 rfl
            have c93a := lc_ge e92 c93
            refine g_aload_n 106 (gd rfl) rfl rfl ?_
            refine g_getA (q2 := 150) 109 (gd rfl) rfl rfl rfl rfl ?_
            refine g_iload_n 110 (gd rfl) rfl rfl ?_
            refine g_laload 111 (gd rfl) rfl (n := 32) rfl (in_ix i74 rfl) (fun z110 e110 => ?_)
            refine g_lneg 112 (gd rfl) rfl (fun z111 e111 => ?_)
            refine g_lstore_n 113 (gd rfl) rfl (Nat.le_of_ble_eq_true rfl) ?_
            refine g_iload_n 114 (gd rfl) rfl rfl ?_
            refine g_istore 116 (gd rfl) rfl (Nat.le_of_ble_eq_true rfl) ?_
            have n116 : CHE sc9 (x1).toInt := by first | exact g116_0 | exact g9_0
            have n116a : CO sc9 := by first | exact g116_1 | exact g9_1
            have n116b : sc9.2.1 150 = s.2.1 150 := by first | exact g116_2 | exact g9_2
            have n116c : ND sc9 (y9_2).toNatClampNeg ∧ (((y9_2).toNatClampNeg : Nat) : Int) ≠ (x1).toInt := by first | exact g116_3 | (rcases g9_3 with hk | ⟨k1, k2, k3⟩; (exfalso; have a0 := oa4 h1 ro_109_20 j9_3 i74; omega); exact gd_i g9_0 i74 h1 k1 k2 k3 g9_2 q_2.2)
            have n116d : ∃ k, (y9_2).toNatClampNeg = it sc9 (y9_2).toNatClampNeg k ∧ WY sc9 (x1).toInt (z111).toInt (y9_2).toNatClampNeg k := by first | (obtain ⟨k, hk1, hk2⟩ := g116_4; exact ⟨k + 1, by rw [p147a, hk1]; rfl, wy_s hk2 (by rw [← hk1]; exact hx116) (by rw [← hk1]; exact g116_5) (by omega) (by rw [← hk1]; omega)⟩) | exact ⟨0, rfl, fun j hj => absurd hj (Nat.not_lt_zero _)⟩
            have n116e : ND sc9 (y9_2).toNatClampNeg := by first | (rw [p147a]; exact hev.2.1) | (rcases g9_3 with hk | ⟨k1, k2, k3⟩; (exfalso; have a0 := oa4 h1 ro_109_20 j9_3 i74; omega); exact (gd_i g9_0 i74 h1 k1 k2 k3 g9_2 q_2.2).1)
            have n116f : MO s (x1).toNatClampNeg (y9_2).toNatClampNeg (z111).toInt := by first | (have hr1 := hev.2.2.2.1; have hq := g116_6; unfold MO at hq ⊢; exact ⟨by omega, by omega, by omega, by omega⟩) | (rcases g9_3 with hk | ⟨k1, k2, k3⟩; (exfalso; have a0 := oa4 h1 ro_109_20 j9_3 i74; omega); (rw [hFc9.2.2.1 109 20 rfl] at k1; rw [g9_2] at k2; first | exact mo_1 q_1 h1 i74 q_2.1 k1 q_2.2 (by rw [← g9_2]; exact e84) (by rw [← g9_2]; exact e90) e91 (by rw [← g9_2]; exact e101) c93a | exact mo_2 q_1 h1 i74 q_2.1 k1 k2 (by rw [← g9_2]; exact e84) (by rw [← g9_2]; exact e90) e91 (by rw [← g9_2]; exact e110) e111 c93a))
            have m116 : rkb sc9.1 sc9.2.2.1 (x1).toInt (y9_2).toNatClampNeg < 32 := by exact (br_ok hIc9 n116.1).1 _ n116e.1 n116e.2.2
            exact gg_w (by first | exact Nat.le_add_right _ _ | exact gw2 | exact gw3 | exact gwe rfl | exact gwf rfl | exact gwg rfl | exact gwh rfl | omega) (gg_f (gf_cons rfl (gf_cons rfl (gf_cons rfl (gf_cons rfl (gf_cons rfl gf_nil))))) (ct116 (32) sc9 y9_2 z111 y9_2 hIc9 hFc9 (in_w 0 31 i74 rfl) (in_w 0 31 i74 rfl) n116 n116a n116b n116c n116d n116e n116f m116))
          · skip
            have i93 := z_lt (-1) (-1) c93 i92 rfl
            have c93a := lc_lt e92 c93
            have i93a := lr_lt1 (-9223372036854775808) 9223372036854775806 c93a (l_rng z84) (l_rng z91) rfl
            have i93b := lr_lt2 (-9223372036854775807) 9223372036854775807 c93a (l_rng z84) (l_rng z91) rfl
            refine g_aload_n 97 (gd rfl) rfl rfl ?_
            refine g_getA (q2 := 150) 100 (gd rfl) rfl rfl rfl rfl ?_
            refine g_iload_n 101 (gd rfl) rfl rfl ?_
            refine g_laload 102 (gd rfl) rfl (n := 32) rfl (in_ix h1 rfl) (fun z101 e101 => ?_)
            refine g_goto 112 (gd rfl) rfl ?_
            refine g_lstore_n 113 (gd rfl) rfl (Nat.le_of_ble_eq_true rfl) ?_
            refine g_iload_n 114 (gd rfl) rfl rfl ?_
            refine g_istore 116 (gd rfl) rfl (Nat.le_of_ble_eq_true rfl) ?_
            have n116 : CHE sc9 (x1).toInt := by first | exact g116_0 | exact g9_0
            have n116a : CO sc9 := by first | exact g116_1 | exact g9_1
            have n116b : sc9.2.1 150 = s.2.1 150 := by first | exact g116_2 | exact g9_2
            have n116c : ND sc9 (y9_2).toNatClampNeg ∧ (((y9_2).toNatClampNeg : Nat) : Int) ≠ (x1).toInt := by first | exact g116_3 | (rcases g9_3 with hk | ⟨k1, k2, k3⟩; (exfalso; have a0 := oa4 h1 ro_109_20 j9_3 i74; omega); exact gd_i g9_0 i74 h1 k1 k2 k3 g9_2 q_2.2)
            have n116d : ∃ k, (y9_2).toNatClampNeg = it sc9 (y9_2).toNatClampNeg k ∧ WY sc9 (x1).toInt (z101).toInt (y9_2).toNatClampNeg k := by first | (obtain ⟨k, hk1, hk2⟩ := g116_4; exact ⟨k + 1, by rw [p147a, hk1]; rfl, wy_s hk2 (by rw [← hk1]; exact hx116) (by rw [← hk1]; exact g116_5) (by omega) (by rw [← hk1]; omega)⟩) | exact ⟨0, rfl, fun j hj => absurd hj (Nat.not_lt_zero _)⟩
            have n116e : ND sc9 (y9_2).toNatClampNeg := by first | (rw [p147a]; exact hev.2.1) | (rcases g9_3 with hk | ⟨k1, k2, k3⟩; (exfalso; have a0 := oa4 h1 ro_109_20 j9_3 i74; omega); exact (gd_i g9_0 i74 h1 k1 k2 k3 g9_2 q_2.2).1)
            have n116f : MO s (x1).toNatClampNeg (y9_2).toNatClampNeg (z101).toInt := by first | (have hr1 := hev.2.2.2.1; have hq := g116_6; unfold MO at hq ⊢; exact ⟨by omega, by omega, by omega, by omega⟩) | (rcases g9_3 with hk | ⟨k1, k2, k3⟩; (exfalso; have a0 := oa4 h1 ro_109_20 j9_3 i74; omega); (rw [hFc9.2.2.1 109 20 rfl] at k1; rw [g9_2] at k2; first | exact mo_1 q_1 h1 i74 q_2.1 k1 q_2.2 (by rw [← g9_2]; exact e84) (by rw [← g9_2]; exact e90) e91 (by rw [← g9_2]; exact e101) c93a | exact mo_2 q_1 h1 i74 q_2.1 k1 k2 (by rw [← g9_2]; exact e84) (by rw [← g9_2]; exact e90) e91 (by rw [← g9_2]; exact e110) e111 c93a))
            have m116 : rkb sc9.1 sc9.2.2.1 (x1).toInt (y9_2).toNatClampNeg < 32 := by exact (br_ok hIc9 n116.1).1 _ n116e.1 n116e.2.2
            exact gg_w (by first | exact Nat.le_add_right _ _ | exact gw2 | exact gw3 | exact gwe rfl | exact gwf rfl | exact gwg rfl | exact gwh rfl | omega) (gg_f (gf_cons rfl (gf_cons rfl (gf_cons rfl (gf_cons rfl (gf_cons rfl gf_nil))))) (ct116 (32) sc9 y9_2 z101 y9_2 hIc9 hFc9 (in_w 0 31 i74 rfl) (in_w 0 31 i74 rfl) n116 n116a n116b n116c n116d n116e n116f m116))
        · skip
          have i74 := z_lt (-1) (-1) c74 j9_2 rfl
          refine g_iconst 0 78 (gd rfl) rfl rfl ?_
          have n78 : CO sc9 := by first | exact g9_1 | (first | exact g9_1 | exact co_cg (pl_e g158_0 (by show ((y158_5.toInt.toNat : Nat) : Int) = _; have a0 := oa4 h1 ro_109_20 j9_3 i74; omega)) ⟨rfl, rfl, rfl, rfl, rfl, by simp [sL], rfl, rfl⟩)
          have n78a : SU sc9 := by first | (intro v hv hvn; rw [g9_2]; rw [hFc9.2.2.1 109 20 rfl] at hvn; exact q_1 v hv hvn) | exact (su_t (T := sc9) (m := y158_3) q_1 (nat_in h1 q_2.1).1 (nat_in h1 q_2.1).2 (nat_in i74 g158_4).1 (nat_in i74 g158_4).2 (fun e => g158_3 (by rw [e]; show ((x1.toInt.toNat : Nat) : Int) = _; have a0 := oa4 h1 ro_109_20 j9_3 i74; omega)) g158_2 (by rw [← g158_1]; exact e192) e194 (by rw [e202, show (sL sc158 150 x1.toNatClampNeg z194).2.1 150 = vp_updL (sc158.2.1 150) x1.toNatClampNeg z194 from (by simp [sL]), g158_1]) e204 (by rw [show (sc9).2.1 150 = vp_updL (vp_updL (sc158.2.1 150) x1.toNatClampNeg z194) y158_2.toNatClampNeg z204 from (by simp [sL]), g158_1]) (hFc158.2.2.1 109 20 rfl)).1
          have n78b : (((Int32.ofInt 0)).toInt ≠ 0 → (sc9.2.1 150 (x1).toNatClampNeg).toInt < (s.2.1 150 (x1).toNatClampNeg).toInt ∧ 0 ≤ (sc9.2.1 150 (x1).toNatClampNeg).toInt) ∧ (((Int32.ofInt 0)).toInt = 0 → sc9.2.1 150 = s.2.1 150) := by first | exact ⟨fun hz => absurd (by decide) hz, fun _ => g9_2⟩ | exact ⟨fun _ => (su_t (T := sc9) (m := y158_3) q_1 (nat_in h1 q_2.1).1 (nat_in h1 q_2.1).2 (nat_in i74 g158_4).1 (nat_in i74 g158_4).2 (fun e => g158_3 (by rw [e]; show ((x1.toInt.toNat : Nat) : Int) = _; have a0 := oa4 h1 ro_109_20 j9_3 i74; omega)) g158_2 (by rw [← g158_1]; exact e192) e194 (by rw [e202, show (sL sc158 150 x1.toNatClampNeg z194).2.1 150 = vp_updL (sc158.2.1 150) x1.toNatClampNeg z194 from (by simp [sL]), g158_1]) e204 (by rw [show (sc9).2.1 150 = vp_updL (vp_updL (sc158.2.1 150) x1.toNatClampNeg z194) y158_2.toNatClampNeg z204 from (by simp [sL]), g158_1]) (hFc158.2.2.1 109 20 rfl)).2, fun hz => absurd hz (by decide)⟩
          exact g_ireturn (gd rfl) rfl (nb01 (in_w 0 1 (in_c 0 rfl) rfl)) (hP _ _ ⟨sc9, hIc9, hFc9, (Int32.ofInt 0), rfl, rfl, in_w 0 1 (in_c 0 rfl) rfl, n78, n78a, n78b⟩)
      · skip
        have i14 := r_lt1 0 31 c14 j9_3 ro_109_20 rfl
        have i14a := r_lt2 1 32 c14 j9_3 ro_109_20 rfl
        refine g_aload_n 18 (gd rfl) rfl rfl ?_
        refine g_getA (q2 := 150) 21 (gd rfl) rfl rfl rfl rfl ?_
        refine g_iload_n 22 (gd rfl) rfl rfl ?_
        refine g_laload 23 (gd rfl) rfl (n := 32) rfl (in_ix i14 rfl) (fun z22 e22 => ?_)
        refine g_lconst 0 24 (gd rfl) rfl rfl ?_
        refine g_lcmp 25 (gd rfl) rfl (fun z24 e24 => ?_)
        have i24 := lc_in e24
        refine g_if_ge 28 65 (gd rfl) rfl rfl (fun c25 => ?_) (fun c25 => ?_)
        · skip
          have i25 := z_ge 0 1 c25 i24 rfl
          have c25a := lc_ge e24 c25
          have i25a := lr_le2 0 9223372036854775807 c25a (l_c 0 rfl) (l_rng z22) rfl
          refine g_iload_n 66 (gd rfl) rfl rfl ?_
          refine g_istore_n 67 (gd rfl) rfl (Nat.le_of_ble_eq_true rfl) ?_
          refine g_iinc 70 (gd rfl) rfl rfl (Nat.le_of_ble_eq_true rfl) (fun z67 e67 => ?_)
          have i67 := in_add 1 32 e67 i14 (in_c 1 rfl) rfl rfl
          refine g_goto 9 (gd rfl) rfl ?_
          have n9 : CHE sc9 (x1).toInt := by first | exact g9_0 | exact p2b
          have n9a : CO sc9 := by first | exact g9_1 | exact co_cg q_0 ⟨hF2.1 112 rfl, hF2.1 113 rfl, hF2.1 114 rfl, hF2.1 115 rfl, hF2.1 116 rfl, hF2.2.1 147 rfl, hF2.2.2.1 109 19 rfl, hF2.2.2.1 109 20 rfl⟩
          have n9b : sc9.2.1 150 = s.2.1 150 := by first | exact g9_2 | exact hF2.2.1 150 rfl
          have n9c : (y9_2).toInt < 0 ∨ ((y9_2).toInt < (sc9.2.2.1 109 20).toInt ∧ (sc9.2.1 150 (y9_2).toNatClampNeg).toInt < 0 ∧ (sc9.2.1 149 (y9_2).toNatClampNeg).toInt < 9000000000000000) := by first | exact g9_3 | (first | exact g9_3 | exact Or.inl (by decide) | exact Or.inr ⟨by rw [hFc9.2.2.1 109 20 rfl, ← e_109_20]; have a0 := oa5 h1 i14a i14 j9_2 i67; have a5 := t_add e67 i14 (in_c 1 rfl) rfl; have a6 := in_u ((in_c 1 rfl)); omega, by rw [← e22]; have h := i25a.2; omega, by rw [← e33]; have h := i38a.2; omega⟩)
          exact gg_w (by first | exact Nat.le_add_right _ _ | exact gw2 | exact gw3 | exact gwe rfl | exact gwf rfl | exact gwg rfl | exact gwh rfl | omega) (gg_f (gf_cons rfl (gf_cons rfl (gf_cons rfl (gf_cons rfl gf_nil)))) (ih9 sc9 y9_2 z67 hIc9 hFc9 (in_w (-1) 31 j9_2 rfl) (in_w 0 32 i67 rfl) n9 n9a n9b n9c (m_up mm9 (t_add e67 i14 (in_c 1 rfl) rfl) (in_w 1 1 (in_c 1 rfl) rfl))))
        · skip
          have i25 := z_lt (-1) (-1) c25 i24 rfl
          have c25a := lc_lt e24 c25
          have i25a := lr_lt1 (-9223372036854775808) (-1) c25a (l_rng z22) (l_c 0 rfl) rfl
          refine g_aload_n 29 (gd rfl) rfl rfl ?_
          refine g_getA (q2 := 149) 32 (gd rfl) rfl rfl rfl rfl ?_
          refine g_iload_n 33 (gd rfl) rfl rfl ?_
          refine g_laload 34 (gd rfl) rfl (n := 34) rfl (in_ix i14 rfl) (fun z33 e33 => ?_)
          refine g_ldc2_w 9000000000000000 37 (gd rfl) rfl rfl ?_
          refine g_lcmp 38 (gd rfl) rfl (fun z37 e37 => ?_)
          have i37 := lc_in e37
          refine g_if_ge 41 65 (gd rfl) rfl rfl (fun c38 => ?_) (fun c38 => ?_)
          · skip
            have i38 := z_ge 0 1 c38 i37 rfl
            have c38a := lc_ge e37 c38
            have i38a := lr_le2 9000000000000000 9223372036854775807 c38a (l_c 9000000000000000 rfl) (l_rng z33) rfl
            refine g_iload_n 66 (gd rfl) rfl rfl ?_
            refine g_istore_n 67 (gd rfl) rfl (Nat.le_of_ble_eq_true rfl) ?_
            refine g_iinc 70 (gd rfl) rfl rfl (Nat.le_of_ble_eq_true rfl) (fun z67 e67 => ?_)
            have i67 := in_add 1 32 e67 i14 (in_c 1 rfl) rfl rfl
            refine g_goto 9 (gd rfl) rfl ?_
            have n9 : CHE sc9 (x1).toInt := by first | exact g9_0 | exact p2b
            have n9a : CO sc9 := by first | exact g9_1 | exact co_cg q_0 ⟨hF2.1 112 rfl, hF2.1 113 rfl, hF2.1 114 rfl, hF2.1 115 rfl, hF2.1 116 rfl, hF2.2.1 147 rfl, hF2.2.2.1 109 19 rfl, hF2.2.2.1 109 20 rfl⟩
            have n9b : sc9.2.1 150 = s.2.1 150 := by first | exact g9_2 | exact hF2.2.1 150 rfl
            have n9c : (y9_2).toInt < 0 ∨ ((y9_2).toInt < (sc9.2.2.1 109 20).toInt ∧ (sc9.2.1 150 (y9_2).toNatClampNeg).toInt < 0 ∧ (sc9.2.1 149 (y9_2).toNatClampNeg).toInt < 9000000000000000) := by first | exact g9_3 | (first | exact g9_3 | exact Or.inl (by decide) | exact Or.inr ⟨by rw [hFc9.2.2.1 109 20 rfl, ← e_109_20]; have a0 := oa5 h1 i14a i14 j9_2 i67; have a5 := t_add e67 i14 (in_c 1 rfl) rfl; have a6 := in_u ((in_c 1 rfl)); omega, by rw [← e22]; have h := i25a.2; omega, by rw [← e33]; have h := i38a.2; omega⟩)
            exact gg_w (by first | exact Nat.le_add_right _ _ | exact gw2 | exact gw3 | exact gwe rfl | exact gwf rfl | exact gwg rfl | exact gwh rfl | omega) (gg_f (gf_cons rfl (gf_cons rfl (gf_cons rfl (gf_cons rfl gf_nil)))) (ih9 sc9 y9_2 z67 hIc9 hFc9 (in_w (-1) 31 j9_2 rfl) (in_w 0 32 i67 rfl) n9 n9a n9b n9c (m_up mm9 (t_add e67 i14 (in_c 1 rfl) rfl) (in_w 1 1 (in_c 1 rfl) rfl))))
          · skip
            have i38 := z_lt (-1) (-1) c38 i37 rfl
            have c38a := lc_lt e37 c38
            have i38a := lr_lt1 (-9223372036854775808) 8999999999999999 c38a (l_rng z33) (l_c 9000000000000000 rfl) rfl
            refine g_iload_n 42 (gd rfl) rfl rfl ?_
            refine g_if_lt 45 61 (gd rfl) rfl rfl (fun c42 => ?_) (fun c42 => ?_)
            · skip
              have i42 := z_lt (-1) (-1) c42 j9_2 rfl
              refine g_iload_n 62 (gd rfl) rfl rfl ?_
              refine g_goto 66 (gd rfl) rfl ?_
              refine g_istore_n 67 (gd rfl) rfl (Nat.le_of_ble_eq_true rfl) ?_
              refine g_iinc 70 (gd rfl) rfl rfl (Nat.le_of_ble_eq_true rfl) (fun z67 e67 => ?_)
              have i67 := in_add 1 32 e67 i14 (in_c 1 rfl) rfl rfl
              refine g_goto 9 (gd rfl) rfl ?_
              have n9 : CHE sc9 (x1).toInt := by first | exact g9_0 | exact p2b
              have n9a : CO sc9 := by first | exact g9_1 | exact co_cg q_0 ⟨hF2.1 112 rfl, hF2.1 113 rfl, hF2.1 114 rfl, hF2.1 115 rfl, hF2.1 116 rfl, hF2.2.1 147 rfl, hF2.2.2.1 109 19 rfl, hF2.2.2.1 109 20 rfl⟩
              have n9b : sc9.2.1 150 = s.2.1 150 := by first | exact g9_2 | exact hF2.2.1 150 rfl
              have n9c : (y9_3).toInt < 0 ∨ ((y9_3).toInt < (sc9.2.2.1 109 20).toInt ∧ (sc9.2.1 150 (y9_3).toNatClampNeg).toInt < 0 ∧ (sc9.2.1 149 (y9_3).toNatClampNeg).toInt < 9000000000000000) := by first | exact g9_3 | exact Or.inl (by decide) | exact Or.inr ⟨by rw [hFc9.2.2.1 109 20 rfl, ← e_109_20]; have a0 := oa5 h1 i14a i14 i42 i67; have a5 := t_add e67 i14 (in_c 1 rfl) rfl; have a6 := in_u ((in_c 1 rfl)); omega, by rw [← e22]; have h := i25a.2; omega, by rw [← e33]; have h := i38a.2; omega⟩
              exact gg_w (by first | exact Nat.le_add_right _ _ | exact gw2 | exact gw3 | exact gwe rfl | exact gwf rfl | exact gwg rfl | exact gwh rfl | omega) (gg_f (gf_cons rfl (gf_cons rfl (gf_cons rfl (gf_cons rfl gf_nil)))) (ih9 sc9 y9_3 z67 hIc9 hFc9 (in_w (-1) 31 i14 rfl) (in_w 0 32 i67 rfl) n9 n9a n9b n9c (m_up mm9 (t_add e67 i14 (in_c 1 rfl) rfl) (in_w 1 1 (in_c 1 rfl) rfl))))
            · skip
              have i42 := z_ge 0 31 c42 j9_2 rfl
              refine g_aload_n 46 (gd rfl) rfl rfl ?_
              refine g_getA (q2 := 149) 49 (gd rfl) rfl rfl rfl rfl ?_
              refine g_iload_n 50 (gd rfl) rfl rfl ?_
              refine g_laload 51 (gd rfl) rfl (n := 34) rfl (in_ix i14 rfl) (fun z50 e50 => ?_)
              refine g_aload_n 52 (gd rfl) rfl rfl ?_
              refine g_getA (q2 := 149) 55 (gd rfl) rfl rfl rfl rfl ?_
              refine g_iload_n 56 (gd rfl) rfl rfl ?_
              refine g_laload 57 (gd rfl) rfl (n := 34) rfl (in_ix i42 rfl) (fun z56 e56 => ?_)
              refine g_lcmp 58 (gd rfl) rfl (fun z57 e57 => ?_)
              have i57 := lc_in e57
              refine g_if_ge 61 65 (gd rfl) rfl rfl (fun c58 => ?_) (fun c58 => ?_)
              · skip
                have i58 := z_ge 0 1 c58 i57 rfl
                have c58a := lc_ge e57 c58
                refine g_iload_n 66 (gd rfl) rfl rfl ?_
                refine g_istore_n 67 (gd rfl) rfl (Nat.le_of_ble_eq_true rfl) ?_
                refine g_iinc 70 (gd rfl) rfl rfl (Nat.le_of_ble_eq_true rfl) (fun z67 e67 => ?_)
                have i67 := in_add 1 32 e67 i14 (in_c 1 rfl) rfl rfl
                refine g_goto 9 (gd rfl) rfl ?_
                have n9 : CHE sc9 (x1).toInt := by first | exact g9_0 | exact p2b
                have n9a : CO sc9 := by first | exact g9_1 | exact co_cg q_0 ⟨hF2.1 112 rfl, hF2.1 113 rfl, hF2.1 114 rfl, hF2.1 115 rfl, hF2.1 116 rfl, hF2.2.1 147 rfl, hF2.2.2.1 109 19 rfl, hF2.2.2.1 109 20 rfl⟩
                have n9b : sc9.2.1 150 = s.2.1 150 := by first | exact g9_2 | exact hF2.2.1 150 rfl
                have n9c : (y9_2).toInt < 0 ∨ ((y9_2).toInt < (sc9.2.2.1 109 20).toInt ∧ (sc9.2.1 150 (y9_2).toNatClampNeg).toInt < 0 ∧ (sc9.2.1 149 (y9_2).toNatClampNeg).toInt < 9000000000000000) := by first | exact g9_3 | (first | exact g9_3 | exact Or.inl (by decide) | exact Or.inr ⟨by rw [hFc9.2.2.1 109 20 rfl, ← e_109_20]; have a0 := oa5 h1 i14a i14 i42 i67; have a5 := t_add e67 i14 (in_c 1 rfl) rfl; have a6 := in_u ((in_c 1 rfl)); omega, by rw [← e22]; have h := i25a.2; omega, by rw [← e33]; have h := i38a.2; omega⟩)
                exact gg_w (by first | exact Nat.le_add_right _ _ | exact gw2 | exact gw3 | exact gwe rfl | exact gwf rfl | exact gwg rfl | exact gwh rfl | omega) (gg_f (gf_cons rfl (gf_cons rfl (gf_cons rfl (gf_cons rfl gf_nil)))) (ih9 sc9 y9_2 z67 hIc9 hFc9 (in_w (-1) 31 i42 rfl) (in_w 0 32 i67 rfl) n9 n9a n9b n9c (m_up mm9 (t_add e67 i14 (in_c 1 rfl) rfl) (in_w 1 1 (in_c 1 rfl) rfl))))
              · skip
                have i58 := z_lt (-1) (-1) c58 i57 rfl
                have c58a := lc_lt e57 c58
                have i58a := lr_lt1 (-9223372036854775808) 9223372036854775806 c58a (l_rng z50) (l_rng z56) rfl
                have i58b := lr_lt2 (-9223372036854775807) 9223372036854775807 c58a (l_rng z50) (l_rng z56) rfl
                refine g_iload_n 62 (gd rfl) rfl rfl ?_
                refine g_goto 66 (gd rfl) rfl ?_
                refine g_istore_n 67 (gd rfl) rfl (Nat.le_of_ble_eq_true rfl) ?_
                refine g_iinc 70 (gd rfl) rfl rfl (Nat.le_of_ble_eq_true rfl) (fun z67 e67 => ?_)
                have i67 := in_add 1 32 e67 i14 (in_c 1 rfl) rfl rfl
                refine g_goto 9 (gd rfl) rfl ?_
                have n9 : CHE sc9 (x1).toInt := by first | exact g9_0 | exact p2b
                have n9a : CO sc9 := by first | exact g9_1 | exact co_cg q_0 ⟨hF2.1 112 rfl, hF2.1 113 rfl, hF2.1 114 rfl, hF2.1 115 rfl, hF2.1 116 rfl, hF2.2.1 147 rfl, hF2.2.2.1 109 19 rfl, hF2.2.2.1 109 20 rfl⟩
                have n9b : sc9.2.1 150 = s.2.1 150 := by first | exact g9_2 | exact hF2.2.1 150 rfl
                have n9c : (y9_3).toInt < 0 ∨ ((y9_3).toInt < (sc9.2.2.1 109 20).toInt ∧ (sc9.2.1 150 (y9_3).toNatClampNeg).toInt < 0 ∧ (sc9.2.1 149 (y9_3).toNatClampNeg).toInt < 9000000000000000) := by first | exact g9_3 | exact Or.inl (by decide) | exact Or.inr ⟨by rw [hFc9.2.2.1 109 20 rfl, ← e_109_20]; have a0 := oa5 h1 i14a i14 i42 i67; have a5 := t_add e67 i14 (in_c 1 rfl) rfl; have a6 := in_u ((in_c 1 rfl)); omega, by rw [← e22]; have h := i25a.2; omega, by rw [← e33]; have h := i38a.2; omega⟩
                exact gg_w (by first | exact Nat.le_add_right _ _ | exact gw2 | exact gw3 | exact gwe rfl | exact gwf rfl | exact gwg rfl | exact gwh rfl | omega) (gg_f (gf_cons rfl (gf_cons rfl (gf_cons rfl (gf_cons rfl gf_nil)))) (ih9 sc9 y9_3 z67 hIc9 hFc9 (in_w (-1) 31 i14 rfl) (in_w 0 32 i67 rfl) n9 n9a n9b n9c (m_up mm9 (t_add e67 i14 (in_c 1 rfl) rfl) (in_w 1 1 (in_c 1 rfl) rfl))))
  refine g_enter2 (k := 358) (N := 88203) (by first | exact dq1 hd rfl | exact dq0 hd rfl | exact dq2 hd rfl | exact dq3 hd rfl | omega) rfl (Nat.le_of_ble_eq_true rfl) ?_
  refine g_aload_n 1 (gd rfl) rfl rfl ?_
  refine g_iload_n 2 (gd rfl) rfl rfl ?_
  have p2 : CP s := by exact q_0.2
  have p2a : (x1).toInt < (s.2.2.1 109 20).toInt := by exact q_2.1
  refine g_callv (X := _) (As := [.int x1]) (r := []) (b := A 109) (q := 109) 5 (gd rfl) rfl rfl rfl rfl rfl (ww_o rfl) (Nat.le_of_ble_eq_true rfl) (Nat.zero_le _) (Nat.zero_le _) (k_356 (by first | exact dq1 hd rfl | exact dq0 hd rfl | exact dq2 hd rfl | exact dq3 hd rfl | omega) hI (in_w 0 31 h1 rfl) p2 p2a) (fun e u h => h) (fun v u h => ?_)
  obtain ⟨s2, hI2, hF2, rfl, rfl, p2b⟩ := h
  show GG _ _ _ _ _ _ _ _ [] _ _ _
  refine g_iconst (-1) 6 (gd rfl) rfl rfl ?_
  refine g_istore_n 7 (gd rfl) rfl (Nat.le_of_ble_eq_true rfl) ?_
  refine g_iconst 0 8 (gd rfl) rfl rfl ?_
  refine g_istore_n 9 (gd rfl) rfl (Nat.le_of_ble_eq_true rfl) ?_
  have n9 : CHE s2 (x1).toInt := by first | exact g9_0 | exact p2b
  have n9a : CO s2 := by first | exact g9_1 | exact co_cg q_0 ⟨hF2.1 112 rfl, hF2.1 113 rfl, hF2.1 114 rfl, hF2.1 115 rfl, hF2.1 116 rfl, hF2.2.1 147 rfl, hF2.2.2.1 109 19 rfl, hF2.2.2.1 109 20 rfl⟩
  have n9b : s2.2.1 150 = s.2.1 150 := by first | exact g9_2 | exact hF2.2.1 150 rfl
  have n9c : ((Int32.ofInt (-1))).toInt < 0 ∨ (((Int32.ofInt (-1))).toInt < (s2.2.2.1 109 20).toInt ∧ (s2.2.1 150 ((Int32.ofInt (-1))).toNatClampNeg).toInt < 0 ∧ (s2.2.1 149 ((Int32.ofInt (-1))).toNatClampNeg).toInt < 9000000000000000) := by first | exact g9_3 | exact Or.inl (by decide) | exact Or.inr ⟨by rw [hFc9.2.2.1 109 20 rfl, ← e_109_20]; have a0 := oa4 ro_109_20 h1 ((in_c 0 rfl)) ((in_c (-1) rfl)); omega, by rw [← e22]; have h := i25a.2; omega, by rw [← e33]; have h := i38a.2; omega⟩
  exact gg_w (by first | exact Nat.le_of_ble_eq_true rfl | omega) (gg_f (gf_cons rfl (gf_cons rfl (gf_cons rfl (gf_cons rfl gf_nil)))) (ct9 33 s2 (Int32.ofInt (-1)) (Int32.ofInt 0) hI2 (fr_tr rfl fr_rf hF2) (in_w (-1) 31 (in_c (-1) rfl) rfl) (in_w 0 32 (in_c 0 rfl) rfl) n9 n9a n9b n9c (m_in 33 (in_w 0 32 (in_c 0 rfl) rfl) rfl)))

def fm_361 : FM := ([148], [149], [], [])
/-- GraphHouseModel.cheapestPair -/
theorem k_361 {Z : AmZ} {A : Nat → Nat} {s : GS} {ex : va_W} {d : Nat} {X : AmX}  (hd : 2 ≤ d) (hI : Inv s) (q_0 : PP s) : GC Z d 361 [.ref (A 109)] (WW Z A s ++ ex) 0 0 (fun v u => ∃ t : GS, Inv t ∧ Fr fm_361 s t ∧ ∃ z : Int32, v = some (.int z) ∧ u = WW Z A t ++ ex ∧ In z (-1) 31 ∧ (∃ n, n ≤ 32 ∧ FLP t (z).toInt n) ∧ (0 ≤ (z).toInt → (t.1 151 (z).toNatClampNeg).toInt < 0)) X := by
  intro post xp hP hX
  obtain ⟨u_109_20, e_109_20⟩ : ∃ w, w = s.2.2.1 109 20 := ⟨_, rfl⟩
  have ro_109_20 := inv_F hI 0 32 rfl e_109_20
  have ct233 : ∀ (k233 : Nat) (sc233 : GS) (y233_1 : Int32) (y233_2 : Int32) (y233_3 : Int32), Inv sc233 → Fr fm_361 s sc233 → (In y233_1 0 0) → (In y233_2 (-1) 31) → (In y233_3 0 32) → (CIP s sc233) → (CLP s sc233 1024) → ((y233_2).toInt < 0 ∨ (In (y233_2) 0 31 ∧ (y233_2).toInt < nnq s ∧ ¬ FSQ s (y233_2).toNatClampNeg ∧ (s.1 151 (y233_2).toNatClampNeg).toInt < 0 ∧ (sc233.2.1 149 (y233_2).toNatClampNeg).toInt < 9000000000000000)) → 32 - (y233_3).toInt < (k233 : Int) → GG Z (d - 1) 361 post (gx xp) (1 + k233 * 900) 233 (fun j => xlook j [(0, .ref (A 109)), (1, .int y233_1), (2, .int y233_2), (3, .int y233_3)]) [] (WW Z A sc233 ++ ex) 0 0 := by
    intro k233
    induction k233 with
    | zero => intro sc233 y233_1 y233_2 y233_3 hIc233 hFc233 j233_1 j233_2 j233_3 g233_0 g233_1 g233_2 mm233; exact m_no mm233 j233_3 rfl
    | succ k233 ih233 =>
      intro sc233 y233_1 y233_2 y233_3 hIc233 hFc233 j233_1 j233_2 j233_3 g233_0 g233_1 g233_2 mm233
      refine gg_w (M := 1 + k233 * 900 + 900) gws ?_
      refine g_iload_n 234 (gd rfl) rfl rfl ?_
      refine g_aload_n 235 (gd rfl) rfl rfl ?_
      refine g_getI 238 (gd rfl) rfl rfl rfl (fun z235 e235 => ?_)
      have q235 : u_109_20 = z235 := (fr_F e_109_20 hFc233 rfl).trans e235.symm
      subst q235
      refine g_cmp_ge 241 315 (gd rfl) rfl rfl (fun c238 => ?_) (fun c238 => ?_)
      · skip
        refine g_iload_n 316 (gd rfl) rfl rfl ?_
        have n316 : ∃ n, n ≤ 32 ∧ FLP sc233 (y233_2).toInt n := by exact flp_0 q_0 (hFc233.1 111 rfl) (hFc233.1 151 rfl) (hFc233.2.1 152 rfl) (hFc233.2.2.1 109 18 rfl) (hFc233.2.2.1 109 20 rfl) g233_0 g233_1 g233_2
        have n316a : 0 ≤ (y233_2).toInt → (sc233.1 151 (y233_2).toNatClampNeg).toInt < 0 := by intro h0; rcases g233_2 with h | h; (exfalso; omega); (rw [hFc233.1 151 rfl]; exact h.2.2.2.1)
        exact g_ireturn (gd rfl) rfl rfl (hP _ _ ⟨sc233, hIc233, hFc233, y233_2, rfl, rfl, in_w (-1) 31 j233_2 rfl, n316, n316a⟩)
      · skip
        have i238 := r_lt1 0 31 c238 j233_3 ro_109_20 rfl
        have i238a := r_lt2 1 32 c238 j233_3 ro_109_20 rfl
        refine g_aload_n 242 (gd rfl) rfl rfl ?_
        refine g_iload_n 243 (gd rfl) rfl rfl ?_
        refine g_callv (X := _) (As := [.int y233_3]) (r := []) (b := A 109) (q := 109) 246 (gd rfl) rfl rfl rfl rfl rfl (ww_o rfl) (Nat.le_of_ble_eq_true rfl) (Nat.zero_le _) (Nat.zero_le _) (k_359 (by first | exact dq1 hd rfl | exact dq0 hd rfl | exact dq2 hd rfl | exact dq3 hd rfl | omega) hIc233 (in_w 0 31 i238 rfl)) (fun e u h => h) (fun v u h => ?_)
        obtain ⟨z243, rfl, rfl, i243, p243⟩ := h
        show GG _ _ _ _ _ _ _ _ [.int z243] _ _ _
        refine g_if_ne 249 275 (gd rfl) rfl rfl (fun c246 => ?_) (fun c246 => ?_)
        · skip
          have i246 := z_ne 1 1 c246 i243 rfl
          refine g_iconst 0 276 (gd rfl) rfl rfl ?_
          refine g_istore 278 (gd rfl) rfl (Nat.le_of_ble_eq_true rfl) ?_
          refine g_iload 280 (gd rfl) rfl rfl ?_
          refine g_if_eq 283 307 (gd rfl) rfl rfl (fun c280 => ?_) (fun c280 => ?_)
          · skip
            refine g_iload_n 308 (gd rfl) rfl rfl ?_
            refine g_istore_n 309 (gd rfl) rfl (Nat.le_of_ble_eq_true rfl) ?_
            refine g_iinc 312 (gd rfl) rfl rfl (Nat.le_of_ble_eq_true rfl) (fun z309 e309 => ?_)
            have i309 := in_add 1 32 e309 i238 (in_c 1 rfl) rfl rfl
            refine g_goto 233 (gd rfl) rfl ?_
            have n233 : CIP s sc233 := by first | exact g55_0 | exact g233_0
            have n233a : CLP s sc233 1024 := by first | exact g233_1 | exact g55_1 c56
            have n233b : (y233_2).toInt < 0 ∨ (In (y233_2) 0 31 ∧ (y233_2).toInt < nnq s ∧ ¬ FSQ s (y233_2).toNatClampNeg ∧ (s.1 151 (y233_2).toNatClampNeg).toInt < 0 ∧ (sc233.2.1 149 (y233_2).toNatClampNeg).toInt < 9000000000000000) := by first | exact g233_2 | (first | exact g233_2 | exact Or.inl (by decide) | exact Or.inr ⟨i238, by unfold nnq; rw [← e_109_20]; have a0 := oa6 i238a i238 j233_2 j233_1 ((in_c 0 rfl)) i309; have a6 := t_add e309 i238 (in_c 1 rfl) rfl; have a7 := in_u ((in_c 1 rfl)); omega, fun h => absurd (p243.mpr ((fs_cg (hFc233.1 111 rfl) (hFc233.2.2.1 109 18 rfl)).mpr h)) (by have h2 := c246; omega), by rw [← hFc233.1 151 rfl, ← e254]; exact c255, by rw [← e263]; have h := i268a.2; omega⟩)
            exact gg_w (by first | exact Nat.le_add_right _ _ | exact gw2 | exact gw3 | exact gwe rfl | exact gwf rfl | exact gwg rfl | exact gwh rfl | omega) (gg_f (gf_cons rfl (gf_cons rfl (gf_cons rfl (gf_cons rfl gf_nil)))) (ih233 sc233 y233_1 y233_2 z309 hIc233 hFc233 (in_w 0 0 j233_1 rfl) (in_w (-1) 31 j233_2 rfl) (in_w 0 32 i309 rfl) n233 n233a n233b (m_up mm233 (t_add e309 i238 (in_c 1 rfl) rfl) (in_w 1 1 (in_c 1 rfl) rfl))))
          · skip
            exact zn_ne c280 (in_c 0 rfl) rfl
        · skip
          have i246 := z_eq 0 0 c246 i243 rfl
          refine g_aload_n 250 (gd rfl) rfl rfl ?_
          refine g_getA (q2 := 151) 253 (gd rfl) rfl rfl rfl rfl ?_
          refine g_iload_n 254 (gd rfl) rfl rfl ?_
          refine g_iaload 255 (gd rfl) rfl (n := 32) rfl (in_ix i238 rfl) (fun z254 e254 => ?_)
          have i254 := inv_I hIc233 (n := 32) (t := 0) (-1) 31 rfl (in_ix i238 rfl) rfl e254
          refine g_if_ge 258 275 (gd rfl) rfl rfl (fun c255 => ?_) (fun c255 => ?_)
          · skip
            have i255 := z_ge 0 31 c255 i254 rfl
            refine g_iconst 0 276 (gd rfl) rfl rfl ?_
            refine g_istore 278 (gd rfl) rfl (Nat.le_of_ble_eq_true rfl) ?_
            refine g_iload 280 (gd rfl) rfl rfl ?_
            refine g_if_eq 283 307 (gd rfl) rfl rfl (fun c280 => ?_) (fun c280 => ?_)
            · skip
              refine g_iload_n 308 (gd rfl) rfl rfl ?_
              refine g_istore_n 309 (gd rfl) rfl (Nat.le_of_ble_eq_true rfl) ?_
              refine g_iinc 312 (gd rfl) rfl rfl (Nat.le_of_ble_eq_true rfl) (fun z309 e309 => ?_)
              have i309 := in_add 1 32 e309 i238 (in_c 1 rfl) rfl rfl
              refine g_goto 233 (gd rfl) rfl ?_
              have n233 : CIP s sc233 := by first | exact g55_0 | exact g233_0
              have n233a : CLP s sc233 1024 := by first | exact g233_1 | exact g55_1 c56
              have n233b : (y233_2).toInt < 0 ∨ (In (y233_2) 0 31 ∧ (y233_2).toInt < nnq s ∧ ¬ FSQ s (y233_2).toNatClampNeg ∧ (s.1 151 (y233_2).toNatClampNeg).toInt < 0 ∧ (sc233.2.1 149 (y233_2).toNatClampNeg).toInt < 9000000000000000) := by first | exact g233_2 | (first | exact g233_2 | exact Or.inl (by decide) | exact Or.inr ⟨i238, by unfold nnq; rw [← e_109_20]; have a0 := oa6 i238a i238 j233_2 j233_1 ((in_c 0 rfl)) i309; have a6 := t_add e309 i238 (in_c 1 rfl) rfl; have a7 := in_u ((in_c 1 rfl)); omega, fun h => absurd (p243.mpr ((fs_cg (hFc233.1 111 rfl) (hFc233.2.2.1 109 18 rfl)).mpr h)) (by have h2 := c246; omega), by rw [← hFc233.1 151 rfl, ← e254]; exact c255, by rw [← e263]; have h := i268a.2; omega⟩)
              exact gg_w (by first | exact Nat.le_add_right _ _ | exact gw2 | exact gw3 | exact gwe rfl | exact gwf rfl | exact gwg rfl | exact gwh rfl | omega) (gg_f (gf_cons rfl (gf_cons rfl (gf_cons rfl (gf_cons rfl gf_nil)))) (ih233 sc233 y233_1 y233_2 z309 hIc233 hFc233 (in_w 0 0 j233_1 rfl) (in_w (-1) 31 j233_2 rfl) (in_w 0 32 i309 rfl) n233 n233a n233b (m_up mm233 (t_add e309 i238 (in_c 1 rfl) rfl) (in_w 1 1 (in_c 1 rfl) rfl))))
            · skip
              exact zn_ne c280 (in_c 0 rfl) rfl
          · skip
            have i255 := z_lt (-1) (-1) c255 i254 rfl
            refine g_aload_n 259 (gd rfl) rfl rfl ?_
            refine g_getA (q2 := 149) 262 (gd rfl) rfl rfl rfl rfl ?_
            refine g_iload_n 263 (gd rfl) rfl rfl ?_
            refine g_laload 264 (gd rfl) rfl (n := 34) rfl (in_ix i238 rfl) (fun z263 e263 => ?_)
            refine g_ldc2_w 9000000000000000 267 (gd rfl) rfl rfl ?_
            refine g_lcmp 268 (gd rfl) rfl (fun z267 e267 => ?_)
            have i267 := lc_in e267
            refine g_if_ge 271 275 (gd rfl) rfl rfl (fun c268 => ?_) (fun c268 => ?_)
            · skip
              have i268 := z_ge 0 1 c268 i267 rfl
              have c268a := lc_ge e267 c268
              have i268a := lr_le2 9000000000000000 9223372036854775807 c268a (l_c 9000000000000000 rfl) (l_rng z263) rfl
              refine g_iconst 0 276 (gd rfl) rfl rfl ?_
              refine g_istore 278 (gd rfl) rfl (Nat.le_of_ble_eq_true rfl) ?_
              refine g_iload 280 (gd rfl) rfl rfl ?_
              refine g_if_eq 283 307 (gd rfl) rfl rfl (fun c280 => ?_) (fun c280 => ?_)
              · skip
                refine g_iload_n 308 (gd rfl) rfl rfl ?_
                refine g_istore_n 309 (gd rfl) rfl (Nat.le_of_ble_eq_true rfl) ?_
                refine g_iinc 312 (gd rfl) rfl rfl (Nat.le_of_ble_eq_true rfl) (fun z309 e309 => ?_)
                have i309 := in_add 1 32 e309 i238 (in_c 1 rfl) rfl rfl
                refine g_goto 233 (gd rfl) rfl ?_
                have n233 : CIP s sc233 := by first | exact g55_0 | exact g233_0
                have n233a : CLP s sc233 1024 := by first | exact g233_1 | exact g55_1 c56
                have n233b : (y233_2).toInt < 0 ∨ (In (y233_2) 0 31 ∧ (y233_2).toInt < nnq s ∧ ¬ FSQ s (y233_2).toNatClampNeg ∧ (s.1 151 (y233_2).toNatClampNeg).toInt < 0 ∧ (sc233.2.1 149 (y233_2).toNatClampNeg).toInt < 9000000000000000) := by first | exact g233_2 | (first | exact g233_2 | exact Or.inl (by decide) | exact Or.inr ⟨i238, by unfold nnq; rw [← e_109_20]; have a0 := oa6 i238a i238 j233_2 j233_1 ((in_c 0 rfl)) i309; have a6 := t_add e309 i238 (in_c 1 rfl) rfl; have a7 := in_u ((in_c 1 rfl)); omega, fun h => absurd (p243.mpr ((fs_cg (hFc233.1 111 rfl) (hFc233.2.2.1 109 18 rfl)).mpr h)) (by have h2 := c246; omega), by rw [← hFc233.1 151 rfl, ← e254]; exact c255, by rw [← e263]; have h := i268a.2; omega⟩)
                exact gg_w (by first | exact Nat.le_add_right _ _ | exact gw2 | exact gw3 | exact gwe rfl | exact gwf rfl | exact gwg rfl | exact gwh rfl | omega) (gg_f (gf_cons rfl (gf_cons rfl (gf_cons rfl (gf_cons rfl gf_nil)))) (ih233 sc233 y233_1 y233_2 z309 hIc233 hFc233 (in_w 0 0 j233_1 rfl) (in_w (-1) 31 j233_2 rfl) (in_w 0 32 i309 rfl) n233 n233a n233b (m_up mm233 (t_add e309 i238 (in_c 1 rfl) rfl) (in_w 1 1 (in_c 1 rfl) rfl))))
              · skip
                exact zn_ne c280 (in_c 0 rfl) rfl
            · skip
              have i268 := z_lt (-1) (-1) c268 i267 rfl
              have c268a := lc_lt e267 c268
              have i268a := lr_lt1 (-9223372036854775808) 8999999999999999 c268a (l_rng z263) (l_c 9000000000000000 rfl) rfl
              refine g_iconst 1 272 (gd rfl) rfl rfl ?_
              refine g_goto 276 (gd rfl) rfl ?_
              refine g_istore 278 (gd rfl) rfl (Nat.le_of_ble_eq_true rfl) ?_
              refine g_iload 280 (gd rfl) rfl rfl ?_
              refine g_if_eq 283 307 (gd rfl) rfl rfl (fun c280 => ?_) (fun c280 => ?_)
              · skip
                exact zn_eq c280 (in_c 1 rfl) rfl
              · skip
                refine g_iload_n 284 (gd rfl) rfl rfl ?_
                refine g_if_lt 287 303 (gd rfl) rfl rfl (fun c284 => ?_) (fun c284 => ?_)
                · skip
                  have i284 := z_lt (-1) (-1) c284 j233_2 rfl
                  refine g_iload_n 304 (gd rfl) rfl rfl ?_
                  refine g_goto 308 (gd rfl) rfl ?_
                  refine g_istore_n 309 (gd rfl) rfl (Nat.le_of_ble_eq_true rfl) ?_
                  refine g_iinc 312 (gd rfl) rfl rfl (Nat.le_of_ble_eq_true rfl) (fun z309 e309 => ?_)
                  have i309 := in_add 1 32 e309 i238 (in_c 1 rfl) rfl rfl
                  refine g_goto 233 (gd rfl) rfl ?_
                  have n233 : CIP s sc233 := by first | exact g55_0 | exact g233_0
                  have n233a : CLP s sc233 1024 := by first | exact g233_1 | exact g55_1 c56
                  have n233b : (y233_3).toInt < 0 ∨ (In (y233_3) 0 31 ∧ (y233_3).toInt < nnq s ∧ ¬ FSQ s (y233_3).toNatClampNeg ∧ (s.1 151 (y233_3).toNatClampNeg).toInt < 0 ∧ (sc233.2.1 149 (y233_3).toNatClampNeg).toInt < 9000000000000000) := by first | exact g233_2 | exact Or.inl (by decide) | exact Or.inr ⟨i238, by unfold nnq; rw [← e_109_20]; have a0 := oa6 i238a i238 i284 j233_1 ((in_c 1 rfl)) i309; have a6 := t_add e309 i238 (in_c 1 rfl) rfl; omega, fun h => absurd (p243.mpr ((fs_cg (hFc233.1 111 rfl) (hFc233.2.2.1 109 18 rfl)).mpr h)) (by have h2 := c246; omega), by rw [← hFc233.1 151 rfl, ← e254]; exact c255, by rw [← e263]; have h := i268a.2; omega⟩
                  exact gg_w (by first | exact Nat.le_add_right _ _ | exact gw2 | exact gw3 | exact gwe rfl | exact gwf rfl | exact gwg rfl | exact gwh rfl | omega) (gg_f (gf_cons rfl (gf_cons rfl (gf_cons rfl (gf_cons rfl gf_nil)))) (ih233 sc233 y233_1 y233_3 z309 hIc233 hFc233 (in_w 0 0 j233_1 rfl) (in_w (-1) 31 i238 rfl) (in_w 0 32 i309 rfl) n233 n233a n233b (m_up mm233 (t_add e309 i238 (in_c 1 rfl) rfl) (in_w 1 1 (in_c 1 rfl) rfl))))
                · skip
                  have i284 := z_ge 0 31 c284 j233_2 rfl
                  refine g_aload_n 288 (gd rfl) rfl rfl ?_
                  refine g_getA (q2 := 149) 291 (gd rfl) rfl rfl rfl rfl ?_
                  refine g_iload_n 292 (gd rfl) rfl rfl ?_
                  refine g_laload 293 (gd rfl) rfl (n := 34) rfl (in_ix i238 rfl) (fun z292 e292 => ?_)
                  refine g_aload_n 294 (gd rfl) rfl rfl ?_
                  refine g_getA (q2 := 149) 297 (gd rfl) rfl rfl rfl rfl ?_
                  refine g_iload_n 298 (gd rfl) rfl rfl ?_
                  refine g_laload 299 (gd rfl) rfl (n := 34) rfl (in_ix i284 rfl) (fun z298 e298 => ?_)
                  refine g_lcmp 300 (gd rfl) rfl (fun z299 e299 => ?_)
                  have i299 := lc_in e299
                  refine g_if_ge 303 307 (gd rfl) rfl rfl (fun c300 => ?_) (fun c300 => ?_)
                  · skip
                    have i300 := z_ge 0 1 c300 i299 rfl
                    have c300a := lc_ge e299 c300
                    refine g_iload_n 308 (gd rfl) rfl rfl ?_
                    refine g_istore_n 309 (gd rfl) rfl (Nat.le_of_ble_eq_true rfl) ?_
                    refine g_iinc 312 (gd rfl) rfl rfl (Nat.le_of_ble_eq_true rfl) (fun z309 e309 => ?_)
                    have i309 := in_add 1 32 e309 i238 (in_c 1 rfl) rfl rfl
                    refine g_goto 233 (gd rfl) rfl ?_
                    have n233 : CIP s sc233 := by first | exact g55_0 | exact g233_0
                    have n233a : CLP s sc233 1024 := by first | exact g233_1 | exact g55_1 c56
                    have n233b : (y233_2).toInt < 0 ∨ (In (y233_2) 0 31 ∧ (y233_2).toInt < nnq s ∧ ¬ FSQ s (y233_2).toNatClampNeg ∧ (s.1 151 (y233_2).toNatClampNeg).toInt < 0 ∧ (sc233.2.1 149 (y233_2).toNatClampNeg).toInt < 9000000000000000) := by first | exact g233_2 | (first | exact g233_2 | exact Or.inl (by decide) | exact Or.inr ⟨i238, by unfold nnq; rw [← e_109_20]; have a0 := oa6 i238a i238 i284 j233_1 ((in_c 1 rfl)) i309; have a6 := t_add e309 i238 (in_c 1 rfl) rfl; omega, fun h => absurd (p243.mpr ((fs_cg (hFc233.1 111 rfl) (hFc233.2.2.1 109 18 rfl)).mpr h)) (by have h2 := c246; omega), by rw [← hFc233.1 151 rfl, ← e254]; exact c255, by rw [← e263]; have h := i268a.2; omega⟩)
                    exact gg_w (by first | exact Nat.le_add_right _ _ | exact gw2 | exact gw3 | exact gwe rfl | exact gwf rfl | exact gwg rfl | exact gwh rfl | omega) (gg_f (gf_cons rfl (gf_cons rfl (gf_cons rfl (gf_cons rfl gf_nil)))) (ih233 sc233 y233_1 y233_2 z309 hIc233 hFc233 (in_w 0 0 j233_1 rfl) (in_w (-1) 31 i284 rfl) (in_w 0 32 i309 rfl) n233 n233a n233b (m_up mm233 (t_add e309 i238 (in_c 1 rfl) rfl) (in_w 1 1 (in_c 1 rfl) rfl))))
                  · skip
                    have i300 := z_lt (-1) (-1) c300 i299 rfl
                    have c300a := lc_lt e299 c300
                    have i300a := lr_lt1 (-9223372036854775808) 9223372036854775806 c300a (l_rng z292) (l_rng z298) rfl
                    have i300b := lr_lt2 (-9223372036854775807) 9223372036854775807 c300a (l_rng z292) (l_rng z298) rfl
                    refine g_iload_n 304 (gd rfl) rfl rfl ?_
                    refine g_goto 308 (gd rfl) rfl ?_
                    refine g_istore_n 309 (gd rfl) rfl (Nat.le_of_ble_eq_true rfl) ?_
                    refine g_iinc 312 (gd rfl) rfl rfl (Nat.le_of_ble_eq_true rfl) (fun z309 e309 => ?_)
                    have i309 := in_add 1 32 e309 i238 (in_c 1 rfl) rfl rfl
                    refine g_goto 233 (gd rfl) rfl ?_
                    have n233 : CIP s sc233 := by first | exact g55_0 | exact g233_0
                    have n233a : CLP s sc233 1024 := by first | exact g233_1 | exact g55_1 c56
                    have n233b : (y233_3).toInt < 0 ∨ (In (y233_3) 0 31 ∧ (y233_3).toInt < nnq s ∧ ¬ FSQ s (y233_3).toNatClampNeg ∧ (s.1 151 (y233_3).toNatClampNeg).toInt < 0 ∧ (sc233.2.1 149 (y233_3).toNatClampNeg).toInt < 9000000000000000) := by first | exact g233_2 | exact Or.inl (by decide) | exact Or.inr ⟨i238, by unfold nnq; rw [← e_109_20]; have a0 := oa6 i238a i238 i284 j233_1 ((in_c 1 rfl)) i309; have a6 := t_add e309 i238 (in_c 1 rfl) rfl; omega, fun h => absurd (p243.mpr ((fs_cg (hFc233.1 111 rfl) (hFc233.2.2.1 109 18 rfl)).mpr h)) (by have h2 := c246; omega), by rw [← hFc233.1 151 rfl, ← e254]; exact c255, by rw [← e263]; have h := i268a.2; omega⟩
                    exact gg_w (by first | exact Nat.le_add_right _ _ | exact gw2 | exact gw3 | exact gwe rfl | exact gwf rfl | exact gwg rfl | exact gwh rfl | omega) (gg_f (gf_cons rfl (gf_cons rfl (gf_cons rfl (gf_cons rfl gf_nil)))) (ih233 sc233 y233_1 y233_3 z309 hIc233 hFc233 (in_w 0 0 j233_1 rfl) (in_w (-1) 31 i238 rfl) (in_w 0 32 i309 rfl) n233 n233a n233b (m_up mm233 (t_add e309 i238 (in_c 1 rfl) rfl) (in_w 1 1 (in_c 1 rfl) rfl))))
  have ct55 : ∀ (k55 : Nat) (sc55 : GS) (y55_1 : Int32), Inv sc55 → Fr fm_361 s sc55 → (In y55_1 0 1) → (CIP s sc55) → ((y55_1).toInt = 0 → CLP s sc55 1024) → 2 * mqp s sc55 + (y55_1).toInt.toNat < k55 → GG Z (d - 1) 361 post (gx xp) (29702 + k55 * 925201) 55 (fun j => xlook j [(0, .ref (A 109)), (1, .int y55_1)]) [] (WW Z A sc55 ++ ex) 0 0 := by
    intro k55
    induction k55 with
    | zero => intro sc55 y55_1 hIc55 hFc55 j55_1 g55_0 g55_1 mm55; exact absurd mm55 (Nat.not_lt_zero _)
    | succ k55 ih55 =>
      intro sc55 y55_1 hIc55 hFc55 j55_1 g55_0 g55_1 mm55
      refine gg_w (M := 29702 + k55 * 925201 + 925201) gws ?_
      have ct63 : ∀ (k63 : Nat) (sc63 : GS) (y63_1 : Int32) (y63_2 : Int32), Inv sc63 → Fr fm_361 s sc63 → (In y63_1 0 1) → (In y63_2 0 1024) → (WKP s (mqp s sc55) sc63 (y63_1).toInt (y63_2).toNatClampNeg) → (y55_1.toInt = 1) → 1024 - (y63_2).toInt < (k63 : Int) → GG Z (d - 1) 361 post (gx xp) (29702 + k55 * 925201 + 1 + k63 * 900) 63 (fun j => xlook j [(0, .ref (A 109)), (1, .int y63_1), (2, .int y63_2)]) [] (WW Z A sc63 ++ ex) 0 0 := by
        intro k63
        induction k63 with
        | zero => intro sc63 y63_1 y63_2 hIc63 hFc63 j63_1 j63_2 g63_0 g63_1 mm63; exact m_no mm63 j63_2 rfl
        | succ k63 ih63 =>
          intro sc63 y63_1 y63_2 hIc63 hFc63 j63_1 j63_2 g63_0 g63_1 mm63
          refine gg_w (M := 29702 + k55 * 925201 + 1 + k63 * 900 + 900) gws ?_
          refine g_iload_n 64 (gd rfl) rfl rfl ?_
          refine g_sipush 1024 67 (gd rfl) rfl rfl ?_
          refine g_cmp_ge 70 226 (gd rfl) rfl rfl (fun c67 => ?_) (fun c67 => ?_)
          · skip
            have i67 := r_le2 1024 1024 c67 (in_c 1024 rfl) j63_2 rfl
            refine g_goto 55 (gd rfl) rfl ?_
            have n55 : CIP s sc63 := by first | exact g63_0.1 | exact cip_0 q_0 (hFc2.2.2.1 109 20 rfl) (fun k hk => g2_0 k (by unfold nnq at hk; rw [← e_109_20] at hk; have a0 := oa3 ro_109_20 i67 j63_1; omega))
            have n55a : (y63_1).toInt = 0 → CLP s sc63 1024 := by first | (intro hz; exfalso; have h0 : (Int32.ofInt 1).toInt = 1 := rfl; omega) | (intro hz; have hc := g63_0.2.2.2 hz; rw [show y63_2.toNatClampNeg = 1024 from (by show y63_2.toInt.toNat = 1024; have a0 := oa3 ro_109_20 i67 j63_1; (first | exact zt_e (by omega) | omega))] at hc; exact hc)
            have m55 : 2 * mqp s sc63 + (y63_1).toInt.toNat < k55 := by have hm := mm55; have hj := g63_1; have hm1 := g63_0.2.1; have hm2 := g63_0.2.2.1; by_cases hz : y63_1.toInt = 0; (have a0 := oa3 ro_109_20 i67 j63_1; omega); (have hm3 := hm2 hz; have hjj := j63_1; unfold In at hjj; have a0 := oa3 ro_109_20 i67 j63_1; omega)
            exact gg_w (by first | exact Nat.le_add_right _ _ | exact gw2 | exact gw3 | exact gwe rfl | exact gwf rfl | exact gwg rfl | exact gwh rfl | omega) (gg_f (gf_cons rfl (gf_cons rfl gf_nil)) (ih55  sc63 y63_1 hIc63 hFc63 (in_w 0 1 j63_1 rfl) n55 n55a m55))
          · skip
            have i67 := r_lt1 0 1023 c67 j63_2 (in_c 1024 rfl) rfl
            refine g_iload_n 71 (gd rfl) rfl rfl ?_
            refine g_bipush 32 73 (gd rfl) rfl rfl ?_
            refine g_idiv 74 (gd rfl) rfl (by decide) (fun z73 e73 => ?_)
            have i73 := in_div 0 31 e73 i67 rfl rfl
            refine g_istore_n 75 (gd rfl) rfl (Nat.le_of_ble_eq_true rfl) ?_
            refine g_iload_n 76 (gd rfl) rfl rfl ?_
            refine g_bipush 32 78 (gd rfl) rfl rfl ?_
            refine g_irem 79 (gd rfl) rfl (by decide) (fun z78 e78 => ?_)
            have i78 := in_rem 31 e78 i67 rfl rfl
            refine g_istore 81 (gd rfl) rfl (Nat.le_of_ble_eq_true rfl) ?_
            refine g_aload_n 82 (gd rfl) rfl rfl ?_
            refine g_getA (q2 := 152) 85 (gd rfl) rfl rfl rfl rfl ?_
            refine g_iload_n 86 (gd rfl) rfl rfl ?_
            refine g_laload 87 (gd rfl) rfl (n := 1024) rfl (in_ix i67 rfl) (fun z86 e86 => ?_)
            refine g_ldc2_w 9000000000000000 90 (gd rfl) rfl rfl ?_
            refine g_lcmp 91 (gd rfl) rfl (fun z90 e90 => ?_)
            have i90 := lc_in e90
            refine g_if_ge 94 220 (gd rfl) rfl rfl (fun c91 => ?_) (fun c91 => ?_)
            · skip
              have i91 := z_ge 0 1 c91 i90 rfl
              have c91a := lc_ge e90 c91
              have i91a := lr_le2 9000000000000000 9223372036854775807 c91a (l_c 9000000000000000 rfl) (l_rng z86) rfl
              refine g_iinc 223 (gd rfl) rfl rfl (Nat.le_of_ble_eq_true rfl) (fun z220 e220 => ?_)
              have i220 := in_add 1 1024 e220 i67 (in_c 1 rfl) rfl rfl
              refine g_goto 63 (gd rfl) rfl ?_
              have n63 : WKP s (mqp s sc55) sc63 (y63_1).toInt (z220).toNatClampNeg := by rw [show (z220).toNatClampNeg = y63_2.toNatClampNeg + 1 from (by show z220.toInt.toNat = y63_2.toInt.toNat + 1; have a0 := oa5 ro_109_20 i67 j63_1 i78 i73; have a5 := t_div e73 i67 rfl; have a6 := in_u i220; have a7 := t_add e220 i67 (in_c 1 rfl) rfl; have a8 := in_u ((in_c 1 rfl)); (first | exact zt_s (by omega) (by omega) | omega))]; exact wkp_s g63_0 i73 i78 (kp32 i67 e73 e78) (fun h1 _ _ => by exfalso; rw [← hFc63.2.1 152 rfl, ← e86] at h1; have h := i91a.1; omega)
              have n63a : y55_1.toInt = 1 := by first | exact g63_1 | (first | exact g63_1 | (have hj := j55_1; unfold In at hj; have hc := c56; omega))
              exact gg_w (by first | exact Nat.le_add_right _ _ | exact gw2 | exact gw3 | exact gwe rfl | exact gwf rfl | exact gwg rfl | exact gwh rfl | omega) (gg_f (gf_cons rfl (gf_cons rfl (gf_cons rfl gf_nil))) (ih63 sc63 y63_1 z220 hIc63 hFc63 (in_w 0 1 j63_1 rfl) (in_w 0 1024 i220 rfl) n63 n63a (m_up mm63 (t_add e220 i67 (in_c 1 rfl) rfl) (in_w 1 1 (in_c 1 rfl) rfl))))
            · skip
              have i91 := z_lt (-1) (-1) c91 i90 rfl
              have c91a := lc_lt e90 c91
              have i91a := lr_lt1 (-9223372036854775808) 8999999999999999 c91a (l_rng z86) (l_c 9000000000000000 rfl) rfl
              refine g_aload_n 95 (gd rfl) rfl rfl ?_
              refine g_getA (q2 := 149) 98 (gd rfl) rfl rfl rfl rfl ?_
              refine g_iload_n 99 (gd rfl) rfl rfl ?_
              refine g_laload 100 (gd rfl) rfl (n := 34) rfl (in_ix i73 rfl) (fun z99 e99 => ?_)
              refine g_ldc2_w 9000000000000000 103 (gd rfl) rfl rfl ?_
              refine g_lcmp 104 (gd rfl) rfl (fun z103 e103 => ?_)
              have i103 := lc_in e103
              refine g_if_ge 107 220 (gd rfl) rfl rfl (fun c104 => ?_) (fun c104 => ?_)
              · skip
                have i104 := z_ge 0 1 c104 i103 rfl
                have c104a := lc_ge e103 c104
                have i104a := lr_le2 9000000000000000 9223372036854775807 c104a (l_c 9000000000000000 rfl) (l_rng z99) rfl
                refine g_iinc 223 (gd rfl) rfl rfl (Nat.le_of_ble_eq_true rfl) (fun z220 e220 => ?_)
                have i220 := in_add 1 1024 e220 i67 (in_c 1 rfl) rfl rfl
                refine g_goto 63 (gd rfl) rfl ?_
                have n63 : WKP s (mqp s sc55) sc63 (y63_1).toInt (z220).toNatClampNeg := by rw [show (z220).toNatClampNeg = y63_2.toNatClampNeg + 1 from (by show z220.toInt.toNat = y63_2.toInt.toNat + 1; have a0 := oa5 ro_109_20 i67 j63_1 i78 i73; have a5 := t_div e73 i67 rfl; have a6 := in_u i220; have a7 := t_add e220 i67 (in_c 1 rfl) rfl; have a8 := in_u ((in_c 1 rfl)); (first | exact zt_s (by omega) (by omega) | omega))]; exact wkp_s g63_0 i73 i78 (kp32 i67 e73 e78) (fun _ h2 _ => by exfalso; rw [← e99] at h2; have h := i104a.1; omega)
                have n63a : y55_1.toInt = 1 := by first | exact g63_1 | (first | exact g63_1 | (have hj := j55_1; unfold In at hj; have hc := c56; omega))
                exact gg_w (by first | exact Nat.le_add_right _ _ | exact gw2 | exact gw3 | exact gwe rfl | exact gwf rfl | exact gwg rfl | exact gwh rfl | omega) (gg_f (gf_cons rfl (gf_cons rfl (gf_cons rfl gf_nil))) (ih63 sc63 y63_1 z220 hIc63 hFc63 (in_w 0 1 j63_1 rfl) (in_w 0 1024 i220 rfl) n63 n63a (m_up mm63 (t_add e220 i67 (in_c 1 rfl) rfl) (in_w 1 1 (in_c 1 rfl) rfl))))
              · skip
                have i104 := z_lt (-1) (-1) c104 i103 rfl
                have c104a := lc_lt e103 c104
                have i104a := lr_lt1 (-9223372036854775808) 8999999999999999 c104a (l_rng z99) (l_c 9000000000000000 rfl) rfl
                refine g_aload_n 108 (gd rfl) rfl rfl ?_
                refine g_getA (q2 := 151) 111 (gd rfl) rfl rfl rfl rfl ?_
                refine g_iload_n 112 (gd rfl) rfl rfl ?_
                refine g_iaload 113 (gd rfl) rfl (n := 32) rfl (in_ix i73 rfl) (fun z112 e112 => ?_)
                have i112 := inv_I hIc63 (n := 32) (t := 0) (-1) 31 rfl (in_ix i73 rfl) rfl e112
                refine g_iload 115 (gd rfl) rfl rfl ?_
                refine g_cmp_eq 118 220 (gd rfl) rfl rfl (fun c115 => ?_) (fun c115 => ?_)
                · skip
                  have i115 := r_eq1 0 31 c115 i112 i78 rfl
                  refine g_iinc 223 (gd rfl) rfl rfl (Nat.le_of_ble_eq_true rfl) (fun z220 e220 => ?_)
                  have i220 := in_add 1 1024 e220 i67 (in_c 1 rfl) rfl rfl
                  refine g_goto 63 (gd rfl) rfl ?_
                  have n63 : WKP s (mqp s sc55) sc63 (y63_1).toInt (z220).toNatClampNeg := by rw [show (z220).toNatClampNeg = y63_2.toNatClampNeg + 1 from (by show z220.toInt.toNat = y63_2.toInt.toNat + 1; have a0 := oa5 ro_109_20 i67 j63_1 i78 i73; have a5 := t_div e73 i67 rfl; have a6 := in_u i220; have a7 := t_add e220 i67 (in_c 1 rfl) rfl; have a8 := in_u ((in_c 1 rfl)); (first | exact zt_s (by omega) (by omega) | omega))]; exact wkp_s g63_0 i73 i78 (kp32 i67 e73 e78) (fun _ _ h3 => absurd (by rw [← hFc63.1 151 rfl, ← e112]; exact c115) h3)
                  have n63a : y55_1.toInt = 1 := by first | exact g63_1 | (first | exact g63_1 | (have hj := j55_1; unfold In at hj; have hc := c56; omega))
                  exact gg_w (by first | exact Nat.le_add_right _ _ | exact gw2 | exact gw3 | exact gwe rfl | exact gwf rfl | exact gwg rfl | exact gwh rfl | omega) (gg_f (gf_cons rfl (gf_cons rfl (gf_cons rfl gf_nil))) (ih63 sc63 y63_1 z220 hIc63 hFc63 (in_w 0 1 j63_1 rfl) (in_w 0 1024 i220 rfl) n63 n63a (m_up mm63 (t_add e220 i67 (in_c 1 rfl) rfl) (in_w 1 1 (in_c 1 rfl) rfl))))
                · skip
                  refine g_aload_n 119 (gd rfl) rfl rfl ?_
                  refine g_getA (q2 := 149) 122 (gd rfl) rfl rfl rfl rfl ?_
                  refine g_iload_n 123 (gd rfl) rfl rfl ?_
                  refine g_laload 124 (gd rfl) rfl (n := 34) rfl (in_ix i73 rfl) (fun z123 e123 => ?_)
                  refine g_aload_n 125 (gd rfl) rfl rfl ?_
                  refine g_getA (q2 := 152) 128 (gd rfl) rfl rfl rfl rfl ?_
                  refine g_iload_n 129 (gd rfl) rfl rfl ?_
                  refine g_laload 130 (gd rfl) rfl (n := 1024) rfl (in_ix i67 rfl) (fun z129 e129 => ?_)
                  refine g_ladd 131 (gd rfl) rfl (fun z130 e130 => ?_)
                  refine g_aload_n 132 (gd rfl) rfl rfl ?_
                  refine g_getA (q2 := 149) 135 (gd rfl) rfl rfl rfl rfl ?_
                  refine g_iload 137 (gd rfl) rfl rfl ?_
                  refine g_laload 138 (gd rfl) rfl (n := 34) rfl (in_ix i78 rfl) (fun z137 e137 => ?_)
                  refine g_lcmp 139 (gd rfl) rfl (fun z138 e138 => ?_)
                  have i138 := lc_in e138
                  refine g_if_ge 142 220 (gd rfl) rfl rfl (fun c139 => ?_) (fun c139 => ?_)
                  · skip
                    have i139 := z_ge 0 1 c139 i138 rfl
                    have c139a := lc_ge e138 c139
                    refine g_iinc 223 (gd rfl) rfl rfl (Nat.le_of_ble_eq_true rfl) (fun z220 e220 => ?_)
                    have i220 := in_add 1 1024 e220 i67 (in_c 1 rfl) rfl rfl
                    refine g_goto 63 (gd rfl) rfl ?_
                    have n63 : WKP s (mqp s sc55) sc63 (y63_1).toInt (z220).toNatClampNeg := by rw [show (z220).toNatClampNeg = y63_2.toNatClampNeg + 1 from (by show z220.toInt.toNat = y63_2.toInt.toNat + 1; have a0 := oa5 ro_109_20 i67 j63_1 i78 i73; have a5 := t_div e73 i67 rfl; have a6 := in_u i220; have a7 := t_add e220 i67 (in_c 1 rfl) rfl; have a8 := in_u ((in_c 1 rfl)); (first | exact zt_s (by omega) (by omega) | omega))]; exact wkp_s g63_0 i73 i78 (kp32 i67 e73 e78) (fun _ _ _ => cip_add q_0 (hFc63.2.2.1 109 20 rfl) g63_0.1 i73 i78 (kp32 i67 e73 e78) (by rw [← hFc63.2.1 152 rfl]; exact e129) (by rw [e129, ← e86]; have h := i91a.2; omega) e123 (by rw [e123, ← e99]; have h := i104a.2; omega) e130 e137 c139a)
                    have n63a : y55_1.toInt = 1 := by first | exact g63_1 | (first | exact g63_1 | (have hj := j55_1; unfold In at hj; have hc := c56; omega))
                    exact gg_w (by first | exact Nat.le_add_right _ _ | exact gw2 | exact gw3 | exact gwe rfl | exact gwf rfl | exact gwg rfl | exact gwh rfl | omega) (gg_f (gf_cons rfl (gf_cons rfl (gf_cons rfl gf_nil))) (ih63 sc63 y63_1 z220 hIc63 hFc63 (in_w 0 1 j63_1 rfl) (in_w 0 1024 i220 rfl) n63 n63a (m_up mm63 (t_add e220 i67 (in_c 1 rfl) rfl) (in_w 1 1 (in_c 1 rfl) rfl))))
                  · skip
                    have i139 := z_lt (-1) (-1) c139 i138 rfl
                    have c139a := lc_lt e138 c139
                    have i139a := lr_lt1 (-9223372036854775808) 9223372036854775806 c139a (l_rng z130) (l_rng z137) rfl
                    have i139b := lr_lt2 (-9223372036854775807) 9223372036854775807 c139a (l_rng z130) (l_rng z137) rfl
                    refine g_aload_n 143 (gd rfl) rfl rfl ?_
                    refine g_getA (q2 := 149) 146 (gd rfl) rfl rfl rfl rfl ?_
                    refine g_iload 148 (gd rfl) rfl rfl ?_
                    refine g_aload_n 149 (gd rfl) rfl rfl ?_
                    refine g_getA (q2 := 149) 152 (gd rfl) rfl rfl rfl rfl ?_
                    refine g_iload_n 153 (gd rfl) rfl rfl ?_
                    refine g_laload 154 (gd rfl) rfl (n := 34) rfl (in_ix i73 rfl) (fun z153 e153 => ?_)
                    refine g_aload_n 155 (gd rfl) rfl rfl ?_
                    refine g_getA (q2 := 152) 158 (gd rfl) rfl rfl rfl rfl ?_
                    refine g_iload_n 159 (gd rfl) rfl rfl ?_
                    refine g_laload 160 (gd rfl) rfl (n := 1024) rfl (in_ix i67 rfl) (fun z159 e159 => ?_)
                    refine g_ladd 161 (gd rfl) rfl (fun z160 e160 => ?_)
                    refine g_lastore 162 (gd rfl) rfl (n := 34) rfl (in_ix i78 rfl) ?_
                    have hI161 := inv_sL (q := 149) (j := z78.toNatClampNeg) (x := z160) hIc63 rfl (l_rng z160)
                    refine g_aload_n 163 (gd rfl) rfl rfl ?_
                    refine g_getA (q2 := 148) 166 (gd rfl) rfl rfl rfl rfl ?_
                    refine g_iload 168 (gd rfl) rfl rfl ?_
                    refine g_iload_n 169 (gd rfl) rfl rfl ?_
                    refine g_iastore 170 (gd rfl) rfl (n := 34) rfl (in_ix i78 rfl) ?_
                    have hI169 := inv_sI (q := 148) (j := z78.toNatClampNeg) hI161 rfl (in_w (-1) 1000 i73 rfl)
                    refine g_iconst 1 171 (gd rfl) rfl rfl ?_
                    refine g_istore_n 172 (gd rfl) rfl (Nat.le_of_ble_eq_true rfl) ?_
                    refine g_aload_n 173 (gd rfl) rfl rfl ?_
                    refine g_getA (q2 := 151) 176 (gd rfl) rfl rfl rfl rfl ?_
                    refine g_iload 178 (gd rfl) rfl rfl ?_
                    refine g_iaload 179 (gd rfl) rfl (n := 32) rfl (in_ix i78 rfl) (fun z178 e178 => ?_)
                    have i178 := inv_I hI169 (n := 32) (t := 0) (-1) 31 rfl (in_ix i78 rfl) rfl e178
                    refine g_if_lt 182 220 (gd rfl) rfl rfl (fun c179 => ?_) (fun c179 => ?_)
                    · skip
                      have i179 := z_lt (-1) (-1) c179 i178 rfl
                      refine g_iinc 223 (gd rfl) rfl rfl (Nat.le_of_ble_eq_true rfl) (fun z220 e220 => ?_)
                      have i220 := in_add 1 1024 e220 i67 (in_c 1 rfl) rfl rfl
                      refine g_goto 63 (gd rfl) rfl ?_
                      have n63 : WKP s (mqp s sc55) (sI (sL sc63 149 z78.toNatClampNeg z160) 148 z78.toNatClampNeg z73) ((Int32.ofInt 1)).toInt (z220).toNatClampNeg := by rw [show (z220).toNatClampNeg = y63_2.toNatClampNeg + 1 from (by show z220.toInt.toNat = y63_2.toInt.toNat + 1; have a0 := oa5 ro_109_20 i67 j63_1 i78 i73; have a5 := t_div e73 i67 rfl; have a6 := in_u i220; have a7 := t_add e220 i67 (in_c 1 rfl) rfl; have a8 := in_u ((in_c 1 rfl)); (first | exact zt_s (by omega) (by omega) | omega))]; exact (wkp_ch g63_0 (cip_1 q_0 (hFc63.2.2.1 109 20 rfl) g63_0.1 i73 i78 (kp32 i67 e73 e78) (by rw [← hFc63.2.1 152 rfl]; exact e159) (by rw [e159, ← e86]; have h := i91a.2; omega) e153 (by rw [e153, ← e99]; have h := i104a.2; omega) e160 (by rw [show z160 = z130 from (by rw [e160, e130, e153, e123, e159, e129]), ← e137]; exact c139a) (by rw [← hFc63.1 151 rfl, show sc63.1 151 z78.toNatClampNeg = z178 from (by rw [e178, sI_p rfl]; rfl)]; exact c179)) _)
                      have n63a : y55_1.toInt = 1 := by first | exact g63_1 | (first | exact g63_1 | (have hj := j55_1; unfold In at hj; have hc := c56; omega))
                      exact gg_w (by first | exact Nat.le_add_right _ _ | exact gw2 | exact gw3 | exact gwe rfl | exact gwf rfl | exact gwg rfl | exact gwh rfl | omega) (gg_f (gf_cons rfl (gf_cons rfl (gf_cons rfl gf_nil))) (ih63 (sI (sL sc63 149 z78.toNatClampNeg z160) 148 z78.toNatClampNeg z73) (Int32.ofInt 1) z220 hI169 (fr_sI rfl (fr_sL rfl hFc63)) (in_w 0 1 (in_c 1 rfl) rfl) (in_w 0 1024 i220 rfl) n63 n63a (m_up mm63 (t_add e220 i67 (in_c 1 rfl) rfl) (in_w 1 1 (in_c 1 rfl) rfl))))
                    · skip
                      have i179 := z_ge 0 31 c179 i178 rfl
                      refine g_aload_n 183 (gd rfl) rfl rfl ?_
                      refine g_getA (q2 := 149) 186 (gd rfl) rfl rfl rfl rfl ?_
                      refine g_aload_n 187 (gd rfl) rfl rfl ?_
                      refine g_getA (q2 := 151) 190 (gd rfl) rfl rfl rfl rfl ?_
                      refine g_iload 192 (gd rfl) rfl rfl ?_
                      refine g_iaload 193 (gd rfl) rfl (n := 32) rfl (in_ix i78 rfl) (fun z192 e192 => ?_)
                      have q192 : z178 = z192 := (e178).trans e192.symm
                      subst q192
                      refine g_aload_n 194 (gd rfl) rfl rfl ?_
                      refine g_getA (q2 := 149) 197 (gd rfl) rfl rfl rfl rfl ?_
                      refine g_iload 199 (gd rfl) rfl rfl ?_
                      refine g_laload 200 (gd rfl) rfl (n := 34) rfl (in_ix i78 rfl) (fun z199 e199 => ?_)
                      refine g_aload_n 201 (gd rfl) rfl rfl ?_
                      refine g_getA (q2 := 152) 204 (gd rfl) rfl rfl rfl rfl ?_
                      refine g_bipush 32 206 (gd rfl) rfl rfl ?_
                      refine g_aload_n 207 (gd rfl) rfl rfl ?_
                      refine g_getA (q2 := 151) 210 (gd rfl) rfl rfl rfl rfl ?_
                      refine g_iload 212 (gd rfl) rfl rfl ?_
                      refine g_iaload 213 (gd rfl) rfl (n := 32) rfl (in_ix i78 rfl) (fun z212 e212 => ?_)
                      have q212 : z178 = z212 := (e178).trans e212.symm
                      subst q212
                      refine g_imul 214 (gd rfl) rfl (fun z213 e213 => ?_)
                      have i213 := in_mulc 32 0 992 (Or.inl e213) i179 rfl rfl
                      refine g_iload 216 (gd rfl) rfl rfl ?_
                      refine g_iadd 217 (gd rfl) rfl (fun z216 e216 => ?_)
                      have i216 := in_add 0 1023 e216 i213 i78 rfl rfl
                      refine g_laload 218 (gd rfl) rfl (n := 1024) rfl (in_ix i216 rfl) (fun z217 e217 => ?_)
                      refine g_lsub 219 (gd rfl) rfl (fun z218 e218 => ?_)
                      refine g_lastore 220 (gd rfl) rfl (n := 34) rfl (in_ix i179 rfl) ?_
                      have hI219 := inv_sL (q := 149) (j := z178.toNatClampNeg) (x := z218) hI169 rfl (l_rng z218)
                      refine g_iinc 223 (gd rfl) rfl rfl (Nat.le_of_ble_eq_true rfl) (fun z220 e220 => ?_)
                      have i220 := in_add 1 1024 e220 i67 (in_c 1 rfl) rfl rfl
                      refine g_goto 63 (gd rfl) rfl ?_
                      have n63 : WKP s (mqp s sc55) (sL (sI (sL sc63 149 z78.toNatClampNeg z160) 148 z78.toNatClampNeg z73) 149 z178.toNatClampNeg z218) ((Int32.ofInt 1)).toInt (z220).toNatClampNeg := by rw [show (z220).toNatClampNeg = y63_2.toNatClampNeg + 1 from (by show z220.toInt.toNat = y63_2.toInt.toNat + 1; have a0 := oa5 ro_109_20 i67 j63_1 i78 i73; have a5 := t_div e73 i67 rfl; have a6 := in_u i220; have a7 := t_add e220 i67 (in_c 1 rfl) rfl; have a8 := oa2 ((in_c 1 rfl)) i216; have a10 := t_add e216 i213 i78 rfl; have a11 := in_u i213; have a12 := (t_mulc 32 (Or.inl e213) i179 rfl).1; have a13 := in_u i179; (first | exact zt_s (by omega) (by omega) | omega))]; exact (wkp_ch g63_0 (cip_2 (w2 := z217) q_0 (hFc63.2.2.1 109 20 rfl) g63_0.1 i73 i78 (kp32 i67 e73 e78) (by rw [← hFc63.2.1 152 rfl]; exact e159) (by rw [e159, ← e86]; have h := i91a.2; omega) e153 (by rw [e153, ← e99]; have h := i104a.2; omega) e160 (by rw [show z160 = z130 from (by rw [e160, e130, e153, e123, e159, e129]), ← e137]; exact c139a) (by rw [← hFc63.1 151 rfl, show sc63.1 151 z78.toNatClampNeg = z178 from (by rw [e178, sI_p rfl]; rfl)]; have h := c179; omega) (by rw [← hFc63.1 151 rfl, show sc63.1 151 z78.toNatClampNeg = z178 from (by rw [e178, sI_p rfl]; rfl)]) (by rw [show 32 * z178.toNatClampNeg + z78.toNatClampNeg = z216.toNatClampNeg from (by show 32 * z178.toInt.toNat + z78.toInt.toNat = z216.toInt.toNat; have a0 := oa5 ro_109_20 i67 j63_1 i78 i73; have a5 := t_div e73 i67 rfl; have a6 := in_u i220; have a7 := t_add e220 i67 (in_c 1 rfl) rfl; have a8 := oa2 ((in_c 1 rfl)) i216; have a10 := t_add e216 i213 i78 rfl; have a11 := in_u i213; have a12 := (t_mulc 32 (Or.inl e213) i179 rfl).1; have a13 := in_u i179; omega), ← hFc63.2.1 152 rfl, e217]; simp [sI, sL]) (by rw [e218, show z199 = z160 from (by rw [e199]; simp [sI, sL, vp_updL])])) _)
                      have n63a : y55_1.toInt = 1 := by first | exact g63_1 | (first | exact g63_1 | (have hj := j55_1; unfold In at hj; have hc := c56; omega))
                      exact gg_w (by first | exact Nat.le_add_right _ _ | exact gw2 | exact gw3 | exact gwe rfl | exact gwf rfl | exact gwg rfl | exact gwh rfl | omega) (gg_f (gf_cons rfl (gf_cons rfl (gf_cons rfl gf_nil))) (ih63 (sL (sI (sL sc63 149 z78.toNatClampNeg z160) 148 z78.toNatClampNeg z73) 149 z178.toNatClampNeg z218) (Int32.ofInt 1) z220 hI219 (fr_sL rfl (fr_sI rfl (fr_sL rfl hFc63))) (in_w 0 1 (in_c 1 rfl) rfl) (in_w 0 1024 i220 rfl) n63 n63a (m_up mm63 (t_add e220 i67 (in_c 1 rfl) rfl) (in_w 1 1 (in_c 1 rfl) rfl))))
      refine g_iload_n 56 (gd rfl) rfl rfl ?_
      refine g_if_eq 59 229 (gd rfl) rfl rfl (fun c56 => ?_) (fun c56 => ?_)
      · skip
        have i56 := z_eq 0 0 c56 j55_1 rfl
        refine g_iconst (-1) 230 (gd rfl) rfl rfl ?_
        refine g_istore_n 231 (gd rfl) rfl (Nat.le_of_ble_eq_true rfl) ?_
        refine g_iconst 0 232 (gd rfl) rfl rfl ?_
        refine g_istore_n 233 (gd rfl) rfl (Nat.le_of_ble_eq_true rfl) ?_
        have n233 : CIP s sc55 := by first | exact g55_0 | exact g233_0
        have n233a : CLP s sc55 1024 := by first | exact g233_1 | exact g55_1 c56
        have n233b : ((Int32.ofInt (-1))).toInt < 0 ∨ (In ((Int32.ofInt (-1))) 0 31 ∧ ((Int32.ofInt (-1))).toInt < nnq s ∧ ¬ FSQ s ((Int32.ofInt (-1))).toNatClampNeg ∧ (s.1 151 ((Int32.ofInt (-1))).toNatClampNeg).toInt < 0 ∧ (sc55.2.1 149 ((Int32.ofInt (-1))).toNatClampNeg).toInt < 9000000000000000) := by first | exact g233_2 | exact Or.inl (by decide) | exact Or.inr ⟨i238, by unfold nnq; rw [← e_109_20]; have a0 := oa4 ro_109_20 i56 ((in_c 0 rfl)) ((in_c (-1) rfl)); omega, fun h => absurd (p243.mpr ((fs_cg (hFc233.1 111 rfl) (hFc233.2.2.1 109 18 rfl)).mpr h)) (by have h2 := c246; omega), by rw [← hFc233.1 151 rfl, ← e254]; exact c255, by rw [← e263]; have h := i268a.2; omega⟩
        exact gg_w (by first | exact Nat.le_add_right _ _ | exact gw2 | exact gw3 | exact gwe rfl | exact gwf rfl | exact gwg rfl | exact gwh rfl | omega) (gg_f (gf_cons rfl (gf_cons rfl (gf_cons rfl (gf_cons rfl gf_nil)))) (ct233 33 sc55 y55_1 (Int32.ofInt (-1)) (Int32.ofInt 0) hIc55 hFc55 (in_w 0 0 i56 rfl) (in_w (-1) 31 (in_c (-1) rfl) rfl) (in_w 0 32 (in_c 0 rfl) rfl) n233 n233a n233b (m_in 33 (in_w 0 32 (in_c 0 rfl) rfl) rfl)))
      · skip
        have i56 := z_ne 1 1 c56 j55_1 rfl
        refine g_iconst 0 60 (gd rfl) rfl rfl ?_
        refine g_istore_n 61 (gd rfl) rfl (Nat.le_of_ble_eq_true rfl) ?_
        refine g_iconst 0 62 (gd rfl) rfl rfl ?_
        refine g_istore_n 63 (gd rfl) rfl (Nat.le_of_ble_eq_true rfl) ?_
        have n63 : WKP s (mqp s sc55) sc55 ((Int32.ofInt 0)).toInt ((Int32.ofInt 0)).toNatClampNeg := by exact wkp_0 g55_0
        have n63a : y55_1.toInt = 1 := by first | exact g63_1 | (have hj := j55_1; unfold In at hj; have hc := c56; omega)
        exact gg_w (by first | exact Nat.le_add_right _ _ | exact gw2 | exact gw3 | exact gwe rfl | exact gwf rfl | exact gwg rfl | exact gwh rfl | omega) (gg_f (gf_cons rfl (gf_cons rfl (gf_cons rfl gf_nil))) (ct63 1025 sc55 (Int32.ofInt 0) (Int32.ofInt 0) hIc55 hFc55 (in_w 0 1 (in_c 0 rfl) rfl) (in_w 0 1024 (in_c 0 rfl) rfl) n63 n63a (m_in 1025 (in_w 0 1024 (in_c 0 rfl) rfl) rfl)))
  have ct2 : ∀ (k2 : Nat) (sc2 : GS) (y2_1 : Int32), Inv sc2 → Fr fm_361 s sc2 → (In y2_1 0 32) → (∀ k : Nat, (k : Int) < (y2_1).toInt → (spq s k → (sc2.2.1 149 k).toInt = 0) ∧ (¬ spq s k → (sc2.2.1 149 k).toInt = 9000000000000000)) → 32 - (y2_1).toInt < (k2 : Int) → GG Z (d - 1) 361 post (gx xp) (5921286401880105 + k2 * 900) 2 (fun j => xlook j [(0, .ref (A 109)), (1, .int y2_1)]) [] (WW Z A sc2 ++ ex) 0 0 := by
    intro k2
    induction k2 with
    | zero => intro sc2 y2_1 hIc2 hFc2 j2_1 g2_0 mm2; exact m_no mm2 j2_1 rfl
    | succ k2 ih2 =>
      intro sc2 y2_1 hIc2 hFc2 j2_1 g2_0 mm2
      refine gg_w (M := 5921286401880105 + k2 * 900 + 900) gws ?_
      refine g_iload_n 3 (gd rfl) rfl rfl ?_
      refine g_aload_n 4 (gd rfl) rfl rfl ?_
      refine g_getI 7 (gd rfl) rfl rfl rfl (fun z4 e4 => ?_)
      have q4 : u_109_20 = z4 := (fr_F e_109_20 hFc2 rfl).trans e4.symm
      subst q4
      refine g_cmp_ge 10 53 (gd rfl) rfl rfl (fun c7 => ?_) (fun c7 => ?_)
      · skip
        refine g_iconst 1 54 (gd rfl) rfl rfl ?_
        refine g_istore_n 55 (gd rfl) rfl (Nat.le_of_ble_eq_true rfl) ?_
        have n55 : CIP s sc2 := by first | exact g63_0.1 | exact cip_0 q_0 (hFc2.2.2.1 109 20 rfl) (fun k hk => g2_0 k (by unfold nnq at hk; rw [← e_109_20] at hk; have a0 := oa3 ro_109_20 j2_1 ((in_c 1 rfl)); omega))
        have n55a : ((Int32.ofInt 1)).toInt = 0 → CLP s sc2 1024 := by exact fun h => absurd h (by decide)
        have m55 : 2 * mqp s sc2 + ((Int32.ofInt 1)).toInt.toNat < 6400000002 := by have hm := cip_m n55; have h1 : (Int32.ofInt 1).toInt.toNat = 1 := rfl; omega
        exact gg_w (by first | exact Nat.le_add_right _ _ | exact gw2 | exact gw3 | exact gwe rfl | exact gwf rfl | exact gwg rfl | exact gwh rfl | omega) (gg_f (gf_cons rfl (gf_cons rfl gf_nil)) (ct55 (6400000002) sc2 (Int32.ofInt 1) hIc2 hFc2 (in_w 0 1 (in_c 1 rfl) rfl) n55 n55a m55))
      · skip
        have i7 := r_lt1 0 31 c7 j2_1 ro_109_20 rfl
        have i7a := r_lt2 1 32 c7 j2_1 ro_109_20 rfl
        refine g_aload_n 11 (gd rfl) rfl rfl ?_
        refine g_getA (q2 := 149) 14 (gd rfl) rfl rfl rfl rfl ?_
        refine g_iload_n 15 (gd rfl) rfl rfl ?_
        refine g_aload_n 16 (gd rfl) rfl rfl ?_
        refine g_iload_n 17 (gd rfl) rfl rfl ?_
        refine g_callv (X := _) (As := [.int y2_1]) (r := [.int y2_1, .ref (A 149)]) (b := A 109) (q := 109) 20 (gd rfl) rfl rfl rfl rfl rfl (ww_o rfl) (Nat.le_of_ble_eq_true rfl) (Nat.zero_le _) (Nat.zero_le _) (k_359 (by first | exact dq1 hd rfl | exact dq0 hd rfl | exact dq2 hd rfl | exact dq3 hd rfl | omega) hIc2 (in_w 0 31 i7 rfl)) (fun e u h => h) (fun v u h => ?_)
        obtain ⟨z17, rfl, rfl, i17, p17⟩ := h
        show GG _ _ _ _ _ _ _ _ [.int z17, .int y2_1, .ref (A 149)] _ _ _
        refine g_if_eq 23 36 (gd rfl) rfl rfl (fun c20 => ?_) (fun c20 => ?_)
        · skip
          have i20 := z_eq 0 0 c20 i17 rfl
          refine g_ldc2_w 9000000000000000 39 (gd rfl) rfl rfl ?_
          refine g_lastore 40 (gd rfl) rfl (n := 34) rfl (in_ix i7 rfl) ?_
          have hI39 := inv_sL (q := 149) (j := y2_1.toNatClampNeg) (x := (Int64.ofInt 9000000000000000)) hIc2 rfl (l_rng (Int64.ofInt 9000000000000000))
          refine g_aload_n 41 (gd rfl) rfl rfl ?_
          refine g_getA (q2 := 148) 44 (gd rfl) rfl rfl rfl rfl ?_
          refine g_iload_n 45 (gd rfl) rfl rfl ?_
          refine g_iconst (-1) 46 (gd rfl) rfl rfl ?_
          refine g_iastore 47 (gd rfl) rfl (n := 34) rfl (in_ix i7 rfl) ?_
          have hI46 := inv_sI (q := 148) (j := y2_1.toNatClampNeg) hI39 rfl (in_w (-1) 1000 (in_c (-1) rfl) rfl)
          refine g_iinc 50 (gd rfl) rfl rfl (Nat.le_of_ble_eq_true rfl) (fun z47 e47 => ?_)
          have i47 := in_add 1 32 e47 i7 (in_c 1 rfl) rfl rfl
          refine g_goto 2 (gd rfl) rfl ?_
          have n2 : ∀ k : Nat, (k : Int) < (z47).toInt → (spq s k → ((sI (sL sc2 149 y2_1.toNatClampNeg (Int64.ofInt 9000000000000000)) 148 y2_1.toNatClampNeg (Int32.ofInt (-1))).2.1 149 k).toInt = 0) ∧ (¬ spq s k → ((sI (sL sc2 149 y2_1.toNatClampNeg (Int64.ofInt 9000000000000000)) 148 y2_1.toNatClampNeg (Int32.ofInt (-1))).2.1 149 k).toInt = 9000000000000000) := by exact inp_s (w := Int64.ofInt 9000000000000000) g2_0 (by simp [sI, sL]) (by have a0 := oa3 i7a i7 i47; have a3 := t_add e47 i7 (in_c 1 rfl) rfl; have a4 := in_u ((in_c 1 rfl)); omega) (by have a0 := oa3 i7a i7 i47; have a3 := t_add e47 i7 (in_c 1 rfl) rfl; have a4 := in_u ((in_c 1 rfl)); omega) ⟨fun h => absurd (p17.mpr ((fs_cg (hFc2.1 111 rfl) (hFc2.2.2.1 109 18 rfl)).mpr h.1)) (by have h2 := c20; omega), fun _ => (by have hl : InL (Int64.ofInt 9000000000000000) 9000000000000000 9000000000000000 := l_c 9000000000000000 rfl; exact Int.le_antisymm hl.2 hl.1)⟩
          exact gg_w (by first | exact Nat.le_add_right _ _ | exact gw2 | exact gw3 | exact gwe rfl | exact gwf rfl | exact gwg rfl | exact gwh rfl | omega) (gg_f (gf_cons rfl (gf_cons rfl gf_nil)) (ih2 (sI (sL sc2 149 y2_1.toNatClampNeg (Int64.ofInt 9000000000000000)) 148 y2_1.toNatClampNeg (Int32.ofInt (-1))) z47 hI46 (fr_sI rfl (fr_sL rfl hFc2)) (in_w 0 32 i47 rfl) n2 (m_up mm2 (t_add e47 i7 (in_c 1 rfl) rfl) (in_w 1 1 (in_c 1 rfl) rfl))))
        · skip
          have i20 := z_ne 1 1 c20 i17 rfl
          refine g_aload_n 24 (gd rfl) rfl rfl ?_
          refine g_getA (q2 := 151) 27 (gd rfl) rfl rfl rfl rfl ?_
          refine g_iload_n 28 (gd rfl) rfl rfl ?_
          refine g_iaload 29 (gd rfl) rfl (n := 32) rfl (in_ix i7 rfl) (fun z28 e28 => ?_)
          have i28 := inv_I hIc2 (n := 32) (t := 0) (-1) 31 rfl (in_ix i7 rfl) rfl e28
          refine g_if_ge 32 36 (gd rfl) rfl rfl (fun c29 => ?_) (fun c29 => ?_)
          · skip
            have i29 := z_ge 0 31 c29 i28 rfl
            refine g_ldc2_w 9000000000000000 39 (gd rfl) rfl rfl ?_
            refine g_lastore 40 (gd rfl) rfl (n := 34) rfl (in_ix i7 rfl) ?_
            have hI39 := inv_sL (q := 149) (j := y2_1.toNatClampNeg) (x := (Int64.ofInt 9000000000000000)) hIc2 rfl (l_rng (Int64.ofInt 9000000000000000))
            refine g_aload_n 41 (gd rfl) rfl rfl ?_
            refine g_getA (q2 := 148) 44 (gd rfl) rfl rfl rfl rfl ?_
            refine g_iload_n 45 (gd rfl) rfl rfl ?_
            refine g_iconst (-1) 46 (gd rfl) rfl rfl ?_
            refine g_iastore 47 (gd rfl) rfl (n := 34) rfl (in_ix i7 rfl) ?_
            have hI46 := inv_sI (q := 148) (j := y2_1.toNatClampNeg) hI39 rfl (in_w (-1) 1000 (in_c (-1) rfl) rfl)
            refine g_iinc 50 (gd rfl) rfl rfl (Nat.le_of_ble_eq_true rfl) (fun z47 e47 => ?_)
            have i47 := in_add 1 32 e47 i7 (in_c 1 rfl) rfl rfl
            refine g_goto 2 (gd rfl) rfl ?_
            have n2 : ∀ k : Nat, (k : Int) < (z47).toInt → (spq s k → ((sI (sL sc2 149 y2_1.toNatClampNeg (Int64.ofInt 9000000000000000)) 148 y2_1.toNatClampNeg (Int32.ofInt (-1))).2.1 149 k).toInt = 0) ∧ (¬ spq s k → ((sI (sL sc2 149 y2_1.toNatClampNeg (Int64.ofInt 9000000000000000)) 148 y2_1.toNatClampNeg (Int32.ofInt (-1))).2.1 149 k).toInt = 9000000000000000) := by first | (exact inp_s (w := Int64.ofInt 0) g2_0 (by simp [sI, sL]) (by have a0 := oa3 i7a i7 i47; have a3 := t_add e47 i7 (in_c 1 rfl) rfl; have a4 := in_u ((in_c 1 rfl)); omega) (by have a0 := oa3 i7a i7 i47; have a3 := t_add e47 i7 (in_c 1 rfl) rfl; have a4 := in_u ((in_c 1 rfl)); omega) ⟨fun _ => by decide, fun h => absurd ⟨(fs_cg (hFc2.1 111 rfl) (hFc2.2.2.1 109 18 rfl)).mp (p17.mp c20), by rw [← hFc2.1 151 rfl, ← e28]; exact c29⟩ h⟩) | (exact inp_s (w := Int64.ofInt 9000000000000000) g2_0 (by simp [sI, sL]) (by have a0 := oa3 i7a i7 i47; have a3 := t_add e47 i7 (in_c 1 rfl) rfl; have a4 := in_u ((in_c 1 rfl)); omega) (by have a0 := oa3 i7a i7 i47; have a3 := t_add e47 i7 (in_c 1 rfl) rfl; have a4 := in_u ((in_c 1 rfl)); omega) ⟨fun h => by exfalso; have h2 := h.2; rw [← hFc2.1 151 rfl, ← e28] at h2; have h3 := c29; omega, fun _ => (by have hl : InL (Int64.ofInt 9000000000000000) 9000000000000000 9000000000000000 := l_c 9000000000000000 rfl; exact Int.le_antisymm hl.2 hl.1)⟩)
            exact gg_w (by first | exact Nat.le_add_right _ _ | exact gw2 | exact gw3 | exact gwe rfl | exact gwf rfl | exact gwg rfl | exact gwh rfl | omega) (gg_f (gf_cons rfl (gf_cons rfl gf_nil)) (ih2 (sI (sL sc2 149 y2_1.toNatClampNeg (Int64.ofInt 9000000000000000)) 148 y2_1.toNatClampNeg (Int32.ofInt (-1))) z47 hI46 (fr_sI rfl (fr_sL rfl hFc2)) (in_w 0 32 i47 rfl) n2 (m_up mm2 (t_add e47 i7 (in_c 1 rfl) rfl) (in_w 1 1 (in_c 1 rfl) rfl))))
          · skip
            have i29 := z_lt (-1) (-1) c29 i28 rfl
            refine g_lconst 0 33 (gd rfl) rfl rfl ?_
            refine g_goto 39 (gd rfl) rfl ?_
            refine g_lastore 40 (gd rfl) rfl (n := 34) rfl (in_ix i7 rfl) ?_
            have hI39 := inv_sL (q := 149) (j := y2_1.toNatClampNeg) (x := (Int64.ofInt 0)) hIc2 rfl (l_rng (Int64.ofInt 0))
            refine g_aload_n 41 (gd rfl) rfl rfl ?_
            refine g_getA (q2 := 148) 44 (gd rfl) rfl rfl rfl rfl ?_
            refine g_iload_n 45 (gd rfl) rfl rfl ?_
            refine g_iconst (-1) 46 (gd rfl) rfl rfl ?_
            refine g_iastore 47 (gd rfl) rfl (n := 34) rfl (in_ix i7 rfl) ?_
            have hI46 := inv_sI (q := 148) (j := y2_1.toNatClampNeg) hI39 rfl (in_w (-1) 1000 (in_c (-1) rfl) rfl)
            refine g_iinc 50 (gd rfl) rfl rfl (Nat.le_of_ble_eq_true rfl) (fun z47 e47 => ?_)
            have i47 := in_add 1 32 e47 i7 (in_c 1 rfl) rfl rfl
            refine g_goto 2 (gd rfl) rfl ?_
            have n2 : ∀ k : Nat, (k : Int) < (z47).toInt → (spq s k → ((sI (sL sc2 149 y2_1.toNatClampNeg (Int64.ofInt 0)) 148 y2_1.toNatClampNeg (Int32.ofInt (-1))).2.1 149 k).toInt = 0) ∧ (¬ spq s k → ((sI (sL sc2 149 y2_1.toNatClampNeg (Int64.ofInt 0)) 148 y2_1.toNatClampNeg (Int32.ofInt (-1))).2.1 149 k).toInt = 9000000000000000) := by first | (exact inp_s (w := Int64.ofInt 0) g2_0 (by simp [sI, sL]) (by have a0 := oa3 i7a i7 i47; have a3 := t_add e47 i7 (in_c 1 rfl) rfl; have a4 := in_u ((in_c 1 rfl)); omega) (by have a0 := oa3 i7a i7 i47; have a3 := t_add e47 i7 (in_c 1 rfl) rfl; have a4 := in_u ((in_c 1 rfl)); omega) ⟨fun _ => by decide, fun h => absurd ⟨(fs_cg (hFc2.1 111 rfl) (hFc2.2.2.1 109 18 rfl)).mp (p17.mp c20), by rw [← hFc2.1 151 rfl, ← e28]; exact c29⟩ h⟩) | (exact inp_s (w := Int64.ofInt 9000000000000000) g2_0 (by simp [sI, sL]) (by have a0 := oa3 i7a i7 i47; have a3 := t_add e47 i7 (in_c 1 rfl) rfl; have a4 := in_u ((in_c 1 rfl)); omega) (by have a0 := oa3 i7a i7 i47; have a3 := t_add e47 i7 (in_c 1 rfl) rfl; have a4 := in_u ((in_c 1 rfl)); omega) ⟨fun h => by exfalso; have h2 := h.2; rw [← hFc2.1 151 rfl, ← e28] at h2; have h3 := c29; omega, fun _ => (by have hl : InL (Int64.ofInt 9000000000000000) 9000000000000000 9000000000000000 := l_c 9000000000000000 rfl; exact Int.le_antisymm hl.2 hl.1)⟩)
            exact gg_w (by first | exact Nat.le_add_right _ _ | exact gw2 | exact gw3 | exact gwe rfl | exact gwf rfl | exact gwg rfl | exact gwh rfl | omega) (gg_f (gf_cons rfl (gf_cons rfl gf_nil)) (ih2 (sI (sL sc2 149 y2_1.toNatClampNeg (Int64.ofInt 0)) 148 y2_1.toNatClampNeg (Int32.ofInt (-1))) z47 hI46 (fr_sI rfl (fr_sL rfl hFc2)) (in_w 0 32 i47 rfl) n2 (m_up mm2 (t_add e47 i7 (in_c 1 rfl) rfl) (in_w 1 1 (in_c 1 rfl) rfl))))
  refine g_enter2 (k := 361) (N := 5921286401910705) (by first | exact dq1 hd rfl | exact dq0 hd rfl | exact dq2 hd rfl | exact dq3 hd rfl | omega) rfl (Nat.le_of_ble_eq_true rfl) ?_
  refine g_iconst 0 1 (gd rfl) rfl rfl ?_
  refine g_istore_n 2 (gd rfl) rfl (Nat.le_of_ble_eq_true rfl) ?_
  have n2 : ∀ k : Nat, (k : Int) < ((Int32.ofInt 0)).toInt → (spq s k → (s.2.1 149 k).toInt = 0) ∧ (¬ spq s k → (s.2.1 149 k).toInt = 9000000000000000) := by (intro k hk; exfalso; have h0 : (Int32.ofInt 0).toInt = 0 := rfl; omega)
  exact gg_w (by first | exact Nat.le_of_ble_eq_true rfl | omega) (gg_f (gf_cons rfl (gf_cons rfl gf_nil)) (ct2 33 s (Int32.ofInt 0) hI fr_rf (in_w 0 32 (in_c 0 rfl) rfl) n2 (m_in 33 (in_w 0 32 (in_c 0 rfl) rfl) rfl)))
end
section
/-! methods, by vc.py -/
def fm_363 : FM := ([153, 154, 157, 158, 159], [155, 156], [(109, 0)], [])
/-- GraphHouseModel.tree -/
theorem k_363 {Z : AmZ} {A : Nat → Nat} {s : GS} {ex : va_W} {d : Nat} {X : AmX} {x1 : Int32} (hd : 4 ≤ d) (hI : Inv s)  : GC Z d 363 [.ref (A 109), .int x1] (WW Z A s ++ ex) 0 0 (fun v u => ∃ t : GS, Inv t ∧ Fr fm_363 s t ∧ ∃ z : Int64, v = some (.long z) ∧ u = WW Z A t ++ ex) X := by
  intro post xp hP hX
  obtain ⟨u_109_19, e_109_19⟩ : ∃ w, w = s.2.2.1 109 19 := ⟨_, rfl⟩
  have ro_109_19 := inv_F hI 0 160 rfl e_109_19
  obtain ⟨u_109_20, e_109_20⟩ : ∃ w, w = s.2.2.1 109 20 := ⟨_, rfl⟩
  have ro_109_20 := inv_F hI 0 32 rfl e_109_20
  have ct105 : ∀ (k105 : Nat) (sc105 : GS) (y105_2 : Int32) (y105_3 : Int32) (y105_4 : Int32) (y105_5 : Int64), Inv sc105 → Fr fm_363 s sc105 → (In x1 0 31) → (In y105_2 0 160) → (In y105_3 0 32) → (In y105_4 0 31) → ((y105_4).toInt < (y105_3).toInt) → (0 ≤ (y105_4).toInt) → (0 ≤ (y105_2).toInt) → (EE sc105 (y105_2).toInt (y105_3).toInt) → (y105_3).toInt < (k105 : Int) → GG Z (d - 1) 363 post (gx xp) (1 + k105 * 357304) 105 (fun j => xlook j [(0, .ref (A 109)), (1, .int x1), (2, .int y105_2), (3, .int y105_3), (4, .int y105_4), (5, .long y105_5)]) [] (WW Z A sc105 ++ ex) 0 0 := by
    intro k105
    induction k105 with
    | zero => intro sc105 y105_2 y105_3 y105_4 y105_5 hIc105 hFc105 j105_1 j105_2 j105_3 j105_4 n105_0 n105_1 n105_2 g105_0 mm105; exfalso; have a0 := j105_1; unfold In at a0; have a1 := oa2 ro_109_20 ro_109_19; have a3 := j105_4; unfold In at a3; have a4 := j105_3; unfold In at a4; have a5 := j105_2; unfold In at a5; omega
    | succ k105 ih105 =>
      intro sc105 y105_2 y105_3 y105_4 y105_5 hIc105 hFc105 j105_1 j105_2 j105_3 j105_4 n105_0 n105_1 n105_2 g105_0 mm105
      refine gg_w (M := 1 + k105 * 357304 + 357304) gws ?_
      have ct348 : ∀ (k348 : Nat) (sc348 : GS) (y348_5 : Int64) (y348_7 : Int32) (y348_8 : Int32), Inv sc348 → Fr fm_363 s sc348 → (In y105_3 2 32) → (In y348_7 0 32) → (In y348_8 0 160) → ((y105_4).toInt < (y105_3).toInt) → (0 ≤ (y105_4).toInt) → (0 ≤ (y105_2).toInt) → ((y348_7).toInt < (y105_3).toInt) → (∀ k : Nat, (k : Int) < (y105_3).toInt → 0 ≤ (sc348.1 158 k).toInt ∧ (sc348.1 158 k).toInt < (y348_7).toInt) → (EE sc348 (y348_8).toInt (y348_7).toInt) → (∀ e : Nat, (y348_8).toInt ≤ (e : Int) → (e : Int) < (y105_2).toInt → (sc348.1 153 e).toInt < (y105_3).toInt ∧ (sc348.1 154 e).toInt < (y105_3).toInt) → 160 - (y348_8).toInt < (k348 : Int) → GG Z (d - 1) 363 post (gx xp) (1 + k105 * 357304 + 1 + k348 * 900) 348 (fun j => xlook j [(0, .ref (A 109)), (1, .int x1), (2, .int y105_2), (3, .int y105_3), (4, .int y105_4), (5, .long y348_5), (7, .int y348_7), (8, .int y348_8)]) [] (WW Z A sc348 ++ ex) 0 0 := by
        intro k348
        induction k348 with
        | zero => intro sc348 y348_5 y348_7 y348_8 hIc348 hFc348 j348_3 j348_7 j348_8 n348_0 n348_1 n348_2 n348_3 g348_0 g348_1 g348_2 mm348; exact m_no mm348 j348_8 rfl
        | succ k348 ih348 =>
          intro sc348 y348_5 y348_7 y348_8 hIc348 hFc348 j348_3 j348_7 j348_8 n348_0 n348_1 n348_2 n348_3 g348_0 g348_1 g348_2 mm348
          refine gg_w (M := 1 + k105 * 357304 + 1 + k348 * 900 + 900) gws ?_
          refine g_iload 350 (gd rfl) rfl rfl ?_
          refine g_iload_n 351 (gd rfl) rfl rfl ?_
          refine g_cmp_ge 354 442 (gd rfl) rfl rfl (fun c351 => ?_) (fun c351 => ?_)
          · skip
            refine g_aload_n 443 (gd rfl) rfl rfl ?_
            refine g_getA (q2 := 158) 446 (gd rfl) rfl rfl rfl rfl ?_
            refine g_iload 448 (gd rfl) rfl rfl ?_
            refine g_iaload 449 (gd rfl) rfl (n := 32) rfl (in_ix j105_4 rfl) (fun z448 e448 => ?_)
            have i449 : In z448 0 31 := by have hR := g348_0 y105_4.toNatClampNeg (by show ((y105_4.toInt.toNat : Nat) : Int) < _; have a0 := oa8 j105_4 j348_3 j105_2 j105_1 ro_109_20 ro_109_19 j348_8 j348_7; omega); rw [← e448] at hR; exact ⟨hR.1, by have a0 := oa8 j105_4 j348_3 j105_2 j105_1 ro_109_20 ro_109_19 j348_8 j348_7; omega⟩
            have hz448 : (z448).toInt < y348_7.toInt := (by have hR := g348_0 y105_4.toNatClampNeg (by show ((y105_4.toInt.toNat : Nat) : Int) < _; have a0 := oa8 j105_4 j348_3 j105_2 j105_1 ro_109_20 ro_109_19 j348_8 j348_7; omega); rw [← e448] at hR; exact hR.2)
            refine g_istore 451 (gd rfl) rfl (Nat.le_of_ble_eq_true rfl) ?_
            refine g_iload 453 (gd rfl) rfl rfl ?_
            refine g_istore_n 454 (gd rfl) rfl (Nat.le_of_ble_eq_true rfl) ?_
            refine g_goto 105 (gd rfl) rfl ?_
            have n105 : (z448).toInt < (y348_7).toInt := by have a0 := oa9 j105_4 j348_3 j105_2 j105_1 ro_109_20 ro_109_19 j348_8 j348_7 i449; omega
            have n105a : 0 ≤ (z448).toInt := by have a0 := oa9 j105_4 j348_3 j105_2 j105_1 ro_109_20 ro_109_19 j348_8 j348_7 i449; omega
            have n105b : 0 ≤ (y105_2).toInt := by first | exact n105_2 | (have a0 := oa9 j105_4 j348_3 j105_2 j105_1 ro_109_20 ro_109_19 j348_8 j348_7 i449; omega)
            have n105c : EE sc348 (y105_2).toInt (y348_7).toInt := by first | exact fun e he => g348_1 e (by have a0 := oa9 j105_4 j348_3 j105_2 j105_1 ro_109_20 ro_109_19 j348_8 j348_7 i449; omega) | exact g18_0
            have m105 : (y348_7).toInt < ((k105 : Nat) : Int) := by have a0 := oa9 j105_4 j348_3 j105_2 j105_1 ro_109_20 ro_109_19 j348_8 j348_7 i449; omega
            exact gg_w (by first | exact Nat.le_add_right _ _ | exact gw2 | exact gw3 | exact gwe rfl | exact gwf rfl | exact gwg rfl | exact gwh rfl | omega) (gg_f (gf_cons rfl (gf_cons rfl (gf_cons rfl (gf_cons rfl (gf_cons rfl (gf_cons rfl gf_nil)))))) (ih105  sc348 y105_2 y348_7 z448 y348_5 hIc348 hFc348 (in_w 0 31 j105_1 rfl) (in_w 0 160 j105_2 rfl) (in_w 0 32 j348_7 rfl) (in_w 0 31 i449 rfl) n105 n105a n105b n105c m105))
          · skip
            have i351 := r_lt1 0 159 c351 j348_8 j105_2 rfl
            have i351a := r_lt2 1 160 c351 j348_8 j105_2 rfl
            refine g_aload_n 355 (gd rfl) rfl rfl ?_
            refine g_getA (q2 := 154) 358 (gd rfl) rfl rfl rfl rfl ?_
            refine g_iload 360 (gd rfl) rfl rfl ?_
            refine g_iaload 361 (gd rfl) rfl (n := 160) rfl (in_ix i351 rfl) (fun z360 e360 => ?_)
            have i360 := inv_I hIc348 (n := 160) (t := 0) 0 31 rfl (in_ix i351 rfl) rfl e360
            refine g_istore 363 (gd rfl) rfl (Nat.le_of_ble_eq_true rfl) ?_
            refine g_aload_n 364 (gd rfl) rfl rfl ?_
            refine g_getA (q2 := 155) 367 (gd rfl) rfl rfl rfl rfl ?_
            refine g_iload 369 (gd rfl) rfl rfl ?_
            refine g_dup2 370 (gd rfl) rfl rfl rfl ?_
            refine g_laload 371 (gd rfl) rfl (n := 160) rfl (in_ix i351 rfl) (fun z370 e370 => ?_)
            refine g_aload_n 372 (gd rfl) rfl rfl ?_
            refine g_getA (q2 := 153) 375 (gd rfl) rfl rfl rfl rfl ?_
            refine g_iload 377 (gd rfl) rfl rfl ?_
            refine g_iaload 378 (gd rfl) rfl (n := 160) rfl (in_ix i351 rfl) (fun z377 e377 => ?_)
            have i377 := inv_I hIc348 (n := 160) (t := 0) 0 31 rfl (in_ix i351 rfl) rfl e377
            refine g_iload 380 (gd rfl) rfl rfl ?_
            refine g_cmp_eq 383 400 (gd rfl) rfl rfl (fun c380 => ?_) (fun c380 => ?_)
            · skip
              refine g_lconst 0 401 (gd rfl) rfl rfl ?_
              refine g_lsub 402 (gd rfl) rfl (fun z401 e401 => ?_)
              refine g_lastore 403 (gd rfl) rfl (n := 160) rfl (in_ix i351 rfl) ?_
              have hI402 := inv_sL (q := 155) (j := y348_8.toNatClampNeg) (x := z401) hIc348 rfl (l_rng z401)
              refine g_aload_n 404 (gd rfl) rfl rfl ?_
              refine g_getA (q2 := 153) 407 (gd rfl) rfl rfl rfl rfl ?_
              refine g_iload 409 (gd rfl) rfl rfl ?_
              refine g_aload_n 410 (gd rfl) rfl rfl ?_
              refine g_getA (q2 := 158) 413 (gd rfl) rfl rfl rfl rfl ?_
              refine g_aload_n 414 (gd rfl) rfl rfl ?_
              refine g_getA (q2 := 153) 417 (gd rfl) rfl rfl rfl rfl ?_
              refine g_iload 419 (gd rfl) rfl rfl ?_
              refine g_iaload 420 (gd rfl) rfl (n := 160) rfl (in_ix i351 rfl) (fun z419 e419 => ?_)
              have q419 : z377 = z419 := (sL_I (e377)).trans e419.symm
              subst q419
              refine g_iaload 421 (gd rfl) rfl (n := 32) rfl (in_ix i377 rfl) (fun z420 e420 => ?_)
              have i421 : In z420 0 31 := by have hE := (g348_2 y348_8.toNatClampNeg (by show _ ≤ ((y348_8.toInt.toNat : Nat) : Int); have a0 := oa9 j105_4 j348_3 i351a j105_1 ro_109_20 ro_109_19 i351 j348_7 i360; omega) (by show ((y348_8.toInt.toNat : Nat) : Int) < _; have a0 := oa9 j105_4 j348_3 i351a j105_1 ro_109_20 ro_109_19 i351 j348_7 i360; omega)).1; rw [← e377] at hE; have hR := g348_0 z377.toNatClampNeg (by show ((z377.toInt.toNat : Nat) : Int) < _; have hz := i377; unfold In at hz; omega); rw [show sc348.1 158 z377.toNatClampNeg = z420 from e420.symm] at hR; exact ⟨hR.1, by have a0 := oa9 j105_4 j348_3 i351a j105_1 ro_109_20 ro_109_19 i351 j348_7 i360; omega⟩
              have hz420 : (z420).toInt < y348_7.toInt := (by have hE := (g348_2 y348_8.toNatClampNeg (by show _ ≤ ((y348_8.toInt.toNat : Nat) : Int); have a0 := oa9 j105_4 j348_3 i351a j105_1 ro_109_20 ro_109_19 i351 j348_7 i360; omega) (by show ((y348_8.toInt.toNat : Nat) : Int) < _; have a0 := oa9 j105_4 j348_3 i351a j105_1 ro_109_20 ro_109_19 i351 j348_7 i360; omega)).1; rw [← e377] at hE; have hR := g348_0 z377.toNatClampNeg (by show ((z377.toInt.toNat : Nat) : Int) < _; have hz := i377; unfold In at hz; omega); rw [show sc348.1 158 z377.toNatClampNeg = z420 from e420.symm] at hR; exact hR.2)
              refine g_iastore 422 (gd rfl) rfl (n := 160) rfl (in_ix i351 rfl) ?_
              have hI421 := inv_sI (q := 153) (j := y348_8.toNatClampNeg) hI402 rfl (in_w 0 31 i421 rfl)
              refine g_aload_n 423 (gd rfl) rfl rfl ?_
              refine g_getA (q2 := 154) 426 (gd rfl) rfl rfl rfl rfl ?_
              refine g_iload 428 (gd rfl) rfl rfl ?_
              refine g_aload_n 429 (gd rfl) rfl rfl ?_
              refine g_getA (q2 := 158) 432 (gd rfl) rfl rfl rfl rfl ?_
              refine g_iload 434 (gd rfl) rfl rfl ?_
              refine g_iaload 435 (gd rfl) rfl (n := 32) rfl (in_ix i360 rfl) (fun z434 e434 => ?_)
              have i435 : In z434 0 31 := by have hE := (g348_2 y348_8.toNatClampNeg (by show _ ≤ ((y348_8.toInt.toNat : Nat) : Int); have a0 := oa9 j105_4 j348_3 i351a j105_1 ro_109_20 ro_109_19 i351 j348_7 i360; omega) (by show ((y348_8.toInt.toNat : Nat) : Int) < _; have a0 := oa9 j105_4 j348_3 i351a j105_1 ro_109_20 ro_109_19 i351 j348_7 i360; omega)).2; rw [← e360] at hE; have hR := g348_0 z360.toNatClampNeg (by show ((z360.toInt.toNat : Nat) : Int) < _; have hz := i360; unfold In at hz; omega); rw [show sc348.1 158 z360.toNatClampNeg = z434 from (by have h := e434; rw [sI_p rfl] at h; exact h.symm)] at hR; exact ⟨hR.1, by have a0 := oa9 j105_4 j348_3 i351a j105_1 ro_109_20 ro_109_19 i351 j348_7 i360; omega⟩
              have hz434 : (z434).toInt < y348_7.toInt := (by have hE := (g348_2 y348_8.toNatClampNeg (by show _ ≤ ((y348_8.toInt.toNat : Nat) : Int); have a0 := oa9 j105_4 j348_3 i351a j105_1 ro_109_20 ro_109_19 i351 j348_7 i360; omega) (by show ((y348_8.toInt.toNat : Nat) : Int) < _; have a0 := oa9 j105_4 j348_3 i351a j105_1 ro_109_20 ro_109_19 i351 j348_7 i360; omega)).2; rw [← e360] at hE; have hR := g348_0 z360.toNatClampNeg (by show ((z360.toInt.toNat : Nat) : Int) < _; have hz := i360; unfold In at hz; omega); rw [show sc348.1 158 z360.toNatClampNeg = z434 from (by have h := e434; rw [sI_p rfl] at h; exact h.symm)] at hR; exact hR.2)
              refine g_iastore 436 (gd rfl) rfl (n := 160) rfl (in_ix i351 rfl) ?_
              have hI435 := inv_sI (q := 154) (j := y348_8.toNatClampNeg) hI421 rfl (in_w 0 31 i435 rfl)
              refine g_iinc 439 (gd rfl) rfl rfl (Nat.le_of_ble_eq_true rfl) (fun z436 e436 => ?_)
              have i436 := in_add 1 160 e436 i351 (in_c 1 rfl) rfl rfl
              refine g_goto 348 (gd rfl) rfl ?_
              have n348 : (y105_4).toInt < (y105_3).toInt := by first | exact n105_0 | (have a0 := oa10 j105_4 j348_3 i351a j105_1 ro_109_20 ro_109_19 i351 j348_7 i360 i436; have a10 := t_add e436 i351 (in_c 1 rfl) rfl; have a11 := in_u ((in_c 1 rfl)); omega)
              have n348a : 0 ≤ (y105_4).toInt := by first | exact n105_1 | (have a0 := oa10 j105_4 j348_3 i351a j105_1 ro_109_20 ro_109_19 i351 j348_7 i360 i436; have a10 := t_add e436 i351 (in_c 1 rfl) rfl; have a11 := in_u ((in_c 1 rfl)); omega)
              have n348b : 0 ≤ (y105_2).toInt := by first | exact n105_2 | (have a0 := oa10 j105_4 j348_3 i351a j105_1 ro_109_20 ro_109_19 i351 j348_7 i360 i436; have a10 := t_add e436 i351 (in_c 1 rfl) rfl; have a11 := in_u ((in_c 1 rfl)); omega)
              have n348c : (y348_7).toInt < (y105_3).toInt := by first | exact n348_3 | (have a0 := oa10 j105_4 j348_3 i351a j105_1 ro_109_20 ro_109_19 i351 j348_7 i360 i436; have a10 := t_add e436 i351 (in_c 1 rfl) rfl; have a11 := in_u ((in_c 1 rfl)); omega)
              have n348d : ∀ k : Nat, (k : Int) < (y105_3).toInt → 0 ≤ ((sI (sI (sL sc348 155 y348_8.toNatClampNeg z401) 153 y348_8.toNatClampNeg z420) 154 y348_8.toNatClampNeg z434).1 158 k).toInt ∧ ((sI (sI (sL sc348 155 y348_8.toNatClampNeg z401) 153 y348_8.toNatClampNeg z420) 154 y348_8.toNatClampNeg z434).1 158 k).toInt < (y348_7).toInt := by first | exact p331b | (intro k hk; rw [sI_p rfl, sI_p rfl]; exact g348_0 k hk)
              have n348e : EE (sI (sI (sL sc348 155 y348_8.toNatClampNeg z401) 153 y348_8.toNatClampNeg z420) 154 y348_8.toNatClampNeg z434) (z436).toInt (y348_7).toInt := by first | exact ee_s g348_1 (y := y348_8) (z := z420) (w := z434) (by simp [sL, sI]) (by simp [sL, sI]) (by have a0 := oa10 j105_4 j348_3 i351a j105_1 ro_109_20 ro_109_19 i351 j348_7 i360 i436; have a10 := t_add e436 i351 (in_c 1 rfl) rfl; have a11 := in_u ((in_c 1 rfl)); omega) rfl hz420 hz434 (by have a0 := oa10 j105_4 j348_3 i351a j105_1 ro_109_20 ro_109_19 i351 j348_7 i360 i436; have a10 := t_add e436 i351 (in_c 1 rfl) rfl; have a11 := in_u ((in_c 1 rfl)); omega) | exact ee_0 (by decide)
              have n348f : ∀ e : Nat, (z436).toInt ≤ (e : Int) → (e : Int) < (y105_2).toInt → ((sI (sI (sL sc348 155 y348_8.toNatClampNeg z401) 153 y348_8.toNatClampNeg z420) 154 y348_8.toNatClampNeg z434).1 153 e).toInt < (y105_3).toInt ∧ ((sI (sI (sL sc348 155 y348_8.toNatClampNeg z401) 153 y348_8.toNatClampNeg z420) 154 y348_8.toNatClampNeg z434).1 154 e).toInt < (y105_3).toInt := by first | (intro e h1 h2; rw [hF331.1 153 rfl, hF331.1 154 rfl]; exact g252_0 e h2) | (intro e h1 h2; have q1 : ((sI (sI (sL sc348 155 y348_8.toNatClampNeg z401) 153 y348_8.toNatClampNeg z420) 154 y348_8.toNatClampNeg z434)).1 153 = upd (sc348.1 153) y348_8.toNatClampNeg z420 := (by simp [sL, sI]); have q2 : ((sI (sI (sL sc348 155 y348_8.toNatClampNeg z401) 153 y348_8.toNatClampNeg z420) 154 y348_8.toNatClampNeg z434)).1 154 = upd (sc348.1 154) y348_8.toNatClampNeg z434 := (by simp [sL, sI]); have e8 : y348_8.toNatClampNeg = y348_8.toInt.toNat := rfl; have hne : e ≠ y348_8.toNatClampNeg := (by have a0 := oa10 j105_4 j348_3 i351a j105_1 ro_109_20 ro_109_19 i351 j348_7 i360 i436; have a10 := t_add e436 i351 (in_c 1 rfl) rfl; have a11 := in_u ((in_c 1 rfl)); omega); rw [q1, q2]; unfold upd; rw [if_neg hne, if_neg hne]; exact g348_2 e (by have a0 := oa10 j105_4 j348_3 i351a j105_1 ro_109_20 ro_109_19 i351 j348_7 i360 i436; have a10 := t_add e436 i351 (in_c 1 rfl) rfl; have a11 := in_u ((in_c 1 rfl)); omega) h2)
              exact gg_w (by first | exact Nat.le_add_right _ _ | exact gw2 | exact gw3 | exact gwe rfl | exact gwf rfl | exact gwg rfl | exact gwh rfl | omega) (gg_f (gf_cons rfl (gf_cons rfl (gf_cons rfl (gf_cons rfl (gf_cons rfl (gf_cons rfl (gf_cons rfl (gf_cons rfl gf_nil)))))))) (ih348 (sI (sI (sL sc348 155 y348_8.toNatClampNeg z401) 153 y348_8.toNatClampNeg z420) 154 y348_8.toNatClampNeg z434) y348_5 y348_7 z436 hI435 (fr_sI rfl (fr_sI rfl (fr_sL rfl hFc348))) (in_w 2 32 j348_3 rfl) (in_w 0 32 j348_7 rfl) (in_w 0 160 i436 rfl) n348 n348a n348b n348c n348d n348e n348f (m_up mm348 (t_add e436 i351 (in_c 1 rfl) rfl) (in_w 1 1 (in_c 1 rfl) rfl))))
            · skip
              refine g_iload 385 (gd rfl) rfl rfl ?_
              refine g_iload 387 (gd rfl) rfl rfl ?_
              refine g_cmp_eq 390 400 (gd rfl) rfl rfl (fun c387 => ?_) (fun c387 => ?_)
              · skip
                refine g_lconst 0 401 (gd rfl) rfl rfl ?_
                refine g_lsub 402 (gd rfl) rfl (fun z401 e401 => ?_)
                refine g_lastore 403 (gd rfl) rfl (n := 160) rfl (in_ix i351 rfl) ?_
                have hI402 := inv_sL (q := 155) (j := y348_8.toNatClampNeg) (x := z401) hIc348 rfl (l_rng z401)
                refine g_aload_n 404 (gd rfl) rfl rfl ?_
                refine g_getA (q2 := 153) 407 (gd rfl) rfl rfl rfl rfl ?_
                refine g_iload 409 (gd rfl) rfl rfl ?_
                refine g_aload_n 410 (gd rfl) rfl rfl ?_
                refine g_getA (q2 := 158) 413 (gd rfl) rfl rfl rfl rfl ?_
                refine g_aload_n 414 (gd rfl) rfl rfl ?_
                refine g_getA (q2 := 153) 417 (gd rfl) rfl rfl rfl rfl ?_
                refine g_iload 419 (gd rfl) rfl rfl ?_
                refine g_iaload 420 (gd rfl) rfl (n := 160) rfl (in_ix i351 rfl) (fun z419 e419 => ?_)
                have q419 : z377 = z419 := (sL_I (e377)).trans e419.symm
                subst q419
                refine g_iaload 421 (gd rfl) rfl (n := 32) rfl (in_ix i377 rfl) (fun z420 e420 => ?_)
                have i421 : In z420 0 31 := by have hE := (g348_2 y348_8.toNatClampNeg (by show _ ≤ ((y348_8.toInt.toNat : Nat) : Int); have a0 := oa9 j105_4 j348_3 i351a j105_1 ro_109_20 ro_109_19 i351 j348_7 i360; omega) (by show ((y348_8.toInt.toNat : Nat) : Int) < _; have a0 := oa9 j105_4 j348_3 i351a j105_1 ro_109_20 ro_109_19 i351 j348_7 i360; omega)).1; rw [← e377] at hE; have hR := g348_0 z377.toNatClampNeg (by show ((z377.toInt.toNat : Nat) : Int) < _; have hz := i377; unfold In at hz; omega); rw [show sc348.1 158 z377.toNatClampNeg = z420 from e420.symm] at hR; exact ⟨hR.1, by have a0 := oa9 j105_4 j348_3 i351a j105_1 ro_109_20 ro_109_19 i351 j348_7 i360; omega⟩
                have hz420 : (z420).toInt < y348_7.toInt := (by have hE := (g348_2 y348_8.toNatClampNeg (by show _ ≤ ((y348_8.toInt.toNat : Nat) : Int); have a0 := oa9 j105_4 j348_3 i351a j105_1 ro_109_20 ro_109_19 i351 j348_7 i360; omega) (by show ((y348_8.toInt.toNat : Nat) : Int) < _; have a0 := oa9 j105_4 j348_3 i351a j105_1 ro_109_20 ro_109_19 i351 j348_7 i360; omega)).1; rw [← e377] at hE; have hR := g348_0 z377.toNatClampNeg (by show ((z377.toInt.toNat : Nat) : Int) < _; have hz := i377; unfold In at hz; omega); rw [show sc348.1 158 z377.toNatClampNeg = z420 from e420.symm] at hR; exact hR.2)
                refine g_iastore 422 (gd rfl) rfl (n := 160) rfl (in_ix i351 rfl) ?_
                have hI421 := inv_sI (q := 153) (j := y348_8.toNatClampNeg) hI402 rfl (in_w 0 31 i421 rfl)
                refine g_aload_n 423 (gd rfl) rfl rfl ?_
                refine g_getA (q2 := 154) 426 (gd rfl) rfl rfl rfl rfl ?_
                refine g_iload 428 (gd rfl) rfl rfl ?_
                refine g_aload_n 429 (gd rfl) rfl rfl ?_
                refine g_getA (q2 := 158) 432 (gd rfl) rfl rfl rfl rfl ?_
                refine g_iload 434 (gd rfl) rfl rfl ?_
                refine g_iaload 435 (gd rfl) rfl (n := 32) rfl (in_ix i360 rfl) (fun z434 e434 => ?_)
                have i435 : In z434 0 31 := by have hE := (g348_2 y348_8.toNatClampNeg (by show _ ≤ ((y348_8.toInt.toNat : Nat) : Int); have a0 := oa9 j105_4 j348_3 i351a j105_1 ro_109_20 ro_109_19 i351 j348_7 i360; omega) (by show ((y348_8.toInt.toNat : Nat) : Int) < _; have a0 := oa9 j105_4 j348_3 i351a j105_1 ro_109_20 ro_109_19 i351 j348_7 i360; omega)).2; rw [← e360] at hE; have hR := g348_0 z360.toNatClampNeg (by show ((z360.toInt.toNat : Nat) : Int) < _; have hz := i360; unfold In at hz; omega); rw [show sc348.1 158 z360.toNatClampNeg = z434 from (by have h := e434; rw [sI_p rfl] at h; exact h.symm)] at hR; exact ⟨hR.1, by have a0 := oa9 j105_4 j348_3 i351a j105_1 ro_109_20 ro_109_19 i351 j348_7 i360; omega⟩
                have hz434 : (z434).toInt < y348_7.toInt := (by have hE := (g348_2 y348_8.toNatClampNeg (by show _ ≤ ((y348_8.toInt.toNat : Nat) : Int); have a0 := oa9 j105_4 j348_3 i351a j105_1 ro_109_20 ro_109_19 i351 j348_7 i360; omega) (by show ((y348_8.toInt.toNat : Nat) : Int) < _; have a0 := oa9 j105_4 j348_3 i351a j105_1 ro_109_20 ro_109_19 i351 j348_7 i360; omega)).2; rw [← e360] at hE; have hR := g348_0 z360.toNatClampNeg (by show ((z360.toInt.toNat : Nat) : Int) < _; have hz := i360; unfold In at hz; omega); rw [show sc348.1 158 z360.toNatClampNeg = z434 from (by have h := e434; rw [sI_p rfl] at h; exact h.symm)] at hR; exact hR.2)
                refine g_iastore 436 (gd rfl) rfl (n := 160) rfl (in_ix i351 rfl) ?_
                have hI435 := inv_sI (q := 154) (j := y348_8.toNatClampNeg) hI421 rfl (in_w 0 31 i435 rfl)
                refine g_iinc 439 (gd rfl) rfl rfl (Nat.le_of_ble_eq_true rfl) (fun z436 e436 => ?_)
                have i436 := in_add 1 160 e436 i351 (in_c 1 rfl) rfl rfl
                refine g_goto 348 (gd rfl) rfl ?_
                have n348 : (y105_4).toInt < (y105_3).toInt := by first | exact n105_0 | (have a0 := oa10 j105_4 j348_3 i351a j105_1 ro_109_20 ro_109_19 i351 j348_7 i360 i436; have a10 := t_add e436 i351 (in_c 1 rfl) rfl; have a11 := in_u ((in_c 1 rfl)); omega)
                have n348a : 0 ≤ (y105_4).toInt := by first | exact n105_1 | (have a0 := oa10 j105_4 j348_3 i351a j105_1 ro_109_20 ro_109_19 i351 j348_7 i360 i436; have a10 := t_add e436 i351 (in_c 1 rfl) rfl; have a11 := in_u ((in_c 1 rfl)); omega)
                have n348b : 0 ≤ (y105_2).toInt := by first | exact n105_2 | (have a0 := oa10 j105_4 j348_3 i351a j105_1 ro_109_20 ro_109_19 i351 j348_7 i360 i436; have a10 := t_add e436 i351 (in_c 1 rfl) rfl; have a11 := in_u ((in_c 1 rfl)); omega)
                have n348c : (y348_7).toInt < (y105_3).toInt := by first | exact n348_3 | (have a0 := oa10 j105_4 j348_3 i351a j105_1 ro_109_20 ro_109_19 i351 j348_7 i360 i436; have a10 := t_add e436 i351 (in_c 1 rfl) rfl; have a11 := in_u ((in_c 1 rfl)); omega)
                have n348d : ∀ k : Nat, (k : Int) < (y105_3).toInt → 0 ≤ ((sI (sI (sL sc348 155 y348_8.toNatClampNeg z401) 153 y348_8.toNatClampNeg z420) 154 y348_8.toNatClampNeg z434).1 158 k).toInt ∧ ((sI (sI (sL sc348 155 y348_8.toNatClampNeg z401) 153 y348_8.toNatClampNeg z420) 154 y348_8.toNatClampNeg z434).1 158 k).toInt < (y348_7).toInt := by first | exact p331b | (intro k hk; rw [sI_p rfl, sI_p rfl]; exact g348_0 k hk)
                have n348e : EE (sI (sI (sL sc348 155 y348_8.toNatClampNeg z401) 153 y348_8.toNatClampNeg z420) 154 y348_8.toNatClampNeg z434) (z436).toInt (y348_7).toInt := by first | exact ee_s g348_1 (y := y348_8) (z := z420) (w := z434) (by simp [sL, sI]) (by simp [sL, sI]) (by have a0 := oa10 j105_4 j348_3 i351a j105_1 ro_109_20 ro_109_19 i351 j348_7 i360 i436; have a10 := t_add e436 i351 (in_c 1 rfl) rfl; have a11 := in_u ((in_c 1 rfl)); omega) rfl hz420 hz434 (by have a0 := oa10 j105_4 j348_3 i351a j105_1 ro_109_20 ro_109_19 i351 j348_7 i360 i436; have a10 := t_add e436 i351 (in_c 1 rfl) rfl; have a11 := in_u ((in_c 1 rfl)); omega) | exact ee_0 (by decide)
                have n348f : ∀ e : Nat, (z436).toInt ≤ (e : Int) → (e : Int) < (y105_2).toInt → ((sI (sI (sL sc348 155 y348_8.toNatClampNeg z401) 153 y348_8.toNatClampNeg z420) 154 y348_8.toNatClampNeg z434).1 153 e).toInt < (y105_3).toInt ∧ ((sI (sI (sL sc348 155 y348_8.toNatClampNeg z401) 153 y348_8.toNatClampNeg z420) 154 y348_8.toNatClampNeg z434).1 154 e).toInt < (y105_3).toInt := by first | (intro e h1 h2; rw [hF331.1 153 rfl, hF331.1 154 rfl]; exact g252_0 e h2) | (intro e h1 h2; have q1 : ((sI (sI (sL sc348 155 y348_8.toNatClampNeg z401) 153 y348_8.toNatClampNeg z420) 154 y348_8.toNatClampNeg z434)).1 153 = upd (sc348.1 153) y348_8.toNatClampNeg z420 := (by simp [sL, sI]); have q2 : ((sI (sI (sL sc348 155 y348_8.toNatClampNeg z401) 153 y348_8.toNatClampNeg z420) 154 y348_8.toNatClampNeg z434)).1 154 = upd (sc348.1 154) y348_8.toNatClampNeg z434 := (by simp [sL, sI]); have e8 : y348_8.toNatClampNeg = y348_8.toInt.toNat := rfl; have hne : e ≠ y348_8.toNatClampNeg := (by have a0 := oa10 j105_4 j348_3 i351a j105_1 ro_109_20 ro_109_19 i351 j348_7 i360 i436; have a10 := t_add e436 i351 (in_c 1 rfl) rfl; have a11 := in_u ((in_c 1 rfl)); omega); rw [q1, q2]; unfold upd; rw [if_neg hne, if_neg hne]; exact g348_2 e (by have a0 := oa10 j105_4 j348_3 i351a j105_1 ro_109_20 ro_109_19 i351 j348_7 i360 i436; have a10 := t_add e436 i351 (in_c 1 rfl) rfl; have a11 := in_u ((in_c 1 rfl)); omega) h2)
                exact gg_w (by first | exact Nat.le_add_right _ _ | exact gw2 | exact gw3 | exact gwe rfl | exact gwf rfl | exact gwg rfl | exact gwh rfl | omega) (gg_f (gf_cons rfl (gf_cons rfl (gf_cons rfl (gf_cons rfl (gf_cons rfl (gf_cons rfl (gf_cons rfl (gf_cons rfl gf_nil)))))))) (ih348 (sI (sI (sL sc348 155 y348_8.toNatClampNeg z401) 153 y348_8.toNatClampNeg z420) 154 y348_8.toNatClampNeg z434) y348_5 y348_7 z436 hI435 (fr_sI rfl (fr_sI rfl (fr_sL rfl hFc348))) (in_w 2 32 j348_3 rfl) (in_w 0 32 j348_7 rfl) (in_w 0 160 i436 rfl) n348 n348a n348b n348c n348d n348e n348f (m_up mm348 (t_add e436 i351 (in_c 1 rfl) rfl) (in_w 1 1 (in_c 1 rfl) rfl))))
              · skip
                refine g_aload_n 391 (gd rfl) rfl rfl ?_
                refine g_getA (q2 := 156) 394 (gd rfl) rfl rfl rfl rfl ?_
                refine g_iload 396 (gd rfl) rfl rfl ?_
                refine g_laload 397 (gd rfl) rfl (n := 32) rfl (in_ix i360 rfl) (fun z396 e396 => ?_)
                refine g_goto 401 (gd rfl) rfl ?_
                refine g_lsub 402 (gd rfl) rfl (fun z401 e401 => ?_)
                refine g_lastore 403 (gd rfl) rfl (n := 160) rfl (in_ix i351 rfl) ?_
                have hI402 := inv_sL (q := 155) (j := y348_8.toNatClampNeg) (x := z401) hIc348 rfl (l_rng z401)
                refine g_aload_n 404 (gd rfl) rfl rfl ?_
                refine g_getA (q2 := 153) 407 (gd rfl) rfl rfl rfl rfl ?_
                refine g_iload 409 (gd rfl) rfl rfl ?_
                refine g_aload_n 410 (gd rfl) rfl rfl ?_
                refine g_getA (q2 := 158) 413 (gd rfl) rfl rfl rfl rfl ?_
                refine g_aload_n 414 (gd rfl) rfl rfl ?_
                refine g_getA (q2 := 153) 417 (gd rfl) rfl rfl rfl rfl ?_
                refine g_iload 419 (gd rfl) rfl rfl ?_
                refine g_iaload 420 (gd rfl) rfl (n := 160) rfl (in_ix i351 rfl) (fun z419 e419 => ?_)
                have q419 : z377 = z419 := (sL_I (e377)).trans e419.symm
                subst q419
                refine g_iaload 421 (gd rfl) rfl (n := 32) rfl (in_ix i377 rfl) (fun z420 e420 => ?_)
                have i421 : In z420 0 31 := by have hE := (g348_2 y348_8.toNatClampNeg (by show _ ≤ ((y348_8.toInt.toNat : Nat) : Int); have a0 := oa9 j105_4 j348_3 i351a j105_1 ro_109_20 ro_109_19 i351 j348_7 i360; omega) (by show ((y348_8.toInt.toNat : Nat) : Int) < _; have a0 := oa9 j105_4 j348_3 i351a j105_1 ro_109_20 ro_109_19 i351 j348_7 i360; omega)).1; rw [← e377] at hE; have hR := g348_0 z377.toNatClampNeg (by show ((z377.toInt.toNat : Nat) : Int) < _; have hz := i377; unfold In at hz; omega); rw [show sc348.1 158 z377.toNatClampNeg = z420 from e420.symm] at hR; exact ⟨hR.1, by have a0 := oa9 j105_4 j348_3 i351a j105_1 ro_109_20 ro_109_19 i351 j348_7 i360; omega⟩
                have hz420 : (z420).toInt < y348_7.toInt := (by have hE := (g348_2 y348_8.toNatClampNeg (by show _ ≤ ((y348_8.toInt.toNat : Nat) : Int); have a0 := oa9 j105_4 j348_3 i351a j105_1 ro_109_20 ro_109_19 i351 j348_7 i360; omega) (by show ((y348_8.toInt.toNat : Nat) : Int) < _; have a0 := oa9 j105_4 j348_3 i351a j105_1 ro_109_20 ro_109_19 i351 j348_7 i360; omega)).1; rw [← e377] at hE; have hR := g348_0 z377.toNatClampNeg (by show ((z377.toInt.toNat : Nat) : Int) < _; have hz := i377; unfold In at hz; omega); rw [show sc348.1 158 z377.toNatClampNeg = z420 from e420.symm] at hR; exact hR.2)
                refine g_iastore 422 (gd rfl) rfl (n := 160) rfl (in_ix i351 rfl) ?_
                have hI421 := inv_sI (q := 153) (j := y348_8.toNatClampNeg) hI402 rfl (in_w 0 31 i421 rfl)
                refine g_aload_n 423 (gd rfl) rfl rfl ?_
                refine g_getA (q2 := 154) 426 (gd rfl) rfl rfl rfl rfl ?_
                refine g_iload 428 (gd rfl) rfl rfl ?_
                refine g_aload_n 429 (gd rfl) rfl rfl ?_
                refine g_getA (q2 := 158) 432 (gd rfl) rfl rfl rfl rfl ?_
                refine g_iload 434 (gd rfl) rfl rfl ?_
                refine g_iaload 435 (gd rfl) rfl (n := 32) rfl (in_ix i360 rfl) (fun z434 e434 => ?_)
                have i435 : In z434 0 31 := by have hE := (g348_2 y348_8.toNatClampNeg (by show _ ≤ ((y348_8.toInt.toNat : Nat) : Int); have a0 := oa9 j105_4 j348_3 i351a j105_1 ro_109_20 ro_109_19 i351 j348_7 i360; omega) (by show ((y348_8.toInt.toNat : Nat) : Int) < _; have a0 := oa9 j105_4 j348_3 i351a j105_1 ro_109_20 ro_109_19 i351 j348_7 i360; omega)).2; rw [← e360] at hE; have hR := g348_0 z360.toNatClampNeg (by show ((z360.toInt.toNat : Nat) : Int) < _; have hz := i360; unfold In at hz; omega); rw [show sc348.1 158 z360.toNatClampNeg = z434 from (by have h := e434; rw [sI_p rfl] at h; exact h.symm)] at hR; exact ⟨hR.1, by have a0 := oa9 j105_4 j348_3 i351a j105_1 ro_109_20 ro_109_19 i351 j348_7 i360; omega⟩
                have hz434 : (z434).toInt < y348_7.toInt := (by have hE := (g348_2 y348_8.toNatClampNeg (by show _ ≤ ((y348_8.toInt.toNat : Nat) : Int); have a0 := oa9 j105_4 j348_3 i351a j105_1 ro_109_20 ro_109_19 i351 j348_7 i360; omega) (by show ((y348_8.toInt.toNat : Nat) : Int) < _; have a0 := oa9 j105_4 j348_3 i351a j105_1 ro_109_20 ro_109_19 i351 j348_7 i360; omega)).2; rw [← e360] at hE; have hR := g348_0 z360.toNatClampNeg (by show ((z360.toInt.toNat : Nat) : Int) < _; have hz := i360; unfold In at hz; omega); rw [show sc348.1 158 z360.toNatClampNeg = z434 from (by have h := e434; rw [sI_p rfl] at h; exact h.symm)] at hR; exact hR.2)
                refine g_iastore 436 (gd rfl) rfl (n := 160) rfl (in_ix i351 rfl) ?_
                have hI435 := inv_sI (q := 154) (j := y348_8.toNatClampNeg) hI421 rfl (in_w 0 31 i435 rfl)
                refine g_iinc 439 (gd rfl) rfl rfl (Nat.le_of_ble_eq_true rfl) (fun z436 e436 => ?_)
                have i436 := in_add 1 160 e436 i351 (in_c 1 rfl) rfl rfl
                refine g_goto 348 (gd rfl) rfl ?_
                have n348 : (y105_4).toInt < (y105_3).toInt := by first | exact n105_0 | (have a0 := oa10 j105_4 j348_3 i351a j105_1 ro_109_20 ro_109_19 i351 j348_7 i360 i436; have a10 := t_add e436 i351 (in_c 1 rfl) rfl; have a11 := in_u ((in_c 1 rfl)); omega)
                have n348a : 0 ≤ (y105_4).toInt := by first | exact n105_1 | (have a0 := oa10 j105_4 j348_3 i351a j105_1 ro_109_20 ro_109_19 i351 j348_7 i360 i436; have a10 := t_add e436 i351 (in_c 1 rfl) rfl; have a11 := in_u ((in_c 1 rfl)); omega)
                have n348b : 0 ≤ (y105_2).toInt := by first | exact n105_2 | (have a0 := oa10 j105_4 j348_3 i351a j105_1 ro_109_20 ro_109_19 i351 j348_7 i360 i436; have a10 := t_add e436 i351 (in_c 1 rfl) rfl; have a11 := in_u ((in_c 1 rfl)); omega)
                have n348c : (y348_7).toInt < (y105_3).toInt := by first | exact n348_3 | (have a0 := oa10 j105_4 j348_3 i351a j105_1 ro_109_20 ro_109_19 i351 j348_7 i360 i436; have a10 := t_add e436 i351 (in_c 1 rfl) rfl; have a11 := in_u ((in_c 1 rfl)); omega)
                have n348d : ∀ k : Nat, (k : Int) < (y105_3).toInt → 0 ≤ ((sI (sI (sL sc348 155 y348_8.toNatClampNeg z401) 153 y348_8.toNatClampNeg z420) 154 y348_8.toNatClampNeg z434).1 158 k).toInt ∧ ((sI (sI (sL sc348 155 y348_8.toNatClampNeg z401) 153 y348_8.toNatClampNeg z420) 154 y348_8.toNatClampNeg z434).1 158 k).toInt < (y348_7).toInt := by first | exact p331b | (intro k hk; rw [sI_p rfl, sI_p rfl]; exact g348_0 k hk)
                have n348e : EE (sI (sI (sL sc348 155 y348_8.toNatClampNeg z401) 153 y348_8.toNatClampNeg z420) 154 y348_8.toNatClampNeg z434) (z436).toInt (y348_7).toInt := by first | exact ee_s g348_1 (y := y348_8) (z := z420) (w := z434) (by simp [sL, sI]) (by simp [sL, sI]) (by have a0 := oa10 j105_4 j348_3 i351a j105_1 ro_109_20 ro_109_19 i351 j348_7 i360 i436; have a10 := t_add e436 i351 (in_c 1 rfl) rfl; have a11 := in_u ((in_c 1 rfl)); omega) rfl hz420 hz434 (by have a0 := oa10 j105_4 j348_3 i351a j105_1 ro_109_20 ro_109_19 i351 j348_7 i360 i436; have a10 := t_add e436 i351 (in_c 1 rfl) rfl; have a11 := in_u ((in_c 1 rfl)); omega) | exact ee_0 (by decide)
                have n348f : ∀ e : Nat, (z436).toInt ≤ (e : Int) → (e : Int) < (y105_2).toInt → ((sI (sI (sL sc348 155 y348_8.toNatClampNeg z401) 153 y348_8.toNatClampNeg z420) 154 y348_8.toNatClampNeg z434).1 153 e).toInt < (y105_3).toInt ∧ ((sI (sI (sL sc348 155 y348_8.toNatClampNeg z401) 153 y348_8.toNatClampNeg z420) 154 y348_8.toNatClampNeg z434).1 154 e).toInt < (y105_3).toInt := by first | (intro e h1 h2; rw [hF331.1 153 rfl, hF331.1 154 rfl]; exact g252_0 e h2) | (intro e h1 h2; have q1 : ((sI (sI (sL sc348 155 y348_8.toNatClampNeg z401) 153 y348_8.toNatClampNeg z420) 154 y348_8.toNatClampNeg z434)).1 153 = upd (sc348.1 153) y348_8.toNatClampNeg z420 := (by simp [sL, sI]); have q2 : ((sI (sI (sL sc348 155 y348_8.toNatClampNeg z401) 153 y348_8.toNatClampNeg z420) 154 y348_8.toNatClampNeg z434)).1 154 = upd (sc348.1 154) y348_8.toNatClampNeg z434 := (by simp [sL, sI]); have e8 : y348_8.toNatClampNeg = y348_8.toInt.toNat := rfl; have hne : e ≠ y348_8.toNatClampNeg := (by have a0 := oa10 j105_4 j348_3 i351a j105_1 ro_109_20 ro_109_19 i351 j348_7 i360 i436; have a10 := t_add e436 i351 (in_c 1 rfl) rfl; have a11 := in_u ((in_c 1 rfl)); omega); rw [q1, q2]; unfold upd; rw [if_neg hne, if_neg hne]; exact g348_2 e (by have a0 := oa10 j105_4 j348_3 i351a j105_1 ro_109_20 ro_109_19 i351 j348_7 i360 i436; have a10 := t_add e436 i351 (in_c 1 rfl) rfl; have a11 := in_u ((in_c 1 rfl)); omega) h2)
                exact gg_w (by first | exact Nat.le_add_right _ _ | exact gw2 | exact gw3 | exact gwe rfl | exact gwf rfl | exact gwg rfl | exact gwh rfl | omega) (gg_f (gf_cons rfl (gf_cons rfl (gf_cons rfl (gf_cons rfl (gf_cons rfl (gf_cons rfl (gf_cons rfl (gf_cons rfl gf_nil)))))))) (ih348 (sI (sI (sL sc348 155 y348_8.toNatClampNeg z401) 153 y348_8.toNatClampNeg z420) 154 y348_8.toNatClampNeg z434) y348_5 y348_7 z436 hI435 (fr_sI rfl (fr_sI rfl (fr_sL rfl hFc348))) (in_w 2 32 j348_3 rfl) (in_w 0 32 j348_7 rfl) (in_w 0 160 i436 rfl) n348 n348a n348b n348c n348d n348e n348f (m_up mm348 (t_add e436 i351 (in_c 1 rfl) rfl) (in_w 1 1 (in_c 1 rfl) rfl))))
      have ct252 : ∀ (k252 : Nat) (sc252 : GS) (y252_5 : Int64) (y252_7 : Int32), Inv sc252 → Fr fm_363 s sc252 → (In y105_3 2 32) → (In y252_7 0 32) → ((y105_4).toInt < (y105_3).toInt) → (0 ≤ (y105_4).toInt) → (0 ≤ (y105_2).toInt) → (EE sc252 (y105_2).toInt (y105_3).toInt) → (∀ v : Nat, (v : Int) < (y105_3).toInt → (sc252.1 157 v).toInt < (y105_2).toInt) → (∀ v : Nat, (v : Int) < (y252_7).toInt → (v : Int) ≠ (y105_4).toInt → 0 ≤ (sc252.1 157 v).toInt) → 32 - (y252_7).toInt < (k252 : Int) → GG Z (d - 1) 363 post (gx xp) (1 + k105 * 357304 + 144902 + k252 * 900) 252 (fun j => xlook j [(0, .ref (A 109)), (1, .int x1), (2, .int y105_2), (3, .int y105_3), (4, .int y105_4), (5, .long y252_5), (7, .int y252_7)]) [] (WW Z A sc252 ++ ex) 0 0 := by
        intro k252
        induction k252 with
        | zero => intro sc252 y252_5 y252_7 hIc252 hFc252 j252_3 j252_7 n252_0 n252_1 n252_2 g252_0 g252_1 g252_2 mm252; exact m_no mm252 j252_7 rfl
        | succ k252 ih252 =>
          intro sc252 y252_5 y252_7 hIc252 hFc252 j252_3 j252_7 n252_0 n252_1 n252_2 g252_0 g252_1 g252_2 mm252
          refine gg_w (M := 1 + k105 * 357304 + 144902 + k252 * 900 + 900) gws ?_
          refine g_iload 254 (gd rfl) rfl rfl ?_
          refine g_iload_n 255 (gd rfl) rfl rfl ?_
          refine g_cmp_ge 258 327 (gd rfl) rfl rfl (fun c255 => ?_) (fun c255 => ?_)
          · skip
            have i255 := r_le2 2 32 c255 j252_3 j252_7 rfl
            refine g_aload_n 328 (gd rfl) rfl rfl ?_
            refine g_iload_n 329 (gd rfl) rfl rfl ?_
            refine g_iload 331 (gd rfl) rfl rfl ?_
            have p331 : TP sc252 (y105_3).toInt (y105_4).toInt := by intro v hv hne; have h1 := g252_2 v (by have a0 := oa7 j105_4 j252_3 j105_2 j105_1 ro_109_20 ro_109_19 i255; omega) hne; have h2 := g252_1 v hv; exact ⟨h1, (g252_0 (sc252.1 157 v).toNatClampNeg (by show (((sc252.1 157 v).toInt.toNat : Nat) : Int) < _; omega)).1⟩
            refine g_callv (X := _) (As := [.int y105_3, .int y105_4]) (r := []) (b := A 109) (q := 109) 334 (gd rfl) rfl rfl rfl rfl rfl (ww_o rfl) (Nat.le_of_ble_eq_true rfl) (Nat.zero_le _) (Nat.zero_le _) (k_364 (by first | exact dq1 hd rfl | exact dq0 hd rfl | exact dq2 hd rfl | exact dq3 hd rfl | omega) hIc252 (in_w 1 32 j252_3 rfl) (in_w 0 31 j105_4 rfl) p331) (fun e u h => h) (fun v u h => ?_)
            obtain ⟨s331, hI331, hF331, z331, rfl, rfl, i331, p331a, p331b⟩ := h
            show GG _ _ _ _ _ _ _ _ [.int z331] _ _ _
            refine g_istore 336 (gd rfl) rfl (Nat.le_of_ble_eq_true rfl) ?_
            refine g_iload 338 (gd rfl) rfl rfl ?_
            refine g_iload_n 339 (gd rfl) rfl rfl ?_
            refine g_cmp_ne 342 345 (gd rfl) rfl rfl (fun c339 => ?_) (fun c339 => ?_)
            · skip
              refine g_iconst 0 346 (gd rfl) rfl rfl ?_
              refine g_istore 348 (gd rfl) rfl (Nat.le_of_ble_eq_true rfl) ?_
              have n348 : (y105_4).toInt < (y105_3).toInt := by first | exact n105_0 | (have a0 := oa9 j105_4 j252_3 j105_2 j105_1 ro_109_20 ro_109_19 i255 ((in_c 0 rfl)) i331; omega)
              have n348a : 0 ≤ (y105_4).toInt := by first | exact n105_1 | (have a0 := oa9 j105_4 j252_3 j105_2 j105_1 ro_109_20 ro_109_19 i255 ((in_c 0 rfl)) i331; omega)
              have n348b : 0 ≤ (y105_2).toInt := by first | exact n105_2 | (have a0 := oa9 j105_4 j252_3 j105_2 j105_1 ro_109_20 ro_109_19 i255 ((in_c 0 rfl)) i331; omega)
              have n348c : (z331).toInt < (y105_3).toInt := by have a0 := oa9 j105_4 j252_3 j105_2 j105_1 ro_109_20 ro_109_19 i255 ((in_c 0 rfl)) i331; omega
              have n348d : ∀ k : Nat, (k : Int) < (y105_3).toInt → 0 ≤ (s331.1 158 k).toInt ∧ (s331.1 158 k).toInt < (z331).toInt := by first | exact p331b | (intro k hk; rw [sI_p rfl, sI_p rfl]; exact g348_0 k hk)
              have n348e : EE s331 ((Int32.ofInt 0)).toInt (z331).toInt := by first | exact ee_s g348_1 (y := y348_8) (z := z420) (w := z434) (by simp [sL, sI]) (by simp [sL, sI]) (by have a0 := oa9 j105_4 j252_3 j105_2 j105_1 ro_109_20 ro_109_19 i255 ((in_c 0 rfl)) i331; omega) rfl hz420 hz434 (by have a0 := oa9 j105_4 j252_3 j105_2 j105_1 ro_109_20 ro_109_19 i255 ((in_c 0 rfl)) i331; omega) | exact ee_0 (by decide)
              have n348f : ∀ e : Nat, ((Int32.ofInt 0)).toInt ≤ (e : Int) → (e : Int) < (y105_2).toInt → (s331.1 153 e).toInt < (y105_3).toInt ∧ (s331.1 154 e).toInt < (y105_3).toInt := by first | (intro e h1 h2; rw [hF331.1 153 rfl, hF331.1 154 rfl]; exact g252_0 e h2) | (intro e h1 h2; have q1 : (s331).1 153 = upd (sc348.1 153) y348_8.toNatClampNeg z420 := (by simp [sL, sI]); have q2 : (s331).1 154 = upd (sc348.1 154) y348_8.toNatClampNeg z434 := (by simp [sL, sI]); have e8 : y348_8.toNatClampNeg = y348_8.toInt.toNat := rfl; have hne : e ≠ y348_8.toNatClampNeg := (by have a0 := oa9 j105_4 j252_3 j105_2 j105_1 ro_109_20 ro_109_19 i255 ((in_c 0 rfl)) i331; omega); rw [q1, q2]; unfold upd; rw [if_neg hne, if_neg hne]; exact g348_2 e (by have a0 := oa9 j105_4 j252_3 j105_2 j105_1 ro_109_20 ro_109_19 i255 ((in_c 0 rfl)) i331; omega) h2)
              exact gg_w (by first | exact Nat.le_add_right _ _ | exact gw2 | exact gw3 | exact gwe rfl | exact gwf rfl | exact gwg rfl | exact gwh rfl | omega) (gg_f (gf_cons rfl (gf_cons rfl (gf_cons rfl (gf_cons rfl (gf_cons rfl (gf_cons rfl (gf_cons rfl (gf_cons rfl gf_nil)))))))) (ct348 161 s331 y252_5 z331 (Int32.ofInt 0) hI331 (fr_tr rfl hFc252 hF331) (in_w 2 32 j252_3 rfl) (in_w 0 32 i331 rfl) (in_w 0 160 (in_c 0 rfl) rfl) n348 n348a n348b n348c n348d n348e n348f (m_in 161 (in_w 0 160 (in_c 0 rfl) rfl) rfl)))
            · skip
              have i339 := r_eq1 2 32 c339 i331 j252_3 rfl
              refine g_lload 344 (gd rfl) rfl rfl ?_
              exact g_lreturn (gd rfl) rfl (hP _ _ ⟨s331, hI331, (fr_tr rfl hFc252 hF331), y252_5, rfl, rfl⟩)
          · skip
            have i255 := r_lt1 0 31 c255 j252_7 j252_3 rfl
            refine g_iload 260 (gd rfl) rfl rfl ?_
            refine g_iload 262 (gd rfl) rfl rfl ?_
            refine g_cmp_eq 265 279 (gd rfl) rfl rfl (fun c262 => ?_) (fun c262 => ?_)
            · skip
              refine g_aload_n 280 (gd rfl) rfl rfl ?_
              refine g_getA (q2 := 156) 283 (gd rfl) rfl rfl rfl rfl ?_
              refine g_iload 285 (gd rfl) rfl rfl ?_
              refine g_iload 287 (gd rfl) rfl rfl ?_
              refine g_iload 289 (gd rfl) rfl rfl ?_
              refine g_cmp_ne 292 296 (gd rfl) rfl rfl (fun c289 => ?_) (fun c289 => ?_)
              · skip
                refine g_aload_n 297 (gd rfl) rfl rfl ?_
                refine g_getA (q2 := 155) 300 (gd rfl) rfl rfl rfl rfl ?_
                refine g_aload_n 301 (gd rfl) rfl rfl ?_
                refine g_getA (q2 := 157) 304 (gd rfl) rfl rfl rfl rfl ?_
                refine g_iload 306 (gd rfl) rfl rfl ?_
                refine g_iaload 307 (gd rfl) rfl (n := 32) rfl (in_ix i255 rfl) (fun z306 e306 => ?_)
                have i306 := inv_I hIc252 (n := 32) (t := 0) (-1) 159 rfl (in_ix i255 rfl) rfl e306
                have i307 : In z306 0 159 := by first | (exfalso; have a0 := oa7 j105_4 j252_3 j105_2 j105_1 ro_109_20 ro_109_19 i255; omega) | exact ⟨by have a0 := oa7 j105_4 j252_3 j105_2 j105_1 ro_109_20 ro_109_19 i255; omega, by have a0 := oa7 j105_4 j252_3 j105_2 j105_1 ro_109_20 ro_109_19 i255; omega⟩
                refine g_laload 308 (gd rfl) rfl (n := 160) rfl (in_ix i307 rfl) (fun z307 e307 => ?_)
                refine g_lastore 309 (gd rfl) rfl (n := 32) rfl (in_ix i255 rfl) ?_
                have hI308 := inv_sL (q := 156) (j := y252_7.toNatClampNeg) (x := z307) hIc252 rfl (l_rng z307)
                refine g_lload 311 (gd rfl) rfl rfl ?_
                refine g_aload_n 312 (gd rfl) rfl rfl ?_
                refine g_getA (q2 := 156) 315 (gd rfl) rfl rfl rfl rfl ?_
                refine g_iload 317 (gd rfl) rfl rfl ?_
                refine g_laload 318 (gd rfl) rfl (n := 32) rfl (in_ix i255 rfl) (fun z317 e317 => ?_)
                refine g_ladd 319 (gd rfl) rfl (fun z318 e318 => ?_)
                refine g_lstore 321 (gd rfl) rfl (Nat.le_of_ble_eq_true rfl) ?_
                refine g_iinc 324 (gd rfl) rfl rfl (Nat.le_of_ble_eq_true rfl) (fun z321 e321 => ?_)
                have i321 := in_add 1 32 e321 i255 (in_c 1 rfl) rfl rfl
                refine g_goto 252 (gd rfl) rfl ?_
                have n252 : (y105_4).toInt < (y105_3).toInt := by first | exact n105_0 | (have a0 := oa8 j105_4 j252_3 j105_2 j105_1 ro_109_20 ro_109_19 i255 i321; have a8 := t_add e321 i255 (in_c 1 rfl) rfl; have a9 := in_u ((in_c 1 rfl)); omega)
                have n252a : 0 ≤ (y105_4).toInt := by first | exact n105_1 | (have a0 := oa8 j105_4 j252_3 j105_2 j105_1 ro_109_20 ro_109_19 i255 i321; have a8 := t_add e321 i255 (in_c 1 rfl) rfl; have a9 := in_u ((in_c 1 rfl)); omega)
                have n252b : 0 ≤ (y105_2).toInt := by first | exact n105_2 | (have a0 := oa8 j105_4 j252_3 j105_2 j105_1 ro_109_20 ro_109_19 i255 i321; have a8 := t_add e321 i255 (in_c 1 rfl) rfl; have a9 := in_u ((in_c 1 rfl)); omega)
                have n252c : EE (sL sc252 156 y252_7.toNatClampNeg z307) (y105_2).toInt (y105_3).toInt := by first | exact g136_0 | exact ee_cg g252_0 rfl rfl
                have n252d : ∀ v : Nat, (v : Int) < (y105_3).toInt → ((sL sc252 156 y252_7.toNatClampNeg z307).1 157 v).toInt < (y105_2).toInt := by first | exact g136_1 | exact g252_1
                have n252e : ∀ v : Nat, (v : Int) < (z321).toInt → (v : Int) ≠ (y105_4).toInt → 0 ≤ ((sL sc252 156 y252_7.toNatClampNeg z307).1 157 v).toInt := by first | (intro v hv; exfalso; have h0 : (Int32.ofInt 0).toInt = 0 := rfl; omega) | (intro v hv hne; by_cases c : (v : Int) < y252_7.toInt; exact g252_2 v c hne; (have ev : v = y252_7.toNatClampNeg := (by show v = y252_7.toInt.toNat; have a0 := oa8 j105_4 j252_3 j105_2 j105_1 ro_109_20 ro_109_19 i255 i321; have a8 := t_add e321 i255 (in_c 1 rfl) rfl; have a9 := in_u ((in_c 1 rfl)); omega); first | (exfalso; have a0 := oa8 j105_4 j252_3 j105_2 j105_1 ro_109_20 ro_109_19 i255 i321; have a8 := t_add e321 i255 (in_c 1 rfl) rfl; have a9 := in_u ((in_c 1 rfl)); omega) | (show 0 ≤ (sc252.1 157 v).toInt; rw [ev, ← e271]; exact i272.1)))
                exact gg_w (by first | exact Nat.le_add_right _ _ | exact gw2 | exact gw3 | exact gwe rfl | exact gwf rfl | exact gwg rfl | exact gwh rfl | omega) (gg_f (gf_cons rfl (gf_cons rfl (gf_cons rfl (gf_cons rfl (gf_cons rfl (gf_cons rfl (gf_cons rfl gf_nil))))))) (ih252 (sL sc252 156 y252_7.toNatClampNeg z307) z318 z321 hI308 (fr_sL rfl hFc252) (in_w 2 32 j252_3 rfl) (in_w 0 32 i321 rfl) n252 n252a n252b n252c n252d n252e (m_up mm252 (t_add e321 i255 (in_c 1 rfl) rfl) (in_w 1 1 (in_c 1 rfl) rfl))))
              · skip
                refine g_lconst 0 293 (gd rfl) rfl rfl ?_
                refine g_goto 308 (gd rfl) rfl ?_
                refine g_lastore 309 (gd rfl) rfl (n := 32) rfl (in_ix i255 rfl) ?_
                have hI308 := inv_sL (q := 156) (j := y252_7.toNatClampNeg) (x := (Int64.ofInt 0)) hIc252 rfl (l_rng (Int64.ofInt 0))
                refine g_lload 311 (gd rfl) rfl rfl ?_
                refine g_aload_n 312 (gd rfl) rfl rfl ?_
                refine g_getA (q2 := 156) 315 (gd rfl) rfl rfl rfl rfl ?_
                refine g_iload 317 (gd rfl) rfl rfl ?_
                refine g_laload 318 (gd rfl) rfl (n := 32) rfl (in_ix i255 rfl) (fun z317 e317 => ?_)
                refine g_ladd 319 (gd rfl) rfl (fun z318 e318 => ?_)
                refine g_lstore 321 (gd rfl) rfl (Nat.le_of_ble_eq_true rfl) ?_
                refine g_iinc 324 (gd rfl) rfl rfl (Nat.le_of_ble_eq_true rfl) (fun z321 e321 => ?_)
                have i321 := in_add 1 32 e321 i255 (in_c 1 rfl) rfl rfl
                refine g_goto 252 (gd rfl) rfl ?_
                have n252 : (y105_4).toInt < (y105_3).toInt := by first | exact n105_0 | (have a0 := oa8 j105_4 j252_3 j105_2 j105_1 ro_109_20 ro_109_19 i255 i321; have a8 := t_add e321 i255 (in_c 1 rfl) rfl; have a9 := in_u ((in_c 1 rfl)); omega)
                have n252a : 0 ≤ (y105_4).toInt := by first | exact n105_1 | (have a0 := oa8 j105_4 j252_3 j105_2 j105_1 ro_109_20 ro_109_19 i255 i321; have a8 := t_add e321 i255 (in_c 1 rfl) rfl; have a9 := in_u ((in_c 1 rfl)); omega)
                have n252b : 0 ≤ (y105_2).toInt := by first | exact n105_2 | (have a0 := oa8 j105_4 j252_3 j105_2 j105_1 ro_109_20 ro_109_19 i255 i321; have a8 := t_add e321 i255 (in_c 1 rfl) rfl; have a9 := in_u ((in_c 1 rfl)); omega)
                have n252c : EE (sL sc252 156 y252_7.toNatClampNeg (Int64.ofInt 0)) (y105_2).toInt (y105_3).toInt := by first | exact g136_0 | exact ee_cg g252_0 rfl rfl
                have n252d : ∀ v : Nat, (v : Int) < (y105_3).toInt → ((sL sc252 156 y252_7.toNatClampNeg (Int64.ofInt 0)).1 157 v).toInt < (y105_2).toInt := by first | exact g136_1 | exact g252_1
                have n252e : ∀ v : Nat, (v : Int) < (z321).toInt → (v : Int) ≠ (y105_4).toInt → 0 ≤ ((sL sc252 156 y252_7.toNatClampNeg (Int64.ofInt 0)).1 157 v).toInt := by first | (intro v hv; exfalso; have h0 : (Int32.ofInt 0).toInt = 0 := rfl; omega) | (intro v hv hne; by_cases c : (v : Int) < y252_7.toInt; exact g252_2 v c hne; (have ev : v = y252_7.toNatClampNeg := (by show v = y252_7.toInt.toNat; have a0 := oa8 j105_4 j252_3 j105_2 j105_1 ro_109_20 ro_109_19 i255 i321; have a8 := t_add e321 i255 (in_c 1 rfl) rfl; have a9 := in_u ((in_c 1 rfl)); omega); first | (exfalso; have a0 := oa8 j105_4 j252_3 j105_2 j105_1 ro_109_20 ro_109_19 i255 i321; have a8 := t_add e321 i255 (in_c 1 rfl) rfl; have a9 := in_u ((in_c 1 rfl)); omega) | (show 0 ≤ (sc252.1 157 v).toInt; rw [ev, ← e271]; exact i272.1)))
                exact gg_w (by first | exact Nat.le_add_right _ _ | exact gw2 | exact gw3 | exact gwe rfl | exact gwf rfl | exact gwg rfl | exact gwh rfl | omega) (gg_f (gf_cons rfl (gf_cons rfl (gf_cons rfl (gf_cons rfl (gf_cons rfl (gf_cons rfl (gf_cons rfl gf_nil))))))) (ih252 (sL sc252 156 y252_7.toNatClampNeg (Int64.ofInt 0)) z318 z321 hI308 (fr_sL rfl hFc252) (in_w 2 32 j252_3 rfl) (in_w 0 32 i321 rfl) n252 n252a n252b n252c n252d n252e (m_up mm252 (t_add e321 i255 (in_c 1 rfl) rfl) (in_w 1 1 (in_c 1 rfl) rfl))))
            · skip
              refine g_aload_n 266 (gd rfl) rfl rfl ?_
              refine g_getA (q2 := 157) 269 (gd rfl) rfl rfl rfl rfl ?_
              refine g_iload 271 (gd rfl) rfl rfl ?_
              refine g_iaload 272 (gd rfl) rfl (n := 32) rfl (in_ix i255 rfl) (fun z271 e271 => ?_)
              have i271 := inv_I hIc252 (n := 32) (t := 0) (-1) 159 rfl (in_ix i255 rfl) rfl e271
              refine g_if_ge 275 279 (gd rfl) rfl rfl (fun c272 => ?_) (fun c272 => ?_)
              · skip
                have i272 := z_ge 0 159 c272 i271 rfl
                refine g_aload_n 280 (gd rfl) rfl rfl ?_
                refine g_getA (q2 := 156) 283 (gd rfl) rfl rfl rfl rfl ?_
                refine g_iload 285 (gd rfl) rfl rfl ?_
                refine g_iload 287 (gd rfl) rfl rfl ?_
                refine g_iload 289 (gd rfl) rfl rfl ?_
                refine g_cmp_ne 292 296 (gd rfl) rfl rfl (fun c289 => ?_) (fun c289 => ?_)
                · skip
                  refine g_aload_n 297 (gd rfl) rfl rfl ?_
                  refine g_getA (q2 := 155) 300 (gd rfl) rfl rfl rfl rfl ?_
                  refine g_aload_n 301 (gd rfl) rfl rfl ?_
                  refine g_getA (q2 := 157) 304 (gd rfl) rfl rfl rfl rfl ?_
                  refine g_iload 306 (gd rfl) rfl rfl ?_
                  refine g_iaload 307 (gd rfl) rfl (n := 32) rfl (in_ix i255 rfl) (fun z306 e306 => ?_)
                  have q306 : z271 = z306 := (e271).trans e306.symm
                  subst q306
                  refine g_laload 308 (gd rfl) rfl (n := 160) rfl (in_ix i272 rfl) (fun z307 e307 => ?_)
                  refine g_lastore 309 (gd rfl) rfl (n := 32) rfl (in_ix i255 rfl) ?_
                  have hI308 := inv_sL (q := 156) (j := y252_7.toNatClampNeg) (x := z307) hIc252 rfl (l_rng z307)
                  refine g_lload 311 (gd rfl) rfl rfl ?_
                  refine g_aload_n 312 (gd rfl) rfl rfl ?_
                  refine g_getA (q2 := 156) 315 (gd rfl) rfl rfl rfl rfl ?_
                  refine g_iload 317 (gd rfl) rfl rfl ?_
                  refine g_laload 318 (gd rfl) rfl (n := 32) rfl (in_ix i255 rfl) (fun z317 e317 => ?_)
                  refine g_ladd 319 (gd rfl) rfl (fun z318 e318 => ?_)
                  refine g_lstore 321 (gd rfl) rfl (Nat.le_of_ble_eq_true rfl) ?_
                  refine g_iinc 324 (gd rfl) rfl rfl (Nat.le_of_ble_eq_true rfl) (fun z321 e321 => ?_)
                  have i321 := in_add 1 32 e321 i255 (in_c 1 rfl) rfl rfl
                  refine g_goto 252 (gd rfl) rfl ?_
                  have n252 : (y105_4).toInt < (y105_3).toInt := by first | exact n105_0 | (have a0 := oa8 j105_4 j252_3 j105_2 j105_1 ro_109_20 ro_109_19 i255 i321; have a8 := t_add e321 i255 (in_c 1 rfl) rfl; have a9 := in_u ((in_c 1 rfl)); omega)
                  have n252a : 0 ≤ (y105_4).toInt := by first | exact n105_1 | (have a0 := oa8 j105_4 j252_3 j105_2 j105_1 ro_109_20 ro_109_19 i255 i321; have a8 := t_add e321 i255 (in_c 1 rfl) rfl; have a9 := in_u ((in_c 1 rfl)); omega)
                  have n252b : 0 ≤ (y105_2).toInt := by first | exact n105_2 | (have a0 := oa8 j105_4 j252_3 j105_2 j105_1 ro_109_20 ro_109_19 i255 i321; have a8 := t_add e321 i255 (in_c 1 rfl) rfl; have a9 := in_u ((in_c 1 rfl)); omega)
                  have n252c : EE (sL sc252 156 y252_7.toNatClampNeg z307) (y105_2).toInt (y105_3).toInt := by first | exact g136_0 | exact ee_cg g252_0 rfl rfl
                  have n252d : ∀ v : Nat, (v : Int) < (y105_3).toInt → ((sL sc252 156 y252_7.toNatClampNeg z307).1 157 v).toInt < (y105_2).toInt := by first | exact g136_1 | exact g252_1
                  have n252e : ∀ v : Nat, (v : Int) < (z321).toInt → (v : Int) ≠ (y105_4).toInt → 0 ≤ ((sL sc252 156 y252_7.toNatClampNeg z307).1 157 v).toInt := by first | (intro v hv; exfalso; have h0 : (Int32.ofInt 0).toInt = 0 := rfl; omega) | (intro v hv hne; by_cases c : (v : Int) < y252_7.toInt; exact g252_2 v c hne; (have ev : v = y252_7.toNatClampNeg := (by show v = y252_7.toInt.toNat; have a0 := oa8 j105_4 j252_3 j105_2 j105_1 ro_109_20 ro_109_19 i255 i321; have a8 := t_add e321 i255 (in_c 1 rfl) rfl; have a9 := in_u ((in_c 1 rfl)); omega); first | (exfalso; have a0 := oa8 j105_4 j252_3 j105_2 j105_1 ro_109_20 ro_109_19 i255 i321; have a8 := t_add e321 i255 (in_c 1 rfl) rfl; have a9 := in_u ((in_c 1 rfl)); omega) | (show 0 ≤ (sc252.1 157 v).toInt; rw [ev, ← e271]; exact i272.1)))
                  exact gg_w (by first | exact Nat.le_add_right _ _ | exact gw2 | exact gw3 | exact gwe rfl | exact gwf rfl | exact gwg rfl | exact gwh rfl | omega) (gg_f (gf_cons rfl (gf_cons rfl (gf_cons rfl (gf_cons rfl (gf_cons rfl (gf_cons rfl (gf_cons rfl gf_nil))))))) (ih252 (sL sc252 156 y252_7.toNatClampNeg z307) z318 z321 hI308 (fr_sL rfl hFc252) (in_w 2 32 j252_3 rfl) (in_w 0 32 i321 rfl) n252 n252a n252b n252c n252d n252e (m_up mm252 (t_add e321 i255 (in_c 1 rfl) rfl) (in_w 1 1 (in_c 1 rfl) rfl))))
                · skip
                  refine g_lconst 0 293 (gd rfl) rfl rfl ?_
                  refine g_goto 308 (gd rfl) rfl ?_
                  refine g_lastore 309 (gd rfl) rfl (n := 32) rfl (in_ix i255 rfl) ?_
                  have hI308 := inv_sL (q := 156) (j := y252_7.toNatClampNeg) (x := (Int64.ofInt 0)) hIc252 rfl (l_rng (Int64.ofInt 0))
                  refine g_lload 311 (gd rfl) rfl rfl ?_
                  refine g_aload_n 312 (gd rfl) rfl rfl ?_
                  refine g_getA (q2 := 156) 315 (gd rfl) rfl rfl rfl rfl ?_
                  refine g_iload 317 (gd rfl) rfl rfl ?_
                  refine g_laload 318 (gd rfl) rfl (n := 32) rfl (in_ix i255 rfl) (fun z317 e317 => ?_)
                  refine g_ladd 319 (gd rfl) rfl (fun z318 e318 => ?_)
                  refine g_lstore 321 (gd rfl) rfl (Nat.le_of_ble_eq_true rfl) ?_
                  refine g_iinc 324 (gd rfl) rfl rfl (Nat.le_of_ble_eq_true rfl) (fun z321 e321 => ?_)
                  have i321 := in_add 1 32 e321 i255 (in_c 1 rfl) rfl rfl
                  refine g_goto 252 (gd rfl) rfl ?_
                  have n252 : (y105_4).toInt < (y105_3).toInt := by first | exact n105_0 | (have a0 := oa8 j105_4 j252_3 j105_2 j105_1 ro_109_20 ro_109_19 i255 i321; have a8 := t_add e321 i255 (in_c 1 rfl) rfl; have a9 := in_u ((in_c 1 rfl)); omega)
                  have n252a : 0 ≤ (y105_4).toInt := by first | exact n105_1 | (have a0 := oa8 j105_4 j252_3 j105_2 j105_1 ro_109_20 ro_109_19 i255 i321; have a8 := t_add e321 i255 (in_c 1 rfl) rfl; have a9 := in_u ((in_c 1 rfl)); omega)
                  have n252b : 0 ≤ (y105_2).toInt := by first | exact n105_2 | (have a0 := oa8 j105_4 j252_3 j105_2 j105_1 ro_109_20 ro_109_19 i255 i321; have a8 := t_add e321 i255 (in_c 1 rfl) rfl; have a9 := in_u ((in_c 1 rfl)); omega)
                  have n252c : EE (sL sc252 156 y252_7.toNatClampNeg (Int64.ofInt 0)) (y105_2).toInt (y105_3).toInt := by first | exact g136_0 | exact ee_cg g252_0 rfl rfl
                  have n252d : ∀ v : Nat, (v : Int) < (y105_3).toInt → ((sL sc252 156 y252_7.toNatClampNeg (Int64.ofInt 0)).1 157 v).toInt < (y105_2).toInt := by first | exact g136_1 | exact g252_1
                  have n252e : ∀ v : Nat, (v : Int) < (z321).toInt → (v : Int) ≠ (y105_4).toInt → 0 ≤ ((sL sc252 156 y252_7.toNatClampNeg (Int64.ofInt 0)).1 157 v).toInt := by first | (intro v hv; exfalso; have h0 : (Int32.ofInt 0).toInt = 0 := rfl; omega) | (intro v hv hne; by_cases c : (v : Int) < y252_7.toInt; exact g252_2 v c hne; (have ev : v = y252_7.toNatClampNeg := (by show v = y252_7.toInt.toNat; have a0 := oa8 j105_4 j252_3 j105_2 j105_1 ro_109_20 ro_109_19 i255 i321; have a8 := t_add e321 i255 (in_c 1 rfl) rfl; have a9 := in_u ((in_c 1 rfl)); omega); first | (exfalso; have a0 := oa8 j105_4 j252_3 j105_2 j105_1 ro_109_20 ro_109_19 i255 i321; have a8 := t_add e321 i255 (in_c 1 rfl) rfl; have a9 := in_u ((in_c 1 rfl)); omega) | (show 0 ≤ (sc252.1 157 v).toInt; rw [ev, ← e271]; exact i272.1)))
                  exact gg_w (by first | exact Nat.le_add_right _ _ | exact gw2 | exact gw3 | exact gwe rfl | exact gwf rfl | exact gwg rfl | exact gwh rfl | omega) (gg_f (gf_cons rfl (gf_cons rfl (gf_cons rfl (gf_cons rfl (gf_cons rfl (gf_cons rfl (gf_cons rfl gf_nil))))))) (ih252 (sL sc252 156 y252_7.toNatClampNeg (Int64.ofInt 0)) z318 z321 hI308 (fr_sL rfl hFc252) (in_w 2 32 j252_3 rfl) (in_w 0 32 i321 rfl) n252 n252a n252b n252c n252d n252e (m_up mm252 (t_add e321 i255 (in_c 1 rfl) rfl) (in_w 1 1 (in_c 1 rfl) rfl))))
              · skip
                have i272 := z_lt (-1) (-1) c272 i271 rfl
                refine g_ldc2_w 9000000000000000 278 (gd rfl) rfl rfl ?_
                exact g_lreturn (gd rfl) rfl (hP _ _ ⟨sc252, hIc252, hFc252, (Int64.ofInt 9000000000000000), rfl, rfl⟩)
      have ct136 : ∀ (k136 : Nat) (sc136 : GS) (y136_7 : Int32), Inv sc136 → Fr fm_363 s sc136 → (In y105_3 2 32) → (In y136_7 0 160) → ((y105_4).toInt < (y105_3).toInt) → (0 ≤ (y105_4).toInt) → (0 ≤ (y105_2).toInt) → (EE sc136 (y105_2).toInt (y105_3).toInt) → (∀ v : Nat, (v : Int) < (y105_3).toInt → (sc136.1 157 v).toInt < (y105_2).toInt) → 160 - (y136_7).toInt < (k136 : Int) → GG Z (d - 1) 363 post (gx xp) (1 + k105 * 357304 + 174603 + k136 * 900) 136 (fun j => xlook j [(0, .ref (A 109)), (1, .int x1), (2, .int y105_2), (3, .int y105_3), (4, .int y105_4), (5, .long y105_5), (7, .int y136_7)]) [] (WW Z A sc136 ++ ex) 0 0 := by
        intro k136
        induction k136 with
        | zero => intro sc136 y136_7 hIc136 hFc136 j136_3 j136_7 n136_0 n136_1 n136_2 g136_0 g136_1 mm136; exact m_no mm136 j136_7 rfl
        | succ k136 ih136 =>
          intro sc136 y136_7 hIc136 hFc136 j136_3 j136_7 n136_0 n136_1 n136_2 g136_0 g136_1 mm136
          refine gg_w (M := 1 + k105 * 357304 + 174603 + k136 * 900 + 900) gws ?_
          refine g_iload 138 (gd rfl) rfl rfl ?_
          refine g_iload_n 139 (gd rfl) rfl rfl ?_
          refine g_cmp_ge 142 249 (gd rfl) rfl rfl (fun c139 => ?_) (fun c139 => ?_)
          · skip
            refine g_iconst 0 250 (gd rfl) rfl rfl ?_
            refine g_istore 252 (gd rfl) rfl (Nat.le_of_ble_eq_true rfl) ?_
            have n252 : (y105_4).toInt < (y105_3).toInt := by first | exact n105_0 | (have a0 := oa8 j105_4 j136_3 j105_2 j105_1 ro_109_20 ro_109_19 j136_7 ((in_c 0 rfl)); omega)
            have n252a : 0 ≤ (y105_4).toInt := by first | exact n105_1 | (have a0 := oa8 j105_4 j136_3 j105_2 j105_1 ro_109_20 ro_109_19 j136_7 ((in_c 0 rfl)); omega)
            have n252b : 0 ≤ (y105_2).toInt := by first | exact n105_2 | (have a0 := oa8 j105_4 j136_3 j105_2 j105_1 ro_109_20 ro_109_19 j136_7 ((in_c 0 rfl)); omega)
            have n252c : EE sc136 (y105_2).toInt (y105_3).toInt := by first | exact g136_0 | exact ee_cg g252_0 rfl rfl
            have n252d : ∀ v : Nat, (v : Int) < (y105_3).toInt → (sc136.1 157 v).toInt < (y105_2).toInt := by first | exact g136_1 | exact g252_1
            have n252e : ∀ v : Nat, (v : Int) < ((Int32.ofInt 0)).toInt → (v : Int) ≠ (y105_4).toInt → 0 ≤ (sc136.1 157 v).toInt := by first | (intro v hv; exfalso; have h0 : (Int32.ofInt 0).toInt = 0 := rfl; omega) | (intro v hv hne; by_cases c : (v : Int) < y252_7.toInt; exact g252_2 v c hne; (have ev : v = y252_7.toNatClampNeg := (by show v = y252_7.toInt.toNat; have a0 := oa8 j105_4 j136_3 j105_2 j105_1 ro_109_20 ro_109_19 j136_7 ((in_c 0 rfl)); omega); first | (exfalso; have a0 := oa8 j105_4 j136_3 j105_2 j105_1 ro_109_20 ro_109_19 j136_7 ((in_c 0 rfl)); omega) | (show 0 ≤ (sc252.1 157 v).toInt; rw [ev, ← e271]; exact i272.1)))
            exact gg_w (by first | exact Nat.le_add_right _ _ | exact gw2 | exact gw3 | exact gwe rfl | exact gwf rfl | exact gwg rfl | exact gwh rfl | omega) (gg_f (gf_cons rfl (gf_cons rfl (gf_cons rfl (gf_cons rfl (gf_cons rfl (gf_cons rfl (gf_cons rfl gf_nil))))))) (ct252 33 sc136 y105_5 (Int32.ofInt 0) hIc136 hFc136 (in_w 2 32 j136_3 rfl) (in_w 0 32 (in_c 0 rfl) rfl) n252 n252a n252b n252c n252d n252e (m_in 33 (in_w 0 32 (in_c 0 rfl) rfl) rfl)))
          · skip
            have i139 := r_lt1 0 159 c139 j136_7 j105_2 rfl
            have i139a := r_lt2 1 160 c139 j136_7 j105_2 rfl
            refine g_aload_n 143 (gd rfl) rfl rfl ?_
            refine g_getA (q2 := 153) 146 (gd rfl) rfl rfl rfl rfl ?_
            refine g_iload 148 (gd rfl) rfl rfl ?_
            refine g_iaload 149 (gd rfl) rfl (n := 160) rfl (in_ix i139 rfl) (fun z148 e148 => ?_)
            have i148 := inv_I hIc136 (n := 160) (t := 0) 0 31 rfl (in_ix i139 rfl) rfl e148
            refine g_aload_n 150 (gd rfl) rfl rfl ?_
            refine g_getA (q2 := 154) 153 (gd rfl) rfl rfl rfl rfl ?_
            refine g_iload 155 (gd rfl) rfl rfl ?_
            refine g_iaload 156 (gd rfl) rfl (n := 160) rfl (in_ix i139 rfl) (fun z155 e155 => ?_)
            have i155 := inv_I hIc136 (n := 160) (t := 0) 0 31 rfl (in_ix i139 rfl) rfl e155
            refine g_cmp_eq 159 206 (gd rfl) rfl rfl (fun c156 => ?_) (fun c156 => ?_)
            · skip
              refine g_iconst 0 207 (gd rfl) rfl rfl ?_
              refine g_istore 209 (gd rfl) rfl (Nat.le_of_ble_eq_true rfl) ?_
              refine g_aload_n 210 (gd rfl) rfl rfl ?_
              refine g_getA (q2 := 157) 213 (gd rfl) rfl rfl rfl rfl ?_
              refine g_aload_n 214 (gd rfl) rfl rfl ?_
              refine g_getA (q2 := 154) 217 (gd rfl) rfl rfl rfl rfl ?_
              refine g_iload 219 (gd rfl) rfl rfl ?_
              refine g_iaload 220 (gd rfl) rfl (n := 160) rfl (in_ix i139 rfl) (fun z219 e219 => ?_)
              have q219 : z155 = z219 := (e155).trans e219.symm
              subst q219
              refine g_iload 222 (gd rfl) rfl rfl ?_
              refine g_if_eq 225 230 (gd rfl) rfl rfl (fun c222 => ?_) (fun c222 => ?_)
              · skip
                refine g_aload_n 231 (gd rfl) rfl rfl ?_
                refine g_getA (q2 := 157) 234 (gd rfl) rfl rfl rfl rfl ?_
                refine g_aload_n 235 (gd rfl) rfl rfl ?_
                refine g_getA (q2 := 154) 238 (gd rfl) rfl rfl rfl rfl ?_
                refine g_iload 240 (gd rfl) rfl rfl ?_
                refine g_iaload 241 (gd rfl) rfl (n := 160) rfl (in_ix i139 rfl) (fun z240 e240 => ?_)
                have q240 : z155 = z240 := (e155).trans e240.symm
                subst q240
                refine g_iaload 242 (gd rfl) rfl (n := 32) rfl (in_ix i155 rfl) (fun z241 e241 => ?_)
                have i241 := inv_I hIc136 (n := 32) (t := 0) (-1) 159 rfl (in_ix i155 rfl) rfl e241
                refine g_iastore 243 (gd rfl) rfl (n := 32) rfl (in_ix i155 rfl) ?_
                have hI242 := inv_sI (q := 157) (j := z155.toNatClampNeg) hIc136 rfl (in_w (-1) 159 i241 rfl)
                refine g_iinc 246 (gd rfl) rfl rfl (Nat.le_of_ble_eq_true rfl) (fun z243 e243 => ?_)
                have i243 := in_add 1 160 e243 i139 (in_c 1 rfl) rfl rfl
                refine g_goto 136 (gd rfl) rfl ?_
                have n136 : (y105_4).toInt < (y105_3).toInt := by first | exact n105_0 | (have a0 := oa9 j105_4 j136_3 i139a j105_1 ro_109_20 ro_109_19 i139 ((in_c 0 rfl)) i243; have a9 := t_add e243 i139 (in_c 1 rfl) rfl; have a10 := in_u ((in_c 1 rfl)); omega)
                have n136a : 0 ≤ (y105_4).toInt := by first | exact n105_1 | (have a0 := oa9 j105_4 j136_3 i139a j105_1 ro_109_20 ro_109_19 i139 ((in_c 0 rfl)) i243; have a9 := t_add e243 i139 (in_c 1 rfl) rfl; have a10 := in_u ((in_c 1 rfl)); omega)
                have n136b : 0 ≤ (y105_2).toInt := by first | exact n105_2 | (have a0 := oa9 j105_4 j136_3 i139a j105_1 ro_109_20 ro_109_19 i139 ((in_c 0 rfl)) i243; have a9 := t_add e243 i139 (in_c 1 rfl) rfl; have a10 := in_u ((in_c 1 rfl)); omega)
                have n136c : EE (sI sc136 157 z155.toNatClampNeg z241) (y105_2).toInt (y105_3).toInt := by first | exact g113_0 | exact ee_cg g136_0 (sI_p rfl) (sI_p rfl)
                have n136d : ∀ v : Nat, (v : Int) < (y105_3).toInt → ((sI sc136 157 z155.toNatClampNeg z241).1 157 v).toInt < (y105_2).toInt := by first | (intro v hv; have h := g113_1 v (by have a0 := oa9 j105_4 j136_3 i139a j105_1 ro_109_20 ro_109_19 i139 ((in_c 0 rfl)) i243; have a9 := t_add e243 i139 (in_c 1 rfl) rfl; have a10 := in_u ((in_c 1 rfl)); omega); have a0 := oa9 j105_4 j136_3 i139a j105_1 ro_109_20 ro_109_19 i139 ((in_c 0 rfl)) i243; have a9 := t_add e243 i139 (in_c 1 rfl) rfl; have a10 := in_u ((in_c 1 rfl)); omega) | (intro v hv; rw [sI_q]; have hE := (g136_0 y136_7.toNatClampNeg (by show ((y136_7.toInt.toNat : Nat) : Int) < _; have a0 := oa9 j105_4 j136_3 i139a j105_1 ro_109_20 ro_109_19 i139 ((in_c 0 rfl)) i243; have a9 := t_add e243 i139 (in_c 1 rfl) rfl; have a10 := in_u ((in_c 1 rfl)); omega)).2; rw [← e155] at hE; exact up_lt (fun c => g136_1 v hv) (by first | (have a0 := oa9 j105_4 j136_3 i139a j105_1 ro_109_20 ro_109_19 i139 ((in_c 0 rfl)) i243; have a9 := t_add e243 i139 (in_c 1 rfl) rfl; have a10 := in_u ((in_c 1 rfl)); omega) | (rw [e241]; exact g136_1 z155.toNatClampNeg (by show ((z155.toInt.toNat : Nat) : Int) < _; have hz := i155; unfold In at hz; omega)) | (rw [e170]; exact g136_1 z155.toNatClampNeg (by show ((z155.toInt.toNat : Nat) : Int) < _; have hz := i155; unfold In at hz; omega))))
                exact gg_w (by first | exact Nat.le_add_right _ _ | exact gw2 | exact gw3 | exact gwe rfl | exact gwf rfl | exact gwg rfl | exact gwh rfl | omega) (gg_f (gf_cons rfl (gf_cons rfl (gf_cons rfl (gf_cons rfl (gf_cons rfl (gf_cons rfl (gf_cons rfl gf_nil))))))) (ih136 (sI sc136 157 z155.toNatClampNeg z241) z243 hI242 (fr_sI rfl hFc136) (in_w 2 32 j136_3 rfl) (in_w 0 160 i243 rfl) n136 n136a n136b n136c n136d (m_up mm136 (t_add e243 i139 (in_c 1 rfl) rfl) (in_w 1 1 (in_c 1 rfl) rfl))))
              · skip
                exact zn_ne c222 (in_c 0 rfl) rfl
            · skip
              refine g_aload_n 160 (gd rfl) rfl rfl ?_
              refine g_getA (q2 := 157) 163 (gd rfl) rfl rfl rfl rfl ?_
              refine g_aload_n 164 (gd rfl) rfl rfl ?_
              refine g_getA (q2 := 154) 167 (gd rfl) rfl rfl rfl rfl ?_
              refine g_iload 169 (gd rfl) rfl rfl ?_
              refine g_iaload 170 (gd rfl) rfl (n := 160) rfl (in_ix i139 rfl) (fun z169 e169 => ?_)
              have q169 : z155 = z169 := (e155).trans e169.symm
              subst q169
              refine g_iaload 171 (gd rfl) rfl (n := 32) rfl (in_ix i155 rfl) (fun z170 e170 => ?_)
              have i170 := inv_I hIc136 (n := 32) (t := 0) (-1) 159 rfl (in_ix i155 rfl) rfl e170
              refine g_if_lt 174 202 (gd rfl) rfl rfl (fun c171 => ?_) (fun c171 => ?_)
              · skip
                have i171 := z_lt (-1) (-1) c171 i170 rfl
                refine g_iconst 1 203 (gd rfl) rfl rfl ?_
                refine g_goto 207 (gd rfl) rfl ?_
                refine g_istore 209 (gd rfl) rfl (Nat.le_of_ble_eq_true rfl) ?_
                refine g_aload_n 210 (gd rfl) rfl rfl ?_
                refine g_getA (q2 := 157) 213 (gd rfl) rfl rfl rfl rfl ?_
                refine g_aload_n 214 (gd rfl) rfl rfl ?_
                refine g_getA (q2 := 154) 217 (gd rfl) rfl rfl rfl rfl ?_
                refine g_iload 219 (gd rfl) rfl rfl ?_
                refine g_iaload 220 (gd rfl) rfl (n := 160) rfl (in_ix i139 rfl) (fun z219 e219 => ?_)
                have q219 : z155 = z219 := (e155).trans e219.symm
                subst q219
                refine g_iload 222 (gd rfl) rfl rfl ?_
                refine g_if_eq 225 230 (gd rfl) rfl rfl (fun c222 => ?_) (fun c222 => ?_)
                · skip
                  exact zn_eq c222 (in_c 1 rfl) rfl
                · skip
                  refine g_iload 227 (gd rfl) rfl rfl ?_
                  refine g_goto 242 (gd rfl) rfl ?_
                  refine g_iastore 243 (gd rfl) rfl (n := 32) rfl (in_ix i155 rfl) ?_
                  have hI242 := inv_sI (q := 157) (j := z155.toNatClampNeg) hIc136 rfl (in_w (-1) 159 i139 rfl)
                  refine g_iinc 246 (gd rfl) rfl rfl (Nat.le_of_ble_eq_true rfl) (fun z243 e243 => ?_)
                  have i243 := in_add 1 160 e243 i139 (in_c 1 rfl) rfl rfl
                  refine g_goto 136 (gd rfl) rfl ?_
                  have n136 : (y105_4).toInt < (y105_3).toInt := by first | exact n105_0 | (have a0 := oa9 j105_4 j136_3 i139a j105_1 ro_109_20 ro_109_19 i139 ((in_c 1 rfl)) i243; have a9 := t_add e243 i139 (in_c 1 rfl) rfl; omega)
                  have n136a : 0 ≤ (y105_4).toInt := by first | exact n105_1 | (have a0 := oa9 j105_4 j136_3 i139a j105_1 ro_109_20 ro_109_19 i139 ((in_c 1 rfl)) i243; have a9 := t_add e243 i139 (in_c 1 rfl) rfl; omega)
                  have n136b : 0 ≤ (y105_2).toInt := by first | exact n105_2 | (have a0 := oa9 j105_4 j136_3 i139a j105_1 ro_109_20 ro_109_19 i139 ((in_c 1 rfl)) i243; have a9 := t_add e243 i139 (in_c 1 rfl) rfl; omega)
                  have n136c : EE (sI sc136 157 z155.toNatClampNeg y136_7) (y105_2).toInt (y105_3).toInt := by first | exact g113_0 | exact ee_cg g136_0 (sI_p rfl) (sI_p rfl)
                  have n136d : ∀ v : Nat, (v : Int) < (y105_3).toInt → ((sI sc136 157 z155.toNatClampNeg y136_7).1 157 v).toInt < (y105_2).toInt := by first | (intro v hv; have h := g113_1 v (by have a0 := oa9 j105_4 j136_3 i139a j105_1 ro_109_20 ro_109_19 i139 ((in_c 1 rfl)) i243; have a9 := t_add e243 i139 (in_c 1 rfl) rfl; omega); have a0 := oa9 j105_4 j136_3 i139a j105_1 ro_109_20 ro_109_19 i139 ((in_c 1 rfl)) i243; have a9 := t_add e243 i139 (in_c 1 rfl) rfl; omega) | (intro v hv; rw [sI_q]; have hE := (g136_0 y136_7.toNatClampNeg (by show ((y136_7.toInt.toNat : Nat) : Int) < _; have a0 := oa9 j105_4 j136_3 i139a j105_1 ro_109_20 ro_109_19 i139 ((in_c 1 rfl)) i243; have a9 := t_add e243 i139 (in_c 1 rfl) rfl; omega)).2; rw [← e155] at hE; exact up_lt (fun c => g136_1 v hv) (by first | (have a0 := oa9 j105_4 j136_3 i139a j105_1 ro_109_20 ro_109_19 i139 ((in_c 1 rfl)) i243; have a9 := t_add e243 i139 (in_c 1 rfl) rfl; omega) | (rw [e241]; exact g136_1 z155.toNatClampNeg (by show ((z155.toInt.toNat : Nat) : Int) < _; have hz := i155; unfold In at hz; omega)) | (rw [e170]; exact g136_1 z155.toNatClampNeg (by show ((z155.toInt.toNat : Nat) : Int) < _; have hz := i155; unfold In at hz; omega))))
                  exact gg_w (by first | exact Nat.le_add_right _ _ | exact gw2 | exact gw3 | exact gwe rfl | exact gwf rfl | exact gwg rfl | exact gwh rfl | omega) (gg_f (gf_cons rfl (gf_cons rfl (gf_cons rfl (gf_cons rfl (gf_cons rfl (gf_cons rfl (gf_cons rfl gf_nil))))))) (ih136 (sI sc136 157 z155.toNatClampNeg y136_7) z243 hI242 (fr_sI rfl hFc136) (in_w 2 32 j136_3 rfl) (in_w 0 160 i243 rfl) n136 n136a n136b n136c n136d (m_up mm136 (t_add e243 i139 (in_c 1 rfl) rfl) (in_w 1 1 (in_c 1 rfl) rfl))))
              · skip
                have i171 := z_ge 0 159 c171 i170 rfl
                refine g_aload_n 175 (gd rfl) rfl rfl ?_
                refine g_getA (q2 := 155) 178 (gd rfl) rfl rfl rfl rfl ?_
                refine g_iload 180 (gd rfl) rfl rfl ?_
                refine g_laload 181 (gd rfl) rfl (n := 160) rfl (in_ix i139 rfl) (fun z180 e180 => ?_)
                refine g_aload_n 182 (gd rfl) rfl rfl ?_
                refine g_getA (q2 := 155) 185 (gd rfl) rfl rfl rfl rfl ?_
                refine g_aload_n 186 (gd rfl) rfl rfl ?_
                refine g_getA (q2 := 157) 189 (gd rfl) rfl rfl rfl rfl ?_
                refine g_aload_n 190 (gd rfl) rfl rfl ?_
                refine g_getA (q2 := 154) 193 (gd rfl) rfl rfl rfl rfl ?_
                refine g_iload 195 (gd rfl) rfl rfl ?_
                refine g_iaload 196 (gd rfl) rfl (n := 160) rfl (in_ix i139 rfl) (fun z195 e195 => ?_)
                have q195 : z155 = z195 := (e155).trans e195.symm
                subst q195
                refine g_iaload 197 (gd rfl) rfl (n := 32) rfl (in_ix i155 rfl) (fun z196 e196 => ?_)
                have q196 : z170 = z196 := (e170).trans e196.symm
                subst q196
                refine g_laload 198 (gd rfl) rfl (n := 160) rfl (in_ix i171 rfl) (fun z197 e197 => ?_)
                refine g_lcmp 199 (gd rfl) rfl (fun z198 e198 => ?_)
                have i198 := lc_in e198
                refine g_if_ge 202 206 (gd rfl) rfl rfl (fun c199 => ?_) (fun c199 => ?_)
                · skip
                  have i199 := z_ge 0 1 c199 i198 rfl
                  have c199a := lc_ge e198 c199
                  refine g_iconst 0 207 (gd rfl) rfl rfl ?_
                  refine g_istore 209 (gd rfl) rfl (Nat.le_of_ble_eq_true rfl) ?_
                  refine g_aload_n 210 (gd rfl) rfl rfl ?_
                  refine g_getA (q2 := 157) 213 (gd rfl) rfl rfl rfl rfl ?_
                  refine g_aload_n 214 (gd rfl) rfl rfl ?_
                  refine g_getA (q2 := 154) 217 (gd rfl) rfl rfl rfl rfl ?_
                  refine g_iload 219 (gd rfl) rfl rfl ?_
                  refine g_iaload 220 (gd rfl) rfl (n := 160) rfl (in_ix i139 rfl) (fun z219 e219 => ?_)
                  have q219 : z155 = z219 := (e155).trans e219.symm
                  subst q219
                  refine g_iload 222 (gd rfl) rfl rfl ?_
                  refine g_if_eq 225 230 (gd rfl) rfl rfl (fun c222 => ?_) (fun c222 => ?_)
                  · skip
                    refine g_aload_n 231 (gd rfl) rfl rfl ?_
                    refine g_getA (q2 := 157) 234 (gd rfl) rfl rfl rfl rfl ?_
                    refine g_aload_n 235 (gd rfl) rfl rfl ?_
                    refine g_getA (q2 := 154) 238 (gd rfl) rfl rfl rfl rfl ?_
                    refine g_iload 240 (gd rfl) rfl rfl ?_
                    refine g_iaload 241 (gd rfl) rfl (n := 160) rfl (in_ix i139 rfl) (fun z240 e240 => ?_)
                    have q240 : z155 = z240 := (e155).trans e240.symm
                    subst q240
                    refine g_iaload 242 (gd rfl) rfl (n := 32) rfl (in_ix i155 rfl) (fun z241 e241 => ?_)
                    have q241 : z170 = z241 := (e170).trans e241.symm
                    subst q241
                    refine g_iastore 243 (gd rfl) rfl (n := 32) rfl (in_ix i155 rfl) ?_
                    have hI242 := inv_sI (q := 157) (j := z155.toNatClampNeg) hIc136 rfl (in_w (-1) 159 i171 rfl)
                    refine g_iinc 246 (gd rfl) rfl rfl (Nat.le_of_ble_eq_true rfl) (fun z243 e243 => ?_)
                    have i243 := in_add 1 160 e243 i139 (in_c 1 rfl) rfl rfl
                    refine g_goto 136 (gd rfl) rfl ?_
                    have n136 : (y105_4).toInt < (y105_3).toInt := by first | exact n105_0 | (have a0 := oa9 j105_4 j136_3 i139a j105_1 ro_109_20 ro_109_19 i139 ((in_c 0 rfl)) i243; have a9 := t_add e243 i139 (in_c 1 rfl) rfl; have a10 := in_u ((in_c 1 rfl)); omega)
                    have n136a : 0 ≤ (y105_4).toInt := by first | exact n105_1 | (have a0 := oa9 j105_4 j136_3 i139a j105_1 ro_109_20 ro_109_19 i139 ((in_c 0 rfl)) i243; have a9 := t_add e243 i139 (in_c 1 rfl) rfl; have a10 := in_u ((in_c 1 rfl)); omega)
                    have n136b : 0 ≤ (y105_2).toInt := by first | exact n105_2 | (have a0 := oa9 j105_4 j136_3 i139a j105_1 ro_109_20 ro_109_19 i139 ((in_c 0 rfl)) i243; have a9 := t_add e243 i139 (in_c 1 rfl) rfl; have a10 := in_u ((in_c 1 rfl)); omega)
                    have n136c : EE (sI sc136 157 z155.toNatClampNeg z170) (y105_2).toInt (y105_3).toInt := by first | exact g113_0 | exact ee_cg g136_0 (sI_p rfl) (sI_p rfl)
                    have n136d : ∀ v : Nat, (v : Int) < (y105_3).toInt → ((sI sc136 157 z155.toNatClampNeg z170).1 157 v).toInt < (y105_2).toInt := by first | (intro v hv; have h := g113_1 v (by have a0 := oa9 j105_4 j136_3 i139a j105_1 ro_109_20 ro_109_19 i139 ((in_c 0 rfl)) i243; have a9 := t_add e243 i139 (in_c 1 rfl) rfl; have a10 := in_u ((in_c 1 rfl)); omega); have a0 := oa9 j105_4 j136_3 i139a j105_1 ro_109_20 ro_109_19 i139 ((in_c 0 rfl)) i243; have a9 := t_add e243 i139 (in_c 1 rfl) rfl; have a10 := in_u ((in_c 1 rfl)); omega) | (intro v hv; rw [sI_q]; have hE := (g136_0 y136_7.toNatClampNeg (by show ((y136_7.toInt.toNat : Nat) : Int) < _; have a0 := oa9 j105_4 j136_3 i139a j105_1 ro_109_20 ro_109_19 i139 ((in_c 0 rfl)) i243; have a9 := t_add e243 i139 (in_c 1 rfl) rfl; have a10 := in_u ((in_c 1 rfl)); omega)).2; rw [← e155] at hE; exact up_lt (fun c => g136_1 v hv) (by first | (have a0 := oa9 j105_4 j136_3 i139a j105_1 ro_109_20 ro_109_19 i139 ((in_c 0 rfl)) i243; have a9 := t_add e243 i139 (in_c 1 rfl) rfl; have a10 := in_u ((in_c 1 rfl)); omega) | (rw [e241]; exact g136_1 z155.toNatClampNeg (by show ((z155.toInt.toNat : Nat) : Int) < _; have hz := i155; unfold In at hz; omega)) | (rw [e170]; exact g136_1 z155.toNatClampNeg (by show ((z155.toInt.toNat : Nat) : Int) < _; have hz := i155; unfold In at hz; omega))))
                    exact gg_w (by first | exact Nat.le_add_right _ _ | exact gw2 | exact gw3 | exact gwe rfl | exact gwf rfl | exact gwg rfl | exact gwh rfl | omega) (gg_f (gf_cons rfl (gf_cons rfl (gf_cons rfl (gf_cons rfl (gf_cons rfl (gf_cons rfl (gf_cons rfl gf_nil))))))) (ih136 (sI sc136 157 z155.toNatClampNeg z170) z243 hI242 (fr_sI rfl hFc136) (in_w 2 32 j136_3 rfl) (in_w 0 160 i243 rfl) n136 n136a n136b n136c n136d (m_up mm136 (t_add e243 i139 (in_c 1 rfl) rfl) (in_w 1 1 (in_c 1 rfl) rfl))))
                  · skip
                    exact zn_ne c222 (in_c 0 rfl) rfl
                · skip
                  have i199 := z_lt (-1) (-1) c199 i198 rfl
                  have c199a := lc_lt e198 c199
                  have i199a := lr_lt1 (-9223372036854775808) 9223372036854775806 c199a (l_rng z180) (l_rng z197) rfl
                  have i199b := lr_lt2 (-9223372036854775807) 9223372036854775807 c199a (l_rng z180) (l_rng z197) rfl
                  refine g_iconst 1 203 (gd rfl) rfl rfl ?_
                  refine g_goto 207 (gd rfl) rfl ?_
                  refine g_istore 209 (gd rfl) rfl (Nat.le_of_ble_eq_true rfl) ?_
                  refine g_aload_n 210 (gd rfl) rfl rfl ?_
                  refine g_getA (q2 := 157) 213 (gd rfl) rfl rfl rfl rfl ?_
                  refine g_aload_n 214 (gd rfl) rfl rfl ?_
                  refine g_getA (q2 := 154) 217 (gd rfl) rfl rfl rfl rfl ?_
                  refine g_iload 219 (gd rfl) rfl rfl ?_
                  refine g_iaload 220 (gd rfl) rfl (n := 160) rfl (in_ix i139 rfl) (fun z219 e219 => ?_)
                  have q219 : z155 = z219 := (e155).trans e219.symm
                  subst q219
                  refine g_iload 222 (gd rfl) rfl rfl ?_
                  refine g_if_eq 225 230 (gd rfl) rfl rfl (fun c222 => ?_) (fun c222 => ?_)
                  · skip
                    exact zn_eq c222 (in_c 1 rfl) rfl
                  · skip
                    refine g_iload 227 (gd rfl) rfl rfl ?_
                    refine g_goto 242 (gd rfl) rfl ?_
                    refine g_iastore 243 (gd rfl) rfl (n := 32) rfl (in_ix i155 rfl) ?_
                    have hI242 := inv_sI (q := 157) (j := z155.toNatClampNeg) hIc136 rfl (in_w (-1) 159 i139 rfl)
                    refine g_iinc 246 (gd rfl) rfl rfl (Nat.le_of_ble_eq_true rfl) (fun z243 e243 => ?_)
                    have i243 := in_add 1 160 e243 i139 (in_c 1 rfl) rfl rfl
                    refine g_goto 136 (gd rfl) rfl ?_
                    have n136 : (y105_4).toInt < (y105_3).toInt := by first | exact n105_0 | (have a0 := oa9 j105_4 j136_3 i139a j105_1 ro_109_20 ro_109_19 i139 ((in_c 1 rfl)) i243; have a9 := t_add e243 i139 (in_c 1 rfl) rfl; omega)
                    have n136a : 0 ≤ (y105_4).toInt := by first | exact n105_1 | (have a0 := oa9 j105_4 j136_3 i139a j105_1 ro_109_20 ro_109_19 i139 ((in_c 1 rfl)) i243; have a9 := t_add e243 i139 (in_c 1 rfl) rfl; omega)
                    have n136b : 0 ≤ (y105_2).toInt := by first | exact n105_2 | (have a0 := oa9 j105_4 j136_3 i139a j105_1 ro_109_20 ro_109_19 i139 ((in_c 1 rfl)) i243; have a9 := t_add e243 i139 (in_c 1 rfl) rfl; omega)
                    have n136c : EE (sI sc136 157 z155.toNatClampNeg y136_7) (y105_2).toInt (y105_3).toInt := by first | exact g113_0 | exact ee_cg g136_0 (sI_p rfl) (sI_p rfl)
                    have n136d : ∀ v : Nat, (v : Int) < (y105_3).toInt → ((sI sc136 157 z155.toNatClampNeg y136_7).1 157 v).toInt < (y105_2).toInt := by first | (intro v hv; have h := g113_1 v (by have a0 := oa9 j105_4 j136_3 i139a j105_1 ro_109_20 ro_109_19 i139 ((in_c 1 rfl)) i243; have a9 := t_add e243 i139 (in_c 1 rfl) rfl; omega); have a0 := oa9 j105_4 j136_3 i139a j105_1 ro_109_20 ro_109_19 i139 ((in_c 1 rfl)) i243; have a9 := t_add e243 i139 (in_c 1 rfl) rfl; omega) | (intro v hv; rw [sI_q]; have hE := (g136_0 y136_7.toNatClampNeg (by show ((y136_7.toInt.toNat : Nat) : Int) < _; have a0 := oa9 j105_4 j136_3 i139a j105_1 ro_109_20 ro_109_19 i139 ((in_c 1 rfl)) i243; have a9 := t_add e243 i139 (in_c 1 rfl) rfl; omega)).2; rw [← e155] at hE; exact up_lt (fun c => g136_1 v hv) (by first | (have a0 := oa9 j105_4 j136_3 i139a j105_1 ro_109_20 ro_109_19 i139 ((in_c 1 rfl)) i243; have a9 := t_add e243 i139 (in_c 1 rfl) rfl; omega) | (rw [e241]; exact g136_1 z155.toNatClampNeg (by show ((z155.toInt.toNat : Nat) : Int) < _; have hz := i155; unfold In at hz; omega)) | (rw [e170]; exact g136_1 z155.toNatClampNeg (by show ((z155.toInt.toNat : Nat) : Int) < _; have hz := i155; unfold In at hz; omega))))
                    exact gg_w (by first | exact Nat.le_add_right _ _ | exact gw2 | exact gw3 | exact gwe rfl | exact gwf rfl | exact gwg rfl | exact gwh rfl | omega) (gg_f (gf_cons rfl (gf_cons rfl (gf_cons rfl (gf_cons rfl (gf_cons rfl (gf_cons rfl (gf_cons rfl gf_nil))))))) (ih136 (sI sc136 157 z155.toNatClampNeg y136_7) z243 hI242 (fr_sI rfl hFc136) (in_w 2 32 j136_3 rfl) (in_w 0 160 i243 rfl) n136 n136a n136b n136c n136d (m_up mm136 (t_add e243 i139 (in_c 1 rfl) rfl) (in_w 1 1 (in_c 1 rfl) rfl))))
      have ct113 : ∀ (k113 : Nat) (sc113 : GS) (y113_7 : Int32), Inv sc113 → Fr fm_363 s sc113 → (In y105_3 2 32) → (In y113_7 0 32) → ((y105_4).toInt < (y105_3).toInt) → (0 ≤ (y105_4).toInt) → (0 ≤ (y105_2).toInt) → (EE sc113 (y105_2).toInt (y105_3).toInt) → (∀ v : Nat, (v : Int) < (y113_7).toInt → (sc113.1 157 v).toInt < 0) → 32 - (y113_7).toInt < (k113 : Int) → GG Z (d - 1) 363 post (gx xp) (1 + k105 * 357304 + 319504 + k113 * 900) 113 (fun j => xlook j [(0, .ref (A 109)), (1, .int x1), (2, .int y105_2), (3, .int y105_3), (4, .int y105_4), (5, .long y105_5), (7, .int y113_7)]) [] (WW Z A sc113 ++ ex) 0 0 := by
        intro k113
        induction k113 with
        | zero => intro sc113 y113_7 hIc113 hFc113 j113_3 j113_7 n113_0 n113_1 n113_2 g113_0 g113_1 mm113; exact m_no mm113 j113_7 rfl
        | succ k113 ih113 =>
          intro sc113 y113_7 hIc113 hFc113 j113_3 j113_7 n113_0 n113_1 n113_2 g113_0 g113_1 mm113
          refine gg_w (M := 1 + k105 * 357304 + 319504 + k113 * 900 + 900) gws ?_
          refine g_iload 115 (gd rfl) rfl rfl ?_
          refine g_iload_n 116 (gd rfl) rfl rfl ?_
          refine g_cmp_ge 119 133 (gd rfl) rfl rfl (fun c116 => ?_) (fun c116 => ?_)
          · skip
            have i116 := r_le2 2 32 c116 j113_3 j113_7 rfl
            refine g_iconst 0 134 (gd rfl) rfl rfl ?_
            refine g_istore 136 (gd rfl) rfl (Nat.le_of_ble_eq_true rfl) ?_
            have n136 : (y105_4).toInt < (y105_3).toInt := by first | exact n105_0 | (have a0 := oa8 j105_4 j113_3 j105_2 j105_1 ro_109_20 ro_109_19 i116 ((in_c 0 rfl)); omega)
            have n136a : 0 ≤ (y105_4).toInt := by first | exact n105_1 | (have a0 := oa8 j105_4 j113_3 j105_2 j105_1 ro_109_20 ro_109_19 i116 ((in_c 0 rfl)); omega)
            have n136b : 0 ≤ (y105_2).toInt := by first | exact n105_2 | (have a0 := oa8 j105_4 j113_3 j105_2 j105_1 ro_109_20 ro_109_19 i116 ((in_c 0 rfl)); omega)
            have n136c : EE sc113 (y105_2).toInt (y105_3).toInt := by first | exact g113_0 | exact ee_cg g136_0 (sI_p rfl) (sI_p rfl)
            have n136d : ∀ v : Nat, (v : Int) < (y105_3).toInt → (sc113.1 157 v).toInt < (y105_2).toInt := by first | (intro v hv; have h := g113_1 v (by have a0 := oa8 j105_4 j113_3 j105_2 j105_1 ro_109_20 ro_109_19 i116 ((in_c 0 rfl)); omega); have a0 := oa8 j105_4 j113_3 j105_2 j105_1 ro_109_20 ro_109_19 i116 ((in_c 0 rfl)); omega) | (intro v hv; rw [sI_q]; have hE := (g136_0 y136_7.toNatClampNeg (by show ((y136_7.toInt.toNat : Nat) : Int) < _; have a0 := oa8 j105_4 j113_3 j105_2 j105_1 ro_109_20 ro_109_19 i116 ((in_c 0 rfl)); omega)).2; rw [← e155] at hE; exact up_lt (fun c => g136_1 v hv) (by first | (have a0 := oa8 j105_4 j113_3 j105_2 j105_1 ro_109_20 ro_109_19 i116 ((in_c 0 rfl)); omega) | (rw [e241]; exact g136_1 z155.toNatClampNeg (by show ((z155.toInt.toNat : Nat) : Int) < _; have hz := i155; unfold In at hz; omega)) | (rw [e170]; exact g136_1 z155.toNatClampNeg (by show ((z155.toInt.toNat : Nat) : Int) < _; have hz := i155; unfold In at hz; omega))))
            exact gg_w (by first | exact Nat.le_add_right _ _ | exact gw2 | exact gw3 | exact gwe rfl | exact gwf rfl | exact gwg rfl | exact gwh rfl | omega) (gg_f (gf_cons rfl (gf_cons rfl (gf_cons rfl (gf_cons rfl (gf_cons rfl (gf_cons rfl (gf_cons rfl gf_nil))))))) (ct136 161 sc113 (Int32.ofInt 0) hIc113 hFc113 (in_w 2 32 j113_3 rfl) (in_w 0 160 (in_c 0 rfl) rfl) n136 n136a n136b n136c n136d (m_in 161 (in_w 0 160 (in_c 0 rfl) rfl) rfl)))
          · skip
            have i116 := r_lt1 0 31 c116 j113_7 j113_3 rfl
            refine g_aload_n 120 (gd rfl) rfl rfl ?_
            refine g_getA (q2 := 157) 123 (gd rfl) rfl rfl rfl rfl ?_
            refine g_iload 125 (gd rfl) rfl rfl ?_
            refine g_iconst (-1) 126 (gd rfl) rfl rfl ?_
            refine g_iastore 127 (gd rfl) rfl (n := 32) rfl (in_ix i116 rfl) ?_
            have hI126 := inv_sI (q := 157) (j := y113_7.toNatClampNeg) hIc113 rfl (in_w (-1) 159 (in_c (-1) rfl) rfl)
            refine g_iinc 130 (gd rfl) rfl rfl (Nat.le_of_ble_eq_true rfl) (fun z127 e127 => ?_)
            have i127 := in_add 1 32 e127 i116 (in_c 1 rfl) rfl rfl
            refine g_goto 113 (gd rfl) rfl ?_
            have n113 : (y105_4).toInt < (y105_3).toInt := by first | exact n105_0 | (have a0 := oa8 j105_4 j113_3 j105_2 j105_1 ro_109_20 ro_109_19 i116 i127; have a8 := t_add e127 i116 (in_c 1 rfl) rfl; have a9 := in_u ((in_c 1 rfl)); omega)
            have n113a : 0 ≤ (y105_4).toInt := by first | exact n105_1 | (have a0 := oa8 j105_4 j113_3 j105_2 j105_1 ro_109_20 ro_109_19 i116 i127; have a8 := t_add e127 i116 (in_c 1 rfl) rfl; have a9 := in_u ((in_c 1 rfl)); omega)
            have n113b : 0 ≤ (y105_2).toInt := by first | exact n105_2 | (have a0 := oa8 j105_4 j113_3 j105_2 j105_1 ro_109_20 ro_109_19 i116 i127; have a8 := t_add e127 i116 (in_c 1 rfl) rfl; have a9 := in_u ((in_c 1 rfl)); omega)
            have n113c : EE (sI sc113 157 y113_7.toNatClampNeg (Int32.ofInt (-1))) (y105_2).toInt (y105_3).toInt := by first | exact g105_0 | exact ee_cg g113_0 (sI_p rfl) (sI_p rfl)
            have n113d : ∀ v : Nat, (v : Int) < (z127).toInt → ((sI sc113 157 y113_7.toNatClampNeg (Int32.ofInt (-1))).1 157 v).toInt < 0 := by first | (intro v hv; exfalso; have h0 : (Int32.ofInt 0).toInt = 0 := rfl; omega) | (intro v hv; rw [sI_q]; have e7 : y113_7.toNatClampNeg = y113_7.toInt.toNat := rfl; exact up_lt (fun c => g113_1 v (by have a0 := oa8 j105_4 j113_3 j105_2 j105_1 ro_109_20 ro_109_19 i116 i127; have a8 := t_add e127 i116 (in_c 1 rfl) rfl; have a9 := in_u ((in_c 1 rfl)); omega)) (by decide))
            exact gg_w (by first | exact Nat.le_add_right _ _ | exact gw2 | exact gw3 | exact gwe rfl | exact gwf rfl | exact gwg rfl | exact gwh rfl | omega) (gg_f (gf_cons rfl (gf_cons rfl (gf_cons rfl (gf_cons rfl (gf_cons rfl (gf_cons rfl (gf_cons rfl gf_nil))))))) (ih113 (sI sc113 157 y113_7.toNatClampNeg (Int32.ofInt (-1))) z127 hI126 (fr_sI rfl hFc113) (in_w 2 32 j113_3 rfl) (in_w 0 32 i127 rfl) n113 n113a n113b n113c n113d (m_up mm113 (t_add e127 i116 (in_c 1 rfl) rfl) (in_w 1 1 (in_c 1 rfl) rfl))))
      refine g_iload_n 106 (gd rfl) rfl rfl ?_
      refine g_iconst 1 107 (gd rfl) rfl rfl ?_
      refine g_cmp_le 110 457 (gd rfl) rfl rfl (fun c107 => ?_) (fun c107 => ?_)
      · skip
        have i107 := r_le1 0 1 c107 j105_3 (in_c 1 rfl) rfl
        refine g_lload 459 (gd rfl) rfl rfl ?_
        exact g_lreturn (gd rfl) rfl (hP _ _ ⟨sc105, hIc105, hFc105, y105_5, rfl, rfl⟩)
      · skip
        have i107 := r_lt2 2 32 c107 (in_c 1 rfl) j105_3 rfl
        refine g_iconst 0 111 (gd rfl) rfl rfl ?_
        refine g_istore 113 (gd rfl) rfl (Nat.le_of_ble_eq_true rfl) ?_
        have n113 : (y105_4).toInt < (y105_3).toInt := by first | exact n105_0 | (have a0 := oa7 j105_1 ro_109_20 ro_109_19 j105_4 i107 j105_2 ((in_c 0 rfl)); omega)
        have n113a : 0 ≤ (y105_4).toInt := by first | exact n105_1 | (have a0 := oa7 j105_1 ro_109_20 ro_109_19 j105_4 i107 j105_2 ((in_c 0 rfl)); omega)
        have n113b : 0 ≤ (y105_2).toInt := by first | exact n105_2 | (have a0 := oa7 j105_1 ro_109_20 ro_109_19 j105_4 i107 j105_2 ((in_c 0 rfl)); omega)
        have n113c : EE sc105 (y105_2).toInt (y105_3).toInt := by first | exact g105_0 | exact ee_cg g113_0 (sI_p rfl) (sI_p rfl)
        have n113d : ∀ v : Nat, (v : Int) < ((Int32.ofInt 0)).toInt → (sc105.1 157 v).toInt < 0 := by first | (intro v hv; exfalso; have h0 : (Int32.ofInt 0).toInt = 0 := rfl; omega) | (intro v hv; rw [sI_q]; have e7 : y113_7.toNatClampNeg = y113_7.toInt.toNat := rfl; exact up_lt (fun c => g113_1 v (by have a0 := oa7 j105_1 ro_109_20 ro_109_19 j105_4 i107 j105_2 ((in_c 0 rfl)); omega)) (by decide))
        exact gg_w (by first | exact Nat.le_add_right _ _ | exact gw2 | exact gw3 | exact gwe rfl | exact gwf rfl | exact gwg rfl | exact gwh rfl | omega) (gg_f (gf_cons rfl (gf_cons rfl (gf_cons rfl (gf_cons rfl (gf_cons rfl (gf_cons rfl (gf_cons rfl gf_nil))))))) (ct113 33 sc105 (Int32.ofInt 0) hIc105 hFc105 (in_w 2 32 i107 rfl) (in_w 0 32 (in_c 0 rfl) rfl) n113 n113a n113b n113c n113d (m_in 33 (in_w 0 32 (in_c 0 rfl) rfl) rfl)))
  have ct18 : ∀ (k18 : Nat) (sc18 : GS) (y18_2 : Int32) (y18_3 : Int32), Inv sc18 → Fr fm_363 s sc18 → (In x1 0 31) → (In y18_2 0 160) → (In y18_3 0 160) → ((y18_2).toInt ≤ (y18_3).toInt) → (0 ≤ (y18_2).toInt) → ((x1).toInt < (u_109_20).toInt) → (EE sc18 (y18_2).toInt (u_109_20).toInt) → 160 - (y18_3).toInt < (k18 : Int) → GG Z (d - 1) 363 post (gx xp) (11791034 + k18 * 900) 18 (fun j => xlook j [(0, .ref (A 109)), (1, .int x1), (2, .int y18_2), (3, .int y18_3)]) [] (WW Z A sc18 ++ ex) 0 0 := by
    intro k18
    induction k18 with
    | zero => intro sc18 y18_2 y18_3 hIc18 hFc18 j18_1 j18_2 j18_3 n18_0 n18_1 n18_2 g18_0 mm18; exact m_no mm18 j18_3 rfl
    | succ k18 ih18 =>
      intro sc18 y18_2 y18_3 hIc18 hFc18 j18_1 j18_2 j18_3 n18_0 n18_1 n18_2 g18_0 mm18
      refine gg_w (M := 11791034 + k18 * 900 + 900) gws ?_
      refine g_iload_n 19 (gd rfl) rfl rfl ?_
      refine g_sipush 160 22 (gd rfl) rfl rfl ?_
      refine g_cmp_ge 25 94 (gd rfl) rfl rfl (fun c22 => ?_) (fun c22 => ?_)
      · skip
        have i22 := r_le2 160 160 c22 (in_c 160 rfl) j18_3 rfl
        refine g_aload_n 95 (gd rfl) rfl rfl ?_
        refine g_getI 98 (gd rfl) rfl rfl rfl (fun z95 e95 => ?_)
        have q95 : u_109_20 = z95 := (fr_F e_109_20 hFc18 rfl).trans e95.symm
        subst q95
        refine g_istore_n 99 (gd rfl) rfl (Nat.le_of_ble_eq_true rfl) ?_
        refine g_iload_n 100 (gd rfl) rfl rfl ?_
        refine g_istore 102 (gd rfl) rfl (Nat.le_of_ble_eq_true rfl) ?_
        refine g_lconst 0 103 (gd rfl) rfl rfl ?_
        refine g_lstore 105 (gd rfl) rfl (Nat.le_of_ble_eq_true rfl) ?_
        have n105 : (x1).toInt < (u_109_20).toInt := by first | exact n18_2 | (have a0 := oa5 j18_1 ro_109_20 ro_109_19 i22 j18_2; omega)
        have n105a : 0 ≤ (x1).toInt := by have a0 := oa5 j18_1 ro_109_20 ro_109_19 i22 j18_2; omega
        have n105b : 0 ≤ (y18_2).toInt := by first | exact n18_1 | (have a0 := oa5 j18_1 ro_109_20 ro_109_19 i22 j18_2; omega)
        have n105c : EE sc18 (y18_2).toInt (u_109_20).toInt := by first | exact g18_0 | (first | exact fun e he => g348_1 e (by have a0 := oa5 j18_1 ro_109_20 ro_109_19 i22 j18_2; omega) | exact g18_0)
        have m105 : (u_109_20).toInt < ((33 : Nat) : Int) := by have a0 := oa5 j18_1 ro_109_20 ro_109_19 i22 j18_2; omega
        exact gg_w (by first | exact Nat.le_add_right _ _ | exact gw2 | exact gw3 | exact gwe rfl | exact gwf rfl | exact gwg rfl | exact gwh rfl | omega) (gg_f (gf_cons rfl (gf_cons rfl (gf_cons rfl (gf_cons rfl (gf_cons rfl (gf_cons rfl gf_nil)))))) (ct105 33 sc18 y18_2 u_109_20 x1 (Int64.ofInt 0) hIc18 hFc18 (in_w 0 31 j18_1 rfl) (in_w 0 160 j18_2 rfl) (in_w 0 32 ro_109_20 rfl) (in_w 0 31 j18_1 rfl) n105 n105a n105b n105c m105))
      · skip
        have i22 := r_lt1 0 159 c22 j18_3 (in_c 160 rfl) rfl
        refine g_aload_n 26 (gd rfl) rfl rfl ?_
        refine g_iload_n 27 (gd rfl) rfl rfl ?_
        refine g_callv (X := _) (As := [.int y18_3]) (r := []) (b := A 109) (q := 109) 30 (gd rfl) rfl rfl rfl rfl rfl (ww_o rfl) (Nat.le_of_ble_eq_true rfl) (mc := 0) (ms := 0) (Nat.zero_le _) (Nat.zero_le _) (P := fun v u => _) ?_ (fun e u h => h) (fun v u h => h)
        intro po27 xx27 hp27 hx27
        refine g_enter2 (k := 288) (N := 300) (by first | exact dq1 hd rfl | exact dq0 hd rfl | exact dq2 hd rfl | exact dq3 hd rfl | omega) rfl (Nat.le_of_ble_eq_true rfl) ?_
        refine g_aload_n 1 (gd rfl) rfl rfl ?_
        refine g_getA (q2 := 112) 4 (gd rfl) rfl rfl rfl rfl ?_
        refine g_aload_n 5 (gd rfl) rfl rfl ?_
        refine g_getI 8 (gd rfl) rfl rfl rfl (fun z27x5 e27x5 => ?_)
        have q27x5 : u_109_19 = z27x5 := (fr_F e_109_19 hFc18 rfl).trans e27x5.symm
        subst q27x5
        refine g_iload_n 9 (gd rfl) rfl rfl ?_
        refine g_iadd 10 (gd rfl) rfl (fun z27x9 e27x9 => ?_)
        have i27x9 := in_add 0 319 e27x9 ro_109_19 i22 rfl rfl
        refine g_baload 11 (gd rfl) rfl (n := 480) rfl (in_ix i27x9 rfl) (fun z27x10 e27x10 => ?_)
        have i27x10 := inv_I hIc18 (n := 480) (t := 3) 0 1 rfl (in_ix i27x9 rfl) rfl e27x10
        refine g_if_eq 14 43 (gd rfl) rfl rfl (fun c27x11 => ?_) (fun c27x11 => ?_)
        · skip
          have i27x11 := z_eq 0 0 c27x11 i27x10 rfl
          refine g_iconst 0 44 (gd rfl) rfl rfl ?_
          refine g_ireturn (gd rfl) rfl (nb01 (in_w 0 1 (in_c 0 rfl) rfl)) (hp27 _ _ ?_)
          show GG _ _ _ _ _ _ _ _ [.int (Int32.ofInt 0)] _ _ _
          refine g_if_eq 33 88 (gd rfl) rfl rfl (fun c30 => ?_) (fun c30 => ?_)
          · skip
            refine g_iinc 91 (gd rfl) rfl rfl (Nat.le_of_ble_eq_true rfl) (fun z88 e88 => ?_)
            have i88 := in_add 1 160 e88 i22 (in_c 1 rfl) rfl rfl
            refine g_goto 18 (gd rfl) rfl ?_
            have n18 : (y18_2).toInt ≤ (z88).toInt := by have a0 := oa6 j18_1 ro_109_20 ro_109_19 i22 j18_2 i88; have a6 := t_add e88 i22 (in_c 1 rfl) rfl; have a7 := oa2 ((in_c 1 rfl)) i27x9; have a9 := t_add e27x9 ro_109_19 i22 rfl; omega
            have n18a : 0 ≤ (y18_2).toInt := by first | exact n18_1 | (have a0 := oa6 j18_1 ro_109_20 ro_109_19 i22 j18_2 i88; have a6 := t_add e88 i22 (in_c 1 rfl) rfl; have a7 := oa2 ((in_c 1 rfl)) i27x9; have a9 := t_add e27x9 ro_109_19 i22 rfl; omega)
            have n18b : (x1).toInt < (u_109_20).toInt := by first | exact n18_2 | (have a0 := oa6 j18_1 ro_109_20 ro_109_19 i22 j18_2 i88; have a6 := t_add e88 i22 (in_c 1 rfl) rfl; have a7 := oa2 ((in_c 1 rfl)) i27x9; have a9 := t_add e27x9 ro_109_19 i22 rfl; omega)
            have n18c : EE sc18 (y18_2).toInt (u_109_20).toInt := by first | exact g18_0 | (first | exact g18_0 | exact ee_s g18_0 (y := y18_2) (z := z48) (w := z65) (by simp [sL, sI]) (by simp [sL, sI]) (by have a0 := oa6 j18_1 ro_109_20 ro_109_19 i22 j18_2 i88; have a6 := t_add e88 i22 (in_c 1 rfl) rfl; have a7 := oa2 ((in_c 1 rfl)) i27x9; have a9 := t_add e27x9 ro_109_19 i22 rfl; omega) rfl (by rw [e48, e47, ← e27x9]; exact hk33.1) (by rw [e65, sI_p rfl, e64, ← e27x9]; exact hk33.2) (by have a0 := oa6 j18_1 ro_109_20 ro_109_19 i22 j18_2 i88; have a6 := t_add e88 i22 (in_c 1 rfl) rfl; have a7 := oa2 ((in_c 1 rfl)) i27x9; have a9 := t_add e27x9 ro_109_19 i22 rfl; omega) | exact ee_0 (by decide))
            exact gg_w (by first | exact Nat.le_add_right _ _ | exact gw2 | exact gw3 | exact gwe rfl | exact gwf rfl | exact gwg rfl | exact gwh rfl | omega) (gg_f (gf_cons rfl (gf_cons rfl (gf_cons rfl (gf_cons rfl gf_nil)))) (ih18 sc18 y18_2 z88 hIc18 hFc18 (in_w 0 31 j18_1 rfl) (in_w 0 160 j18_2 rfl) (in_w 0 160 i88 rfl) n18 n18a n18b n18c (m_up mm18 (t_add e88 i22 (in_c 1 rfl) rfl) (in_w 1 1 (in_c 1 rfl) rfl))))
          · skip
            exact zn_ne c30 (in_c 0 rfl) rfl
        · skip
          have i27x11 := z_ne 1 1 c27x11 i27x10 rfl
          refine g_aload_n 15 (gd rfl) rfl rfl ?_
          refine g_getA (q2 := 113) 18 (gd rfl) rfl rfl rfl rfl ?_
          refine g_aload_n 19 (gd rfl) rfl rfl ?_
          refine g_getI 22 (gd rfl) rfl rfl rfl (fun z27x19 e27x19 => ?_)
          have q27x19 : u_109_19 = z27x19 := (fr_F e_109_19 hFc18 rfl).trans e27x19.symm
          subst q27x19
          refine g_iload_n 23 (gd rfl) rfl rfl ?_
          refine g_iadd 24 (gd rfl) rfl (fun z27x23 e27x23 => ?_)
          have i27x23 := in_add 0 319 e27x23 ro_109_19 i22 rfl rfl
          refine g_iaload 25 (gd rfl) rfl (n := 480) rfl (in_ix i27x23 rfl) (fun z27x24 e27x24 => ?_)
          have i27x24 := inv_I hIc18 (n := 480) (t := 0) 0 31 rfl (in_ix i27x23 rfl) rfl e27x24
          refine g_aload_n 26 (gd rfl) rfl rfl ?_
          refine g_getA (q2 := 114) 29 (gd rfl) rfl rfl rfl rfl ?_
          refine g_aload_n 30 (gd rfl) rfl rfl ?_
          refine g_getI 33 (gd rfl) rfl rfl rfl (fun z27x30 e27x30 => ?_)
          have q27x30 : u_109_19 = z27x30 := (fr_F e_109_19 hFc18 rfl).trans e27x30.symm
          subst q27x30
          refine g_iload_n 34 (gd rfl) rfl rfl ?_
          refine g_iadd 35 (gd rfl) rfl (fun z27x34 e27x34 => ?_)
          have i27x34 := in_add 0 319 e27x34 ro_109_19 i22 rfl rfl
          refine g_iaload 36 (gd rfl) rfl (n := 480) rfl (in_ix i27x34 rfl) (fun z27x35 e27x35 => ?_)
          have i27x35 := inv_I hIc18 (n := 480) (t := 0) 0 31 rfl (in_ix i27x34 rfl) rfl e27x35
          refine g_cmp_eq 39 43 (gd rfl) rfl rfl (fun c27x36 => ?_) (fun c27x36 => ?_)
          · skip
            refine g_iconst 0 44 (gd rfl) rfl rfl ?_
            refine g_ireturn (gd rfl) rfl (nb01 (in_w 0 1 (in_c 0 rfl) rfl)) (hp27 _ _ ?_)
            show GG _ _ _ _ _ _ _ _ [.int (Int32.ofInt 0)] _ _ _
            refine g_if_eq 33 88 (gd rfl) rfl rfl (fun c30 => ?_) (fun c30 => ?_)
            · skip
              refine g_iinc 91 (gd rfl) rfl rfl (Nat.le_of_ble_eq_true rfl) (fun z88 e88 => ?_)
              have i88 := in_add 1 160 e88 i22 (in_c 1 rfl) rfl rfl
              refine g_goto 18 (gd rfl) rfl ?_
              have n18 : (y18_2).toInt ≤ (z88).toInt := by have a0 := oa6 j18_1 ro_109_20 ro_109_19 i22 j18_2 i88; have a6 := t_add e88 i22 (in_c 1 rfl) rfl; have a7 := oa2 ((in_c 1 rfl)) i27x34; have a9 := t_add e27x34 ro_109_19 i22 rfl; have a10 := in_u i27x23; have a11 := t_add e27x23 ro_109_19 i22 rfl; have a12 := in_u i27x9; have a13 := t_add e27x9 ro_109_19 i22 rfl; omega
              have n18a : 0 ≤ (y18_2).toInt := by first | exact n18_1 | (have a0 := oa6 j18_1 ro_109_20 ro_109_19 i22 j18_2 i88; have a6 := t_add e88 i22 (in_c 1 rfl) rfl; have a7 := oa2 ((in_c 1 rfl)) i27x34; have a9 := t_add e27x34 ro_109_19 i22 rfl; have a10 := in_u i27x23; have a11 := t_add e27x23 ro_109_19 i22 rfl; have a12 := in_u i27x9; have a13 := t_add e27x9 ro_109_19 i22 rfl; omega)
              have n18b : (x1).toInt < (u_109_20).toInt := by first | exact n18_2 | (have a0 := oa6 j18_1 ro_109_20 ro_109_19 i22 j18_2 i88; have a6 := t_add e88 i22 (in_c 1 rfl) rfl; have a7 := oa2 ((in_c 1 rfl)) i27x34; have a9 := t_add e27x34 ro_109_19 i22 rfl; have a10 := in_u i27x23; have a11 := t_add e27x23 ro_109_19 i22 rfl; have a12 := in_u i27x9; have a13 := t_add e27x9 ro_109_19 i22 rfl; omega)
              have n18c : EE sc18 (y18_2).toInt (u_109_20).toInt := by first | exact g18_0 | (first | exact g18_0 | exact ee_s g18_0 (y := y18_2) (z := z48) (w := z65) (by simp [sL, sI]) (by simp [sL, sI]) (by have a0 := oa6 j18_1 ro_109_20 ro_109_19 i22 j18_2 i88; have a6 := t_add e88 i22 (in_c 1 rfl) rfl; have a7 := oa2 ((in_c 1 rfl)) i27x34; have a9 := t_add e27x34 ro_109_19 i22 rfl; have a10 := in_u i27x23; have a11 := t_add e27x23 ro_109_19 i22 rfl; have a12 := in_u i27x9; have a13 := t_add e27x9 ro_109_19 i22 rfl; omega) rfl (by rw [e48, e47, ← e27x9]; exact hk33.1) (by rw [e65, sI_p rfl, e64, ← e27x9]; exact hk33.2) (by have a0 := oa6 j18_1 ro_109_20 ro_109_19 i22 j18_2 i88; have a6 := t_add e88 i22 (in_c 1 rfl) rfl; have a7 := oa2 ((in_c 1 rfl)) i27x34; have a9 := t_add e27x34 ro_109_19 i22 rfl; have a10 := in_u i27x23; have a11 := t_add e27x23 ro_109_19 i22 rfl; have a12 := in_u i27x9; have a13 := t_add e27x9 ro_109_19 i22 rfl; omega) | exact ee_0 (by decide))
              exact gg_w (by first | exact Nat.le_add_right _ _ | exact gw2 | exact gw3 | exact gwe rfl | exact gwf rfl | exact gwg rfl | exact gwh rfl | omega) (gg_f (gf_cons rfl (gf_cons rfl (gf_cons rfl (gf_cons rfl gf_nil)))) (ih18 sc18 y18_2 z88 hIc18 hFc18 (in_w 0 31 j18_1 rfl) (in_w 0 160 j18_2 rfl) (in_w 0 160 i88 rfl) n18 n18a n18b n18c (m_up mm18 (t_add e88 i22 (in_c 1 rfl) rfl) (in_w 1 1 (in_c 1 rfl) rfl))))
            · skip
              exact zn_ne c30 (in_c 0 rfl) rfl
          · skip
            refine g_iconst 1 40 (gd rfl) rfl rfl ?_
            refine g_goto 44 (gd rfl) rfl ?_
            refine g_ireturn (gd rfl) rfl (nb01 (in_w 0 1 (in_c 1 rfl) rfl)) (hp27 _ _ ?_)
            show GG _ _ _ _ _ _ _ _ [.int (Int32.ofInt 1)] _ _ _
            refine g_if_eq 33 88 (gd rfl) rfl rfl (fun c30 => ?_) (fun c30 => ?_)
            · skip
              exact zn_eq c30 (in_c 1 rfl) rfl
            · skip
              have hk33 := ke_n hIc18 (i := z27x9.toNatClampNeg) (by rw [← (show u_109_19 = sc18.2.2.1 109 19 from fr_F e_109_19 hFc18 rfl)]; show _ ≤ ((z27x9.toInt.toNat : Nat) : Int); have a0 := oa6 j18_1 ro_109_20 ro_109_19 i22 j18_2 i27x34; have a6 := t_add e27x34 ro_109_19 i22 rfl; have a7 := in_u i27x23; have a8 := t_add e27x23 ro_109_19 i22 rfl; have a9 := in_u i27x9; have a10 := t_add e27x9 ro_109_19 i22 rfl; omega) (by rw [← (show u_109_19 = sc18.2.2.1 109 19 from fr_F e_109_19 hFc18 rfl)]; show ((z27x9.toInt.toNat : Nat) : Int) < _; have a0 := oa6 j18_1 ro_109_20 ro_109_19 i22 j18_2 i27x34; have a6 := t_add e27x34 ro_109_19 i22 rfl; have a7 := in_u i27x23; have a8 := t_add e27x23 ro_109_19 i22 rfl; have a9 := in_u i27x9; have a10 := t_add e27x9 ro_109_19 i22 rfl; omega) (by rw [← e27x10]; exact c27x11); rw [← (show u_109_20 = sc18.2.2.1 109 20 from fr_F e_109_20 hFc18 rfl)] at hk33
              refine g_aload_n 34 (gd rfl) rfl rfl ?_
              refine g_getA (q2 := 153) 37 (gd rfl) rfl rfl rfl rfl ?_
              refine g_iload_n 38 (gd rfl) rfl rfl ?_
              refine g_aload_n 39 (gd rfl) rfl rfl ?_
              refine g_getA (q2 := 113) 42 (gd rfl) rfl rfl rfl rfl ?_
              refine g_aload_n 43 (gd rfl) rfl rfl ?_
              refine g_getI 46 (gd rfl) rfl rfl rfl (fun z43 e43 => ?_)
              have q43 : u_109_19 = z43 := (fr_F e_109_19 hFc18 rfl).trans e43.symm
              subst q43
              refine g_iload_n 47 (gd rfl) rfl rfl ?_
              refine g_iadd 48 (gd rfl) rfl (fun z47 e47 => ?_)
              have i47 := in_add 0 319 e47 ro_109_19 i22 rfl rfl
              refine g_iaload 49 (gd rfl) rfl (n := 480) rfl (in_ix i47 rfl) (fun z48 e48 => ?_)
              have i48 := inv_I hIc18 (n := 480) (t := 0) 0 31 rfl (in_ix i47 rfl) rfl e48
              have i49 : In y18_2 0 159 := by exact ⟨by have a0 := oa6 j18_1 ro_109_20 ro_109_19 i22 j18_2 i47; have a6 := t_add e47 ro_109_19 i22 rfl; have a7 := in_u i27x34; have a8 := t_add e27x34 ro_109_19 i22 rfl; have a9 := in_u i27x23; have a10 := t_add e27x23 ro_109_19 i22 rfl; have a11 := in_u i27x9; have a12 := t_add e27x9 ro_109_19 i22 rfl; omega, by have a0 := oa6 j18_1 ro_109_20 ro_109_19 i22 j18_2 i47; have a6 := t_add e47 ro_109_19 i22 rfl; have a7 := in_u i27x34; have a8 := t_add e27x34 ro_109_19 i22 rfl; have a9 := in_u i27x23; have a10 := t_add e27x23 ro_109_19 i22 rfl; have a11 := in_u i27x9; have a12 := t_add e27x9 ro_109_19 i22 rfl; omega⟩
              refine g_iastore 50 (gd rfl) rfl (n := 160) rfl (in_ix i49 rfl) ?_
              have hI49 := inv_sI (q := 153) (j := y18_2.toNatClampNeg) hIc18 rfl (in_w 0 31 i48 rfl)
              refine g_aload_n 51 (gd rfl) rfl rfl ?_
              refine g_getA (q2 := 154) 54 (gd rfl) rfl rfl rfl rfl ?_
              refine g_iload_n 55 (gd rfl) rfl rfl ?_
              refine g_aload_n 56 (gd rfl) rfl rfl ?_
              refine g_getA (q2 := 114) 59 (gd rfl) rfl rfl rfl rfl ?_
              refine g_aload_n 60 (gd rfl) rfl rfl ?_
              refine g_getI 63 (gd rfl) rfl rfl rfl (fun z60 e60 => ?_)
              have q60 : u_109_19 = z60 := (sI_F (fr_F e_109_19 hFc18 rfl)).trans e60.symm
              subst q60
              refine g_iload_n 64 (gd rfl) rfl rfl ?_
              refine g_iadd 65 (gd rfl) rfl (fun z64 e64 => ?_)
              have i64 := in_add 0 319 e64 ro_109_19 i22 rfl rfl
              refine g_iaload 66 (gd rfl) rfl (n := 480) rfl (in_ix i64 rfl) (fun z65 e65 => ?_)
              have i65 := inv_I hI49 (n := 480) (t := 0) 0 31 rfl (in_ix i64 rfl) rfl e65
              refine g_iastore 67 (gd rfl) rfl (n := 160) rfl (in_ix i49 rfl) ?_
              have hI66 := inv_sI (q := 154) (j := y18_2.toNatClampNeg) hI49 rfl (in_w 0 31 i65 rfl)
              refine g_aload_n 68 (gd rfl) rfl rfl ?_
              refine g_getA (q2 := 155) 71 (gd rfl) rfl rfl rfl rfl ?_
              refine g_iload_n 72 (gd rfl) rfl rfl ?_
              refine g_aload_n 73 (gd rfl) rfl rfl ?_
              refine g_getA (q2 := 115) 76 (gd rfl) rfl rfl rfl rfl ?_
              refine g_aload_n 77 (gd rfl) rfl rfl ?_
              refine g_getI 80 (gd rfl) rfl rfl rfl (fun z77 e77 => ?_)
              have q77 : u_109_19 = z77 := (sI_F (sI_F (fr_F e_109_19 hFc18 rfl))).trans e77.symm
              subst q77
              refine g_iload_n 81 (gd rfl) rfl rfl ?_
              refine g_iadd 82 (gd rfl) rfl (fun z81 e81 => ?_)
              have i81 := in_add 0 319 e81 ro_109_19 i22 rfl rfl
              refine g_iaload 83 (gd rfl) rfl (n := 480) rfl (in_ix i81 rfl) (fun z82 e82 => ?_)
              have i82 := inv_I hI66 (n := 480) (t := 0) (-1000000) 1000000 rfl (in_ix i81 rfl) rfl e82
              refine g_i2l 84 (gd rfl) rfl (fun z83 e83 => ?_)
              have i83 := l_i e83 i82
              refine g_lastore 85 (gd rfl) rfl (n := 160) rfl (in_ix i49 rfl) ?_
              have hI84 := inv_sL (q := 155) (j := y18_2.toNatClampNeg) (x := z83) hI66 rfl (l_rng z83)
              refine g_iinc 88 (gd rfl) rfl rfl (Nat.le_of_ble_eq_true rfl) (fun z85 e85 => ?_)
              have i85 := in_add 1 160 e85 i49 (in_c 1 rfl) rfl rfl
              refine g_iinc 91 (gd rfl) rfl rfl (Nat.le_of_ble_eq_true rfl) (fun z88 e88 => ?_)
              have i88 := in_add 1 160 e88 i22 (in_c 1 rfl) rfl rfl
              refine g_goto 18 (gd rfl) rfl ?_
              have n18 : (z85).toInt ≤ (z88).toInt := by have a0 := oa6 j18_1 ro_109_20 ro_109_19 i22 i49 i88; have a6 := t_add e88 i22 (in_c 1 rfl) rfl; have a7 := oa2 ((in_c 1 rfl)) i85; have a9 := t_add e85 i49 (in_c 1 rfl) rfl; have a10 := tx_i2l e83; have a11 := oa2 i82 i81; have a13 := t_add e81 ro_109_19 i22 rfl; have a14 := in_u i64; have a15 := t_add e64 ro_109_19 i22 rfl; have a16 := in_u i47; have a17 := t_add e47 ro_109_19 i22 rfl; have a18 := in_u i27x34; have a19 := t_add e27x34 ro_109_19 i22 rfl; have a20 := in_u i27x23; have a21 := t_add e27x23 ro_109_19 i22 rfl; have a22 := in_u i27x9; have a23 := t_add e27x9 ro_109_19 i22 rfl; omega
              have n18a : 0 ≤ (z85).toInt := by have a0 := oa6 j18_1 ro_109_20 ro_109_19 i22 i49 i88; have a6 := t_add e88 i22 (in_c 1 rfl) rfl; have a7 := oa2 ((in_c 1 rfl)) i85; have a9 := t_add e85 i49 (in_c 1 rfl) rfl; have a10 := tx_i2l e83; have a11 := oa2 i82 i81; have a13 := t_add e81 ro_109_19 i22 rfl; have a14 := in_u i64; have a15 := t_add e64 ro_109_19 i22 rfl; have a16 := in_u i47; have a17 := t_add e47 ro_109_19 i22 rfl; have a18 := in_u i27x34; have a19 := t_add e27x34 ro_109_19 i22 rfl; have a20 := in_u i27x23; have a21 := t_add e27x23 ro_109_19 i22 rfl; have a22 := in_u i27x9; have a23 := t_add e27x9 ro_109_19 i22 rfl; omega
              have n18b : (x1).toInt < (u_109_20).toInt := by first | exact n18_2 | (have a0 := oa6 j18_1 ro_109_20 ro_109_19 i22 i49 i88; have a6 := t_add e88 i22 (in_c 1 rfl) rfl; have a7 := oa2 ((in_c 1 rfl)) i85; have a9 := t_add e85 i49 (in_c 1 rfl) rfl; have a10 := tx_i2l e83; have a11 := oa2 i82 i81; have a13 := t_add e81 ro_109_19 i22 rfl; have a14 := in_u i64; have a15 := t_add e64 ro_109_19 i22 rfl; have a16 := in_u i47; have a17 := t_add e47 ro_109_19 i22 rfl; have a18 := in_u i27x34; have a19 := t_add e27x34 ro_109_19 i22 rfl; have a20 := in_u i27x23; have a21 := t_add e27x23 ro_109_19 i22 rfl; have a22 := in_u i27x9; have a23 := t_add e27x9 ro_109_19 i22 rfl; omega)
              have n18c : EE (sL (sI (sI sc18 153 y18_2.toNatClampNeg z48) 154 y18_2.toNatClampNeg z65) 155 y18_2.toNatClampNeg z83) (z85).toInt (u_109_20).toInt := by first | exact g18_0 | exact ee_s g18_0 (y := y18_2) (z := z48) (w := z65) (by simp [sL, sI]) (by simp [sL, sI]) (by have a0 := oa6 j18_1 ro_109_20 ro_109_19 i22 i49 i88; have a6 := t_add e88 i22 (in_c 1 rfl) rfl; have a7 := oa2 ((in_c 1 rfl)) i85; have a9 := t_add e85 i49 (in_c 1 rfl) rfl; have a10 := tx_i2l e83; have a11 := oa2 i82 i81; have a13 := t_add e81 ro_109_19 i22 rfl; have a14 := in_u i64; have a15 := t_add e64 ro_109_19 i22 rfl; have a16 := in_u i47; have a17 := t_add e47 ro_109_19 i22 rfl; have a18 := in_u i27x34; have a19 := t_add e27x34 ro_109_19 i22 rfl; have a20 := in_u i27x23; have a21 := t_add e27x23 ro_109_19 i22 rfl; have a22 := in_u i27x9; have a23 := t_add e27x9 ro_109_19 i22 rfl; omega) rfl (by rw [e48, e47, ← e27x9]; exact hk33.1) (by rw [e65, sI_p rfl, e64, ← e27x9]; exact hk33.2) (by have a0 := oa6 j18_1 ro_109_20 ro_109_19 i22 i49 i88; have a6 := t_add e88 i22 (in_c 1 rfl) rfl; have a7 := oa2 ((in_c 1 rfl)) i85; have a9 := t_add e85 i49 (in_c 1 rfl) rfl; have a10 := tx_i2l e83; have a11 := oa2 i82 i81; have a13 := t_add e81 ro_109_19 i22 rfl; have a14 := in_u i64; have a15 := t_add e64 ro_109_19 i22 rfl; have a16 := in_u i47; have a17 := t_add e47 ro_109_19 i22 rfl; have a18 := in_u i27x34; have a19 := t_add e27x34 ro_109_19 i22 rfl; have a20 := in_u i27x23; have a21 := t_add e27x23 ro_109_19 i22 rfl; have a22 := in_u i27x9; have a23 := t_add e27x9 ro_109_19 i22 rfl; omega) | exact ee_0 (by decide)
              exact gg_w (by first | exact Nat.le_add_right _ _ | exact gw2 | exact gw3 | exact gwe rfl | exact gwf rfl | exact gwg rfl | exact gwh rfl | omega) (gg_f (gf_cons rfl (gf_cons rfl (gf_cons rfl (gf_cons rfl gf_nil)))) (ih18 (sL (sI (sI sc18 153 y18_2.toNatClampNeg z48) 154 y18_2.toNatClampNeg z65) 155 y18_2.toNatClampNeg z83) z85 z88 hI84 (fr_sL rfl (fr_sI rfl (fr_sI rfl hFc18))) (in_w 0 31 j18_1 rfl) (in_w 0 160 i85 rfl) (in_w 0 160 i88 rfl) n18 n18a n18b n18c (m_up mm18 (t_add e88 i22 (in_c 1 rfl) rfl) (in_w 1 1 (in_c 1 rfl) rfl))))
  refine g_enter2 (k := 363) (N := 11936834) (by first | exact dq1 hd rfl | exact dq0 hd rfl | exact dq2 hd rfl | exact dq3 hd rfl | omega) rfl (Nat.le_of_ble_eq_true rfl) ?_
  refine g_aload_n 1 (gd rfl) rfl rfl ?_
  refine g_aload_n 2 (gd rfl) rfl rfl ?_
  refine g_iload_n 3 (gd rfl) rfl rfl ?_
  refine g_callv (X := _) (As := [.int x1]) (r := [.ref (A 109)]) (b := A 109) (q := 109) 6 (gd rfl) rfl rfl rfl rfl rfl (ww_o rfl) (Nat.le_of_ble_eq_true rfl) (mc := 0) (ms := 0) (Nat.zero_le _) (Nat.zero_le _) (P := fun v u => _) ?_ (fun e u h => h) (fun v u h => h)
  intro po3 xx3 hp3 hx3
  refine g_enter2 (k := 272) (N := 300) (by first | exact dq1 hd rfl | exact dq0 hd rfl | exact dq2 hd rfl | exact dq3 hd rfl | omega) rfl (Nat.le_of_ble_eq_true rfl) ?_
  refine g_iload_n 1 (gd rfl) rfl rfl ?_
  refine g_if_lt 4 16 (gd rfl) rfl rfl (fun c3x1 => ?_) (fun c3x1 => ?_)
  · skip
    have i3x1 := z_lt (-2147483648) (-1) c3x1 (i_rng x1) rfl
    refine g_iconst 0 17 (gd rfl) rfl rfl ?_
    refine g_ireturn (gd rfl) rfl (nb01 (in_w 0 1 (in_c 0 rfl) rfl)) (hp3 _ _ ?_)
    show GG _ _ _ _ _ _ _ _ [.int (Int32.ofInt 0), .ref (A 109)] _ _ _
    refine g_callv (X := _) (As := [.int (Int32.ofInt 0)]) (r := []) (b := A 109) (q := 109) 9 (gd rfl) rfl rfl rfl rfl rfl (ww_o rfl) (Nat.le_of_ble_eq_true rfl) (mc := 0) (ms := 0) (Nat.zero_le _) (Nat.zero_le _) (P := fun v u => _) ?_ (fun e u h => h) (fun v u h => h)
    intro po6 xx6 hp6 hx6
    refine g_enter2 (k := 271) (N := 300) (by first | exact dq1 hd rfl | exact dq0 hd rfl | exact dq2 hd rfl | exact dq3 hd rfl | omega) rfl (Nat.le_of_ble_eq_true rfl) ?_
    refine g_aload_n 1 (gd rfl) rfl rfl ?_
    refine g_iload_n 2 (gd rfl) rfl rfl ?_
    refine g_iconst 1 3 (gd rfl) rfl rfl ?_
    refine g_callv (X := _) (As := [.int (Int32.ofInt 0), .int (Int32.ofInt 1)]) (r := []) (b := A 109) (q := 109) 6 (gd rfl) rfl rfl rfl rfl rfl (ww_o rfl) (Nat.le_of_ble_eq_true rfl) (mc := 0) (ms := 0) (Nat.zero_le _) (Nat.zero_le _) (P := fun v u => _) ?_ (fun e u h => h) (fun v u h => h)
    intro po6x3 xx6x3 hp6x3 hx6x3
    refine g_enter2 (k := 270) (N := 300) (by first | exact dq1 hd rfl | exact dq0 hd rfl | exact dq2 hd rfl | exact dq3 hd rfl | omega) rfl (Nat.le_of_ble_eq_true rfl) ?_
    refine g_aload_n 1 (gd rfl) rfl rfl ?_
    refine g_iload_n 2 (gd rfl) rfl rfl ?_
    refine g_if_ne 5 9 (gd rfl) rfl rfl (fun c6x3x2 => ?_) (fun c6x3x2 => ?_)
    · skip
      exact zn_ne c6x3x2 (in_c 0 rfl) rfl
    · skip
      refine g_iconst 1 6 (gd rfl) rfl rfl ?_
      refine g_goto 18 (gd rfl) rfl ?_
      refine g_putI 21 (gd rfl) rfl rfl rfl rfl ?_
      have hI6x3x18 := inv_sF (q := 109) (j := 0) hI rfl (in_w 0 2 (in_c 1 rfl) rfl)
      refine g_aload_n 22 (gd rfl) rfl rfl ?_
      refine g_getI 25 (gd rfl) rfl rfl rfl (fun z6x3x22 e6x3x22 => ?_)
      have q6x3x22 : (Int32.ofInt 1) = z6x3x22 := (sF_get).trans e6x3x22.symm
      subst q6x3x22
      refine g_if_le 28 32 (gd rfl) rfl rfl (fun c6x3x25 => ?_) (fun c6x3x25 => ?_)
      · skip
        exact zn_le c6x3x25 (in_c 1 rfl) rfl
      · skip
        refine g_iconst 1 29 (gd rfl) rfl rfl ?_
        refine g_goto 33 (gd rfl) rfl ?_
        refine g_ireturn (gd rfl) rfl (nb01 (in_w 0 1 (in_c 1 rfl) rfl)) (hp6x3 _ _ ?_)
        show GG _ _ _ _ _ _ _ _ [.int (Int32.ofInt 1)] _ _ _
        refine g_ireturn (gd rfl) rfl (nb01 (in_w 0 1 (in_c 1 rfl) rfl)) (hp6 _ _ ?_)
        show GG _ _ _ _ _ _ _ _ [.int (Int32.ofInt 1)] _ _ _
        refine g_if_eq 12 14 (gd rfl) rfl rfl (fun c9 => ?_) (fun c9 => ?_)
        · skip
          exact zn_eq c9 (in_c 1 rfl) rfl
        · skip
          refine g_lconst 0 13 (gd rfl) rfl rfl ?_
          exact g_lreturn (gd rfl) rfl (hP _ _ ⟨(sF s 109 0 (Int32.ofInt 1)), hI6x3x18, (fr_sF rfl fr_rf), (Int64.ofInt 0), rfl, rfl⟩)
  · skip
    have i3x1 := z_ge 0 2147483647 c3x1 (i_rng x1) rfl
    refine g_iload_n 5 (gd rfl) rfl rfl ?_
    refine g_aload_n 6 (gd rfl) rfl rfl ?_
    refine g_getI 9 (gd rfl) rfl rfl rfl (fun z3x6 e3x6 => ?_)
    have q3x6 : u_109_20 = z3x6 := (e_109_20).trans e3x6.symm
    subst q3x6
    refine g_cmp_ge 12 16 (gd rfl) rfl rfl (fun c3x9 => ?_) (fun c3x9 => ?_)
    · skip
      refine g_iconst 0 17 (gd rfl) rfl rfl ?_
      refine g_ireturn (gd rfl) rfl (nb01 (in_w 0 1 (in_c 0 rfl) rfl)) (hp3 _ _ ?_)
      show GG _ _ _ _ _ _ _ _ [.int (Int32.ofInt 0), .ref (A 109)] _ _ _
      refine g_callv (X := _) (As := [.int (Int32.ofInt 0)]) (r := []) (b := A 109) (q := 109) 9 (gd rfl) rfl rfl rfl rfl rfl (ww_o rfl) (Nat.le_of_ble_eq_true rfl) (mc := 0) (ms := 0) (Nat.zero_le _) (Nat.zero_le _) (P := fun v u => _) ?_ (fun e u h => h) (fun v u h => h)
      intro po6 xx6 hp6 hx6
      refine g_enter2 (k := 271) (N := 300) (by first | exact dq1 hd rfl | exact dq0 hd rfl | exact dq2 hd rfl | exact dq3 hd rfl | omega) rfl (Nat.le_of_ble_eq_true rfl) ?_
      refine g_aload_n 1 (gd rfl) rfl rfl ?_
      refine g_iload_n 2 (gd rfl) rfl rfl ?_
      refine g_iconst 1 3 (gd rfl) rfl rfl ?_
      refine g_callv (X := _) (As := [.int (Int32.ofInt 0), .int (Int32.ofInt 1)]) (r := []) (b := A 109) (q := 109) 6 (gd rfl) rfl rfl rfl rfl rfl (ww_o rfl) (Nat.le_of_ble_eq_true rfl) (mc := 0) (ms := 0) (Nat.zero_le _) (Nat.zero_le _) (P := fun v u => _) ?_ (fun e u h => h) (fun v u h => h)
      intro po6x3 xx6x3 hp6x3 hx6x3
      refine g_enter2 (k := 270) (N := 300) (by first | exact dq1 hd rfl | exact dq0 hd rfl | exact dq2 hd rfl | exact dq3 hd rfl | omega) rfl (Nat.le_of_ble_eq_true rfl) ?_
      refine g_aload_n 1 (gd rfl) rfl rfl ?_
      refine g_iload_n 2 (gd rfl) rfl rfl ?_
      refine g_if_ne 5 9 (gd rfl) rfl rfl (fun c6x3x2 => ?_) (fun c6x3x2 => ?_)
      · skip
        exact zn_ne c6x3x2 (in_c 0 rfl) rfl
      · skip
        refine g_iconst 1 6 (gd rfl) rfl rfl ?_
        refine g_goto 18 (gd rfl) rfl ?_
        refine g_putI 21 (gd rfl) rfl rfl rfl rfl ?_
        have hI6x3x18 := inv_sF (q := 109) (j := 0) hI rfl (in_w 0 2 (in_c 1 rfl) rfl)
        refine g_aload_n 22 (gd rfl) rfl rfl ?_
        refine g_getI 25 (gd rfl) rfl rfl rfl (fun z6x3x22 e6x3x22 => ?_)
        have q6x3x22 : (Int32.ofInt 1) = z6x3x22 := (sF_get).trans e6x3x22.symm
        subst q6x3x22
        refine g_if_le 28 32 (gd rfl) rfl rfl (fun c6x3x25 => ?_) (fun c6x3x25 => ?_)
        · skip
          exact zn_le c6x3x25 (in_c 1 rfl) rfl
        · skip
          refine g_iconst 1 29 (gd rfl) rfl rfl ?_
          refine g_goto 33 (gd rfl) rfl ?_
          refine g_ireturn (gd rfl) rfl (nb01 (in_w 0 1 (in_c 1 rfl) rfl)) (hp6x3 _ _ ?_)
          show GG _ _ _ _ _ _ _ _ [.int (Int32.ofInt 1)] _ _ _
          refine g_ireturn (gd rfl) rfl (nb01 (in_w 0 1 (in_c 1 rfl) rfl)) (hp6 _ _ ?_)
          show GG _ _ _ _ _ _ _ _ [.int (Int32.ofInt 1)] _ _ _
          refine g_if_eq 12 14 (gd rfl) rfl rfl (fun c9 => ?_) (fun c9 => ?_)
          · skip
            exact zn_eq c9 (in_c 1 rfl) rfl
          · skip
            refine g_lconst 0 13 (gd rfl) rfl rfl ?_
            exact g_lreturn (gd rfl) rfl (hP _ _ ⟨(sF s 109 0 (Int32.ofInt 1)), hI6x3x18, (fr_sF rfl fr_rf), (Int64.ofInt 0), rfl, rfl⟩)
    · skip
      have i3x9 := r_lt1 0 31 c3x9 i3x1 ro_109_20 rfl
      have i3x9a := r_lt2 1 32 c3x9 i3x1 ro_109_20 rfl
      refine g_iconst 1 13 (gd rfl) rfl rfl ?_
      refine g_goto 17 (gd rfl) rfl ?_
      refine g_ireturn (gd rfl) rfl (nb01 (in_w 0 1 (in_c 1 rfl) rfl)) (hp3 _ _ ?_)
      show GG _ _ _ _ _ _ _ _ [.int (Int32.ofInt 1), .ref (A 109)] _ _ _
      refine g_callv (X := _) (As := [.int (Int32.ofInt 1)]) (r := []) (b := A 109) (q := 109) 9 (gd rfl) rfl rfl rfl rfl rfl (ww_o rfl) (Nat.le_of_ble_eq_true rfl) (mc := 0) (ms := 0) (Nat.zero_le _) (Nat.zero_le _) (P := fun v u => _) ?_ (fun e u h => h) (fun v u h => h)
      intro po6 xx6 hp6 hx6
      refine g_enter2 (k := 271) (N := 300) (by first | exact dq1 hd rfl | exact dq0 hd rfl | exact dq2 hd rfl | exact dq3 hd rfl | omega) rfl (Nat.le_of_ble_eq_true rfl) ?_
      refine g_aload_n 1 (gd rfl) rfl rfl ?_
      refine g_iload_n 2 (gd rfl) rfl rfl ?_
      refine g_iconst 1 3 (gd rfl) rfl rfl ?_
      refine g_callv (X := _) (As := [.int (Int32.ofInt 1), .int (Int32.ofInt 1)]) (r := []) (b := A 109) (q := 109) 6 (gd rfl) rfl rfl rfl rfl rfl (ww_o rfl) (Nat.le_of_ble_eq_true rfl) (mc := 0) (ms := 0) (Nat.zero_le _) (Nat.zero_le _) (P := fun v u => _) ?_ (fun e u h => h) (fun v u h => h)
      intro po6x3 xx6x3 hp6x3 hx6x3
      refine g_enter2 (k := 270) (N := 300) (by first | exact dq1 hd rfl | exact dq0 hd rfl | exact dq2 hd rfl | exact dq3 hd rfl | omega) rfl (Nat.le_of_ble_eq_true rfl) ?_
      refine g_aload_n 1 (gd rfl) rfl rfl ?_
      refine g_iload_n 2 (gd rfl) rfl rfl ?_
      refine g_if_ne 5 9 (gd rfl) rfl rfl (fun c6x3x2 => ?_) (fun c6x3x2 => ?_)
      · skip
        refine g_iload_n 10 (gd rfl) rfl rfl ?_
        refine g_if_ne 13 17 (gd rfl) rfl rfl (fun c6x3x10 => ?_) (fun c6x3x10 => ?_)
        · skip
          refine g_iconst 0 18 (gd rfl) rfl rfl ?_
          refine g_putI 21 (gd rfl) rfl rfl rfl rfl ?_
          have hI6x3x18 := inv_sF (q := 109) (j := 0) hI rfl (in_w 0 2 (in_c 0 rfl) rfl)
          refine g_aload_n 22 (gd rfl) rfl rfl ?_
          refine g_getI 25 (gd rfl) rfl rfl rfl (fun z6x3x22 e6x3x22 => ?_)
          have q6x3x22 : (Int32.ofInt 0) = z6x3x22 := (sF_get).trans e6x3x22.symm
          subst q6x3x22
          refine g_if_le 28 32 (gd rfl) rfl rfl (fun c6x3x25 => ?_) (fun c6x3x25 => ?_)
          · skip
            refine g_iconst 0 33 (gd rfl) rfl rfl ?_
            refine g_ireturn (gd rfl) rfl (nb01 (in_w 0 1 (in_c 0 rfl) rfl)) (hp6x3 _ _ ?_)
            show GG _ _ _ _ _ _ _ _ [.int (Int32.ofInt 0)] _ _ _
            refine g_ireturn (gd rfl) rfl (nb01 (in_w 0 1 (in_c 0 rfl) rfl)) (hp6 _ _ ?_)
            show GG _ _ _ _ _ _ _ _ [.int (Int32.ofInt 0)] _ _ _
            refine g_if_eq 12 14 (gd rfl) rfl rfl (fun c9 => ?_) (fun c9 => ?_)
            · skip
              refine g_iconst 0 15 (gd rfl) rfl rfl ?_
              refine g_istore_n 16 (gd rfl) rfl (Nat.le_of_ble_eq_true rfl) ?_
              refine g_iconst 0 17 (gd rfl) rfl rfl ?_
              refine g_istore_n 18 (gd rfl) rfl (Nat.le_of_ble_eq_true rfl) ?_
              have n18 : ((Int32.ofInt 0)).toInt ≤ ((Int32.ofInt 0)).toInt := by exact Int.le_refl _
              have n18a : 0 ≤ ((Int32.ofInt 0)).toInt := by have a0 := oa4 i3x9 i3x9a ro_109_19 ((in_c 0 rfl)); omega
              have n18b : (x1).toInt < (u_109_20).toInt := by have a0 := oa4 i3x9 i3x9a ro_109_19 ((in_c 0 rfl)); omega
              have n18c : EE (sF s 109 0 (Int32.ofInt 0)) ((Int32.ofInt 0)).toInt (u_109_20).toInt := by first | exact g18_0 | exact ee_s g18_0 (y := y18_2) (z := z48) (w := z65) (by simp [sL, sI]) (by simp [sL, sI]) (by have a0 := oa4 i3x9 i3x9a ro_109_19 ((in_c 0 rfl)); omega) rfl (by rw [e48, e47, ← e27x9]; exact hk33.1) (by rw [e65, sI_p rfl, e64, ← e27x9]; exact hk33.2) (by have a0 := oa4 i3x9 i3x9a ro_109_19 ((in_c 0 rfl)); omega) | exact ee_0 (by decide)
              exact gg_w (by first | exact Nat.le_of_ble_eq_true rfl | omega) (gg_f (gf_cons rfl (gf_cons rfl (gf_cons rfl (gf_cons rfl gf_nil)))) (ct18 161 (sF s 109 0 (Int32.ofInt 0)) (Int32.ofInt 0) (Int32.ofInt 0) hI6x3x18 (fr_sF rfl fr_rf) (in_w 0 31 i3x9 rfl) (in_w 0 160 (in_c 0 rfl) rfl) (in_w 0 160 (in_c 0 rfl) rfl) n18 n18a n18b n18c (m_in 161 (in_w 0 160 (in_c 0 rfl) rfl) rfl)))
            · skip
              exact zn_ne c9 (in_c 0 rfl) rfl
          · skip
            exact zn_gt c6x3x25 (in_c 0 rfl) rfl
        · skip
          exact zn_eq c6x3x10 (in_c 1 rfl) rfl
      · skip
        exact zn_eq c6x3x2 (in_c 1 rfl) rfl

/-- GraphHouseModel.bestGroup -/
theorem k_376 {Z : AmZ} {A : Nat → Nat} {s : GS} {ex : va_W} {d : Nat} {X : AmX} {x1 : Int32} (hd : 4 ≤ d) (hI : Inv s) (h1 : In x1 0 31) : GC Z d 376 [.ref (A 109), .int x1] (WW Z A s ++ ex) 0 0 (fun v u => ∃ z : Int32, v = some (.int z) ∧ u = WW Z A s ++ ex ∧ In z (-2147483648) 2147483647) X := by
  intro post xp hP hX
  obtain ⟨u_109_20, e_109_20⟩ : ∃ w, w = s.2.2.1 109 20 := ⟨_, rfl⟩
  have ro_109_20 := inv_F hI 0 32 rfl e_109_20
  have ct49 : ∀ (k49 : Nat) (y49_2 : Int64) (y49_4 : Int32) (y49_5 : Int32) (y49_6 : Int32) (y49_7 : Int32), (In y49_5 (-1) 40) → (In y49_6 0 1) → (In y49_7 0 32) → 32 - (y49_7).toInt < (k49 : Int) → GG Z (d - 1) 376 post (gx xp) (1 + k49 * 900) 49 (fun j => xlook j [(0, .ref (A 109)), (1, .int x1), (2, .long y49_2), (4, .int y49_4), (5, .int y49_5), (6, .int y49_6), (7, .int y49_7)]) [] (WW Z A s ++ ex) 0 0 := by
    intro k49
    induction k49 with
    | zero => intro y49_2 y49_4 y49_5 y49_6 y49_7 j49_5 j49_6 j49_7 mm49; exact m_no mm49 j49_7 rfl
    | succ k49 ih49 =>
      intro y49_2 y49_4 y49_5 y49_6 y49_7 j49_5 j49_6 j49_7 mm49
      refine gg_w (M := 1 + k49 * 900 + 900) gws ?_
      refine g_iload 51 (gd rfl) rfl rfl ?_
      refine g_aload_n 52 (gd rfl) rfl rfl ?_
      refine g_getI 55 (gd rfl) rfl rfl rfl (fun z52 e52 => ?_)
      have q52 : u_109_20 = z52 := (e_109_20).trans e52.symm
      subst q52
      refine g_cmp_ge 58 171 (gd rfl) rfl rfl (fun c55 => ?_) (fun c55 => ?_)
      · skip
        refine g_iload 173 (gd rfl) rfl rfl ?_
        refine g_if_ne 176 187 (gd rfl) rfl rfl (fun c173 => ?_) (fun c173 => ?_)
        · skip
          have i173 := z_ne 1 1 c173 j49_6 rfl
          refine g_iload 189 (gd rfl) rfl rfl ?_
          exact g_ireturn (gd rfl) rfl rfl (hP _ _ ⟨y49_4, rfl, rfl, in_w (-2147483648) 2147483647 (i_rng y49_4) rfl⟩)
        · skip
          have i173 := z_eq 0 0 c173 j49_6 rfl
          refine g_lload_n 177 (gd rfl) rfl rfl ?_
          refine g_lconst 0 178 (gd rfl) rfl rfl ?_
          refine g_lcmp 179 (gd rfl) rfl (fun z178 e178 => ?_)
          have i178 := lc_in e178
          refine g_if_ge 182 187 (gd rfl) rfl rfl (fun c179 => ?_) (fun c179 => ?_)
          · skip
            have i179 := z_ge 0 1 c179 i178 rfl
            have c179a := lc_ge e178 c179
            have i179a := lr_le2 0 9223372036854775807 c179a (l_c 0 rfl) (l_rng y49_2) rfl
            refine g_iload 189 (gd rfl) rfl rfl ?_
            exact g_ireturn (gd rfl) rfl rfl (hP _ _ ⟨y49_4, rfl, rfl, in_w (-2147483648) 2147483647 (i_rng y49_4) rfl⟩)
          · skip
            have i179 := z_lt (-1) (-1) c179 i178 rfl
            have c179a := lc_lt e178 c179
            have i179a := lr_lt1 (-9223372036854775808) (-1) c179a (l_rng y49_2) (l_c 0 rfl) rfl
            refine g_aload_n 183 (gd rfl) rfl rfl ?_
            refine g_callv (X := _) (As := []) (r := []) (b := A 109) (q := 109) 186 (gd rfl) rfl rfl rfl rfl rfl (ww_o rfl) (Nat.le_of_ble_eq_true rfl) (Nat.zero_le _) (Nat.zero_le _) (k_377 (by first | exact dq1 hd rfl | exact dq0 hd rfl | exact dq2 hd rfl | exact dq3 hd rfl | omega) hI ) (fun e u h => h) (fun v u h => ?_)
            obtain ⟨z183, rfl, rfl, i183⟩ := h
            show GG _ _ _ _ _ _ _ _ [.int z183] _ _ _
            exact g_ireturn (gd rfl) rfl rfl (hP _ _ ⟨z183, rfl, rfl, in_w (-2147483648) 2147483647 i183 rfl⟩)
      · skip
        have i55 := r_lt1 0 31 c55 j49_7 ro_109_20 rfl
        have i55a := r_lt2 1 32 c55 j49_7 ro_109_20 rfl
        refine g_iload 60 (gd rfl) rfl rfl ?_
        refine g_iload_n 61 (gd rfl) rfl rfl ?_
        refine g_cmp_eq 64 165 (gd rfl) rfl rfl (fun c61 => ?_) (fun c61 => ?_)
        · skip
          refine g_iinc 168 (gd rfl) rfl rfl (Nat.le_of_ble_eq_true rfl) (fun z165 e165 => ?_)
          have i165 := in_add 1 32 e165 i55 (in_c 1 rfl) rfl rfl
          refine g_goto 49 (gd rfl) rfl ?_
          exact gg_w (by first | exact Nat.le_add_right _ _ | exact gw2 | exact gw3 | exact gwe rfl | exact gwf rfl | exact gwg rfl | exact gwh rfl | omega) (gg_f (gf_cons rfl (gf_cons rfl (gf_cons rfl (gf_cons rfl (gf_cons rfl (gf_cons rfl (gf_cons rfl gf_nil))))))) (ih49  y49_2 y49_4 y49_5 y49_6 z165  (in_w (-1) 40 j49_5 rfl) (in_w 0 1 j49_6 rfl) (in_w 0 32 i165 rfl) (m_up mm49 (t_add e165 i55 (in_c 1 rfl) rfl) (in_w 1 1 (in_c 1 rfl) rfl))))
        · skip
          refine g_aload_n 65 (gd rfl) rfl rfl ?_
          refine g_getA (q2 := 171) 68 (gd rfl) rfl rfl rfl rfl ?_
          refine g_bipush 32 70 (gd rfl) rfl rfl ?_
          refine g_iload_n 71 (gd rfl) rfl rfl ?_
          refine g_imul 72 (gd rfl) rfl (fun z71 e71 => ?_)
          have i71 := in_mulc 32 0 992 (Or.inl e71) h1 rfl rfl
          refine g_iload 74 (gd rfl) rfl rfl ?_
          refine g_iadd 75 (gd rfl) rfl (fun z74 e74 => ?_)
          have i74 := in_add 0 1023 e74 i71 i55 rfl rfl
          refine g_iaload 76 (gd rfl) rfl (n := 1024) rfl (in_ix i74 rfl) (fun z75 e75 => ?_)
          refine g_if_le 79 165 (gd rfl) rfl rfl (fun c76 => ?_) (fun c76 => ?_)
          · skip
            have i76 := z_le (-2147483648) 0 c76 (i_rng z75) rfl
            refine g_iinc 168 (gd rfl) rfl rfl (Nat.le_of_ble_eq_true rfl) (fun z165 e165 => ?_)
            have i165 := in_add 1 32 e165 i55 (in_c 1 rfl) rfl rfl
            refine g_goto 49 (gd rfl) rfl ?_
            exact gg_w (by first | exact Nat.le_add_right _ _ | exact gw2 | exact gw3 | exact gwe rfl | exact gwf rfl | exact gwg rfl | exact gwh rfl | omega) (gg_f (gf_cons rfl (gf_cons rfl (gf_cons rfl (gf_cons rfl (gf_cons rfl (gf_cons rfl (gf_cons rfl gf_nil))))))) (ih49  y49_2 y49_4 y49_5 y49_6 z165  (in_w (-1) 40 j49_5 rfl) (in_w 0 1 j49_6 rfl) (in_w 0 32 i165 rfl) (m_up mm49 (t_add e165 i55 (in_c 1 rfl) rfl) (in_w 1 1 (in_c 1 rfl) rfl))))
          · skip
            have i76 := z_gt 1 2147483647 c76 (i_rng z75) rfl
            refine g_aload_n 80 (gd rfl) rfl rfl ?_
            refine g_getA (q2 := 169) 83 (gd rfl) rfl rfl rfl rfl ?_
            refine g_iload 85 (gd rfl) rfl rfl ?_
            refine g_iaload 86 (gd rfl) rfl (n := 32) rfl (in_ix i55 rfl) (fun z85 e85 => ?_)
            refine g_aload_n 87 (gd rfl) rfl rfl ?_
            refine g_getA (q2 := 169) 90 (gd rfl) rfl rfl rfl rfl ?_
            refine g_iload_n 91 (gd rfl) rfl rfl ?_
            refine g_iaload 92 (gd rfl) rfl (n := 32) rfl (in_ix h1 rfl) (fun z91 e91 => ?_)
            refine g_cmp_eq 95 165 (gd rfl) rfl rfl (fun c92 => ?_) (fun c92 => ?_)
            · skip
              refine g_iinc 168 (gd rfl) rfl rfl (Nat.le_of_ble_eq_true rfl) (fun z165 e165 => ?_)
              have i165 := in_add 1 32 e165 i55 (in_c 1 rfl) rfl rfl
              refine g_goto 49 (gd rfl) rfl ?_
              exact gg_w (by first | exact Nat.le_add_right _ _ | exact gw2 | exact gw3 | exact gwe rfl | exact gwf rfl | exact gwg rfl | exact gwh rfl | omega) (gg_f (gf_cons rfl (gf_cons rfl (gf_cons rfl (gf_cons rfl (gf_cons rfl (gf_cons rfl (gf_cons rfl gf_nil))))))) (ih49  y49_2 y49_4 y49_5 y49_6 z165  (in_w (-1) 40 j49_5 rfl) (in_w 0 1 j49_6 rfl) (in_w 0 32 i165 rfl) (m_up mm49 (t_add e165 i55 (in_c 1 rfl) rfl) (in_w 1 1 (in_c 1 rfl) rfl))))
            · skip
              refine g_aload_n 96 (gd rfl) rfl rfl ?_
              refine g_iload_n 97 (gd rfl) rfl rfl ?_
              refine g_aload_n 98 (gd rfl) rfl rfl ?_
              refine g_getA (q2 := 169) 101 (gd rfl) rfl rfl rfl rfl ?_
              refine g_iload 103 (gd rfl) rfl rfl ?_
              refine g_iaload 104 (gd rfl) rfl (n := 32) rfl (in_ix i55 rfl) (fun z103 e103 => ?_)
              have q103 : z85 = z103 := (e85).trans e103.symm
              subst q103
              refine g_callv (X := _) (As := [.int x1, .int z85]) (r := []) (b := A 109) (q := 109) 107 (gd rfl) rfl rfl rfl rfl rfl (ww_o rfl) (Nat.le_of_ble_eq_true rfl) (Nat.zero_le _) (Nat.zero_le _) (k_373 (by first | exact dq1 hd rfl | exact dq0 hd rfl | exact dq2 hd rfl | exact dq3 hd rfl | omega) hI (in_w 0 31 h1 rfl)) (fun e u h => h) (fun v u h => ?_)
              obtain ⟨z104, rfl, rfl⟩ := h
              show GG _ _ _ _ _ _ _ _ [.long z104] _ _ _
              refine g_lstore 109 (gd rfl) rfl (Nat.le_of_ble_eq_true rfl) ?_
              refine g_aload_n 110 (gd rfl) rfl rfl ?_
              refine g_aload_n 111 (gd rfl) rfl rfl ?_
              refine g_getA (q2 := 169) 114 (gd rfl) rfl rfl rfl rfl ?_
              refine g_iload 116 (gd rfl) rfl rfl ?_
              refine g_iaload 117 (gd rfl) rfl (n := 32) rfl (in_ix i55 rfl) (fun z116 e116 => ?_)
              have q116 : z85 = z116 := (e85).trans e116.symm
              subst q116
              refine g_iload_n 118 (gd rfl) rfl rfl ?_
              refine g_callv (X := _) (As := [.int z85, .int x1]) (r := []) (b := A 109) (q := 109) 121 (gd rfl) rfl rfl rfl rfl rfl (ww_o rfl) (Nat.le_of_ble_eq_true rfl) (Nat.zero_le _) (Nat.zero_le _) (k_375 (by first | exact dq1 hd rfl | exact dq0 hd rfl | exact dq2 hd rfl | exact dq3 hd rfl | omega) hI (in_w (-1) 31 h1 rfl)) (fun e u h => h) (fun v u h => ?_)
              obtain ⟨z118, rfl, rfl, i118, p118⟩ := h
              show GG _ _ _ _ _ _ _ _ [.int z118] _ _ _
              refine g_istore 123 (gd rfl) rfl (Nat.le_of_ble_eq_true rfl) ?_
              refine g_lload 125 (gd rfl) rfl rfl ?_
              refine g_lload_n 126 (gd rfl) rfl rfl ?_
              refine g_lcmp 127 (gd rfl) rfl (fun z126 e126 => ?_)
              have i126 := lc_in e126
              refine g_if_gt 130 149 (gd rfl) rfl rfl (fun c127 => ?_) (fun c127 => ?_)
              · skip
                have i127 := z_gt 1 1 c127 i126 rfl
                have c127a := lc_gt e126 c127
                have i127a := lr_lt1 (-9223372036854775808) 9223372036854775806 c127a (l_rng y49_2) (l_rng z104) rfl
                have i127b := lr_lt2 (-9223372036854775807) 9223372036854775807 c127a (l_rng y49_2) (l_rng z104) rfl
                refine g_lload 151 (gd rfl) rfl rfl ?_
                refine g_lstore_n 152 (gd rfl) rfl (Nat.le_of_ble_eq_true rfl) ?_
                refine g_aload_n 153 (gd rfl) rfl rfl ?_
                refine g_getA (q2 := 169) 156 (gd rfl) rfl rfl rfl rfl ?_
                refine g_iload 158 (gd rfl) rfl rfl ?_
                refine g_iaload 159 (gd rfl) rfl (n := 32) rfl (in_ix i55 rfl) (fun z158 e158 => ?_)
                have q158 : z85 = z158 := (e85).trans e158.symm
                subst q158
                refine g_istore 161 (gd rfl) rfl (Nat.le_of_ble_eq_true rfl) ?_
                refine g_iload 163 (gd rfl) rfl rfl ?_
                refine g_istore 165 (gd rfl) rfl (Nat.le_of_ble_eq_true rfl) ?_
                refine g_iinc 168 (gd rfl) rfl rfl (Nat.le_of_ble_eq_true rfl) (fun z165 e165 => ?_)
                have i165 := in_add 1 32 e165 i55 (in_c 1 rfl) rfl rfl
                refine g_goto 49 (gd rfl) rfl ?_
                exact gg_w (by first | exact Nat.le_add_right _ _ | exact gw2 | exact gw3 | exact gwe rfl | exact gwf rfl | exact gwg rfl | exact gwh rfl | omega) (gg_f (gf_cons rfl (gf_cons rfl (gf_cons rfl (gf_cons rfl (gf_cons rfl (gf_cons rfl (gf_cons rfl gf_nil))))))) (ih49  z104 z85 z118 y49_6 z165  (in_w (-1) 40 i118 rfl) (in_w 0 1 j49_6 rfl) (in_w 0 32 i165 rfl) (m_up mm49 (t_add e165 i55 (in_c 1 rfl) rfl) (in_w 1 1 (in_c 1 rfl) rfl))))
              · skip
                have i127 := z_le (-1) 0 c127 i126 rfl
                have c127a := lc_le e126 c127
                refine g_lload 132 (gd rfl) rfl rfl ?_
                refine g_lload_n 133 (gd rfl) rfl rfl ?_
                refine g_lcmp 134 (gd rfl) rfl (fun z133 e133 => ?_)
                have i133 := lc_in e133
                refine g_if_ne 137 165 (gd rfl) rfl rfl (fun c134 => ?_) (fun c134 => ?_)
                · skip
                  have c134a := lc_ne e133 c134
                  refine g_iinc 168 (gd rfl) rfl rfl (Nat.le_of_ble_eq_true rfl) (fun z165 e165 => ?_)
                  have i165 := in_add 1 32 e165 i55 (in_c 1 rfl) rfl rfl
                  refine g_goto 49 (gd rfl) rfl ?_
                  exact gg_w (by first | exact Nat.le_add_right _ _ | exact gw2 | exact gw3 | exact gwe rfl | exact gwf rfl | exact gwg rfl | exact gwh rfl | omega) (gg_f (gf_cons rfl (gf_cons rfl (gf_cons rfl (gf_cons rfl (gf_cons rfl (gf_cons rfl (gf_cons rfl gf_nil))))))) (ih49  y49_2 y49_4 y49_5 y49_6 z165  (in_w (-1) 40 j49_5 rfl) (in_w 0 1 j49_6 rfl) (in_w 0 32 i165 rfl) (m_up mm49 (t_add e165 i55 (in_c 1 rfl) rfl) (in_w 1 1 (in_c 1 rfl) rfl))))
                · skip
                  have i134 := z_eq 0 0 c134 i133 rfl
                  have c134a := lc_eq e133 c134
                  refine g_iload 139 (gd rfl) rfl rfl ?_
                  refine g_if_lt 142 165 (gd rfl) rfl rfl (fun c139 => ?_) (fun c139 => ?_)
                  · skip
                    have i139 := z_lt (-1) (-1) c139 j49_5 rfl
                    refine g_iinc 168 (gd rfl) rfl rfl (Nat.le_of_ble_eq_true rfl) (fun z165 e165 => ?_)
                    have i165 := in_add 1 32 e165 i55 (in_c 1 rfl) rfl rfl
                    refine g_goto 49 (gd rfl) rfl ?_
                    exact gg_w (by first | exact Nat.le_add_right _ _ | exact gw2 | exact gw3 | exact gwe rfl | exact gwf rfl | exact gwg rfl | exact gwh rfl | omega) (gg_f (gf_cons rfl (gf_cons rfl (gf_cons rfl (gf_cons rfl (gf_cons rfl (gf_cons rfl (gf_cons rfl gf_nil))))))) (ih49  y49_2 y49_4 y49_5 y49_6 z165  (in_w (-1) 40 i139 rfl) (in_w 0 1 j49_6 rfl) (in_w 0 32 i165 rfl) (m_up mm49 (t_add e165 i55 (in_c 1 rfl) rfl) (in_w 1 1 (in_c 1 rfl) rfl))))
                  · skip
                    have i139 := z_ge 0 40 c139 j49_5 rfl
                    refine g_iload 144 (gd rfl) rfl rfl ?_
                    refine g_iload 146 (gd rfl) rfl rfl ?_
                    refine g_cmp_ge 149 165 (gd rfl) rfl rfl (fun c146 => ?_) (fun c146 => ?_)
                    · skip
                      refine g_iinc 168 (gd rfl) rfl rfl (Nat.le_of_ble_eq_true rfl) (fun z165 e165 => ?_)
                      have i165 := in_add 1 32 e165 i55 (in_c 1 rfl) rfl rfl
                      refine g_goto 49 (gd rfl) rfl ?_
                      exact gg_w (by first | exact Nat.le_add_right _ _ | exact gw2 | exact gw3 | exact gwe rfl | exact gwf rfl | exact gwg rfl | exact gwh rfl | omega) (gg_f (gf_cons rfl (gf_cons rfl (gf_cons rfl (gf_cons rfl (gf_cons rfl (gf_cons rfl (gf_cons rfl gf_nil))))))) (ih49  y49_2 y49_4 y49_5 y49_6 z165  (in_w (-1) 40 i139 rfl) (in_w 0 1 j49_6 rfl) (in_w 0 32 i165 rfl) (m_up mm49 (t_add e165 i55 (in_c 1 rfl) rfl) (in_w 1 1 (in_c 1 rfl) rfl))))
                    · skip
                      have i146 := r_lt1 0 39 c146 i118 i139 rfl
                      have i146a := r_lt2 1 40 c146 i118 i139 rfl
                      refine g_lload 151 (gd rfl) rfl rfl ?_
                      refine g_lstore_n 152 (gd rfl) rfl (Nat.le_of_ble_eq_true rfl) ?_
                      refine g_aload_n 153 (gd rfl) rfl rfl ?_
                      refine g_getA (q2 := 169) 156 (gd rfl) rfl rfl rfl rfl ?_
                      refine g_iload 158 (gd rfl) rfl rfl ?_
                      refine g_iaload 159 (gd rfl) rfl (n := 32) rfl (in_ix i55 rfl) (fun z158 e158 => ?_)
                      have q158 : z85 = z158 := (e85).trans e158.symm
                      subst q158
                      refine g_istore 161 (gd rfl) rfl (Nat.le_of_ble_eq_true rfl) ?_
                      refine g_iload 163 (gd rfl) rfl rfl ?_
                      refine g_istore 165 (gd rfl) rfl (Nat.le_of_ble_eq_true rfl) ?_
                      refine g_iinc 168 (gd rfl) rfl rfl (Nat.le_of_ble_eq_true rfl) (fun z165 e165 => ?_)
                      have i165 := in_add 1 32 e165 i55 (in_c 1 rfl) rfl rfl
                      refine g_goto 49 (gd rfl) rfl ?_
                      exact gg_w (by first | exact Nat.le_add_right _ _ | exact gw2 | exact gw3 | exact gwe rfl | exact gwf rfl | exact gwg rfl | exact gwh rfl | omega) (gg_f (gf_cons rfl (gf_cons rfl (gf_cons rfl (gf_cons rfl (gf_cons rfl (gf_cons rfl (gf_cons rfl gf_nil))))))) (ih49  z104 z85 z118 y49_6 z165  (in_w (-1) 40 i146 rfl) (in_w 0 1 j49_6 rfl) (in_w 0 32 i165 rfl) (m_up mm49 (t_add e165 i55 (in_c 1 rfl) rfl) (in_w 1 1 (in_c 1 rfl) rfl))))
  refine g_enter2 (k := 376) (N := 30601) (by first | exact dq1 hd rfl | exact dq0 hd rfl | exact dq2 hd rfl | exact dq3 hd rfl | omega) rfl (Nat.le_of_ble_eq_true rfl) ?_
  refine g_aload_n 1 (gd rfl) rfl rfl ?_
  refine g_iload_n 2 (gd rfl) rfl rfl ?_
  refine g_aload_n 3 (gd rfl) rfl rfl ?_
  refine g_getA (q2 := 169) 6 (gd rfl) rfl rfl rfl rfl ?_
  refine g_iload_n 7 (gd rfl) rfl rfl ?_
  refine g_iaload 8 (gd rfl) rfl (n := 32) rfl (in_ix h1 rfl) (fun z7 e7 => ?_)
  refine g_callv (X := _) (As := [.int x1, .int z7]) (r := []) (b := A 109) (q := 109) 11 (gd rfl) rfl rfl rfl rfl rfl (ww_o rfl) (Nat.le_of_ble_eq_true rfl) (Nat.zero_le _) (Nat.zero_le _) (k_373 (by first | exact dq1 hd rfl | exact dq0 hd rfl | exact dq2 hd rfl | exact dq3 hd rfl | omega) hI (in_w 0 31 h1 rfl)) (fun e u h => h) (fun v u h => ?_)
  obtain ⟨z8, rfl, rfl⟩ := h
  show GG _ _ _ _ _ _ _ _ [.long z8] _ _ _
  refine g_lstore_n 12 (gd rfl) rfl (Nat.le_of_ble_eq_true rfl) ?_
  refine g_aload_n 13 (gd rfl) rfl rfl ?_
  refine g_getA (q2 := 169) 16 (gd rfl) rfl rfl rfl rfl ?_
  refine g_iload_n 17 (gd rfl) rfl rfl ?_
  refine g_iaload 18 (gd rfl) rfl (n := 32) rfl (in_ix h1 rfl) (fun z17 e17 => ?_)
  have q17 : z7 = z17 := (e7).trans e17.symm
  subst q17
  refine g_istore 20 (gd rfl) rfl (Nat.le_of_ble_eq_true rfl) ?_
  refine g_iconst (-1) 21 (gd rfl) rfl rfl ?_
  refine g_istore 23 (gd rfl) rfl (Nat.le_of_ble_eq_true rfl) ?_
  refine g_aload_n 24 (gd rfl) rfl rfl ?_
  refine g_aload_n 25 (gd rfl) rfl rfl ?_
  refine g_getA (q2 := 169) 28 (gd rfl) rfl rfl rfl rfl ?_
  refine g_iload_n 29 (gd rfl) rfl rfl ?_
  refine g_iaload 30 (gd rfl) rfl (n := 32) rfl (in_ix h1 rfl) (fun z29 e29 => ?_)
  have q29 : z7 = z29 := (e7).trans e29.symm
  subst q29
  refine g_iload_n 31 (gd rfl) rfl rfl ?_
  refine g_callv (X := _) (As := [.int z7, .int x1]) (r := []) (b := A 109) (q := 109) 34 (gd rfl) rfl rfl rfl rfl rfl (ww_o rfl) (Nat.le_of_ble_eq_true rfl) (Nat.zero_le _) (Nat.zero_le _) (k_375 (by first | exact dq1 hd rfl | exact dq0 hd rfl | exact dq2 hd rfl | exact dq3 hd rfl | omega) hI (in_w (-1) 31 h1 rfl)) (fun e u h => h) (fun v u h => ?_)
  obtain ⟨z31, rfl, rfl, i31, p31⟩ := h
  show GG _ _ _ _ _ _ _ _ [.int z31] _ _ _
  refine g_bipush 40 36 (gd rfl) rfl rfl ?_
  refine g_cmp_ne 39 43 (gd rfl) rfl rfl (fun c36 => ?_) (fun c36 => ?_)
  · skip
    have i36 := r_ne1 0 39 c36 i31 (in_c 40 rfl) rfl
    refine g_iconst 0 44 (gd rfl) rfl rfl ?_
    refine g_istore 46 (gd rfl) rfl (Nat.le_of_ble_eq_true rfl) ?_
    refine g_iconst 0 47 (gd rfl) rfl rfl ?_
    refine g_istore 49 (gd rfl) rfl (Nat.le_of_ble_eq_true rfl) ?_
    exact gg_w (by first | exact Nat.le_of_ble_eq_true rfl | omega) (gg_f (gf_cons rfl (gf_cons rfl (gf_cons rfl (gf_cons rfl (gf_cons rfl (gf_cons rfl (gf_cons rfl gf_nil))))))) (ct49 33  z8 z7 (Int32.ofInt (-1)) (Int32.ofInt 0) (Int32.ofInt 0)  (in_w (-1) 40 (in_c (-1) rfl) rfl) (in_w 0 1 (in_c 0 rfl) rfl) (in_w 0 32 (in_c 0 rfl) rfl) (m_in 33 (in_w 0 32 (in_c 0 rfl) rfl) rfl)))
  · skip
    have i36 := r_eq1 40 40 c36 i31 (in_c 40 rfl) rfl
    refine g_iconst 1 40 (gd rfl) rfl rfl ?_
    refine g_goto 44 (gd rfl) rfl ?_
    refine g_istore 46 (gd rfl) rfl (Nat.le_of_ble_eq_true rfl) ?_
    refine g_iconst 0 47 (gd rfl) rfl rfl ?_
    refine g_istore 49 (gd rfl) rfl (Nat.le_of_ble_eq_true rfl) ?_
    exact gg_w (by first | exact Nat.le_of_ble_eq_true rfl | omega) (gg_f (gf_cons rfl (gf_cons rfl (gf_cons rfl (gf_cons rfl (gf_cons rfl (gf_cons rfl (gf_cons rfl gf_nil))))))) (ct49 33  z8 z7 (Int32.ofInt (-1)) (Int32.ofInt 1) (Int32.ofInt 0)  (in_w (-1) 40 (in_c (-1) rfl) rfl) (in_w 0 1 (in_c 1 rfl) rfl) (in_w 0 32 (in_c 0 rfl) rfl) (m_in 33 (in_w 0 32 (in_c 0 rfl) rfl) rfl)))

def fm_388 : FM := ([176, 177, 180], [175, 178, 179, 181, 182], [(109, 23), (109, 24), (109, 96), (109, 97), (109, 98), (109, 99)], [(109, 100), (109, 101)])
/-- GraphHouseModel.sign -/
theorem k_388 {Z : AmZ} {A : Nat → Nat} {s : GS} {ex : va_W} {d : Nat} {X : AmX} {x1 : Int32} {x2 : Int32} (hd : 4 ≤ d) (hI : Inv s) (h1 : In x1 0 126) (h2 : In x2 0 60) : GC Z d 388 [.ref (A 109), .int x1, .int x2] (WW Z A s ++ ex) 0 0 (fun v u => ∃ t : GS, Inv t ∧ Fr fm_388 s t ∧ v = none ∧ u = WW Z A t ++ ex) X := by
  intro post xp hP hX
  have ct248 : ∀ (sc248 : GS) , Inv sc248 → Fr fm_388 s sc248 → GG Z (d - 1) 388 post (gx xp) (901) 248 (fun j => xlook j [(0, .ref (A 109)), (1, .int x1), (2, .int x2)]) [] (WW Z A sc248 ++ ex) 0 0 := by
    intro sc248  hIc248 hFc248 
    exact g_return (gd rfl) rfl (hP _ _ ⟨sc248, hIc248, hFc248, rfl, rfl⟩)
  have ct212 : ∀ (sc212 : GS) , Inv sc212 → Fr fm_388 s sc212 → (In x1 42 63) → GG Z (d - 1) 388 post (gx xp) (1802) 212 (fun j => xlook j [(0, .ref (A 109)), (1, .int x1), (2, .int x2)]) [] (WW Z A sc212 ++ ex) 0 0 := by
    intro sc212  hIc212 hFc212 j212_1
    refine g_aload_n 213 (gd rfl) rfl rfl ?_
    refine g_aload_n 214 (gd rfl) rfl rfl ?_
    refine g_getZ 217 (gd rfl) rfl rfl rfl (fun z214 e214 => ?_)
    have i214 := inv_F hIc212 0 1 rfl e214
    refine g_if_ne 220 226 (gd rfl) rfl rfl (fun c217 => ?_) (fun c217 => ?_)
    · skip
      have i217 := z_ne 1 1 c217 i214 rfl
      refine g_iconst 1 227 (gd rfl) rfl rfl ?_
      refine g_goto 231 (gd rfl) rfl ?_
      refine g_putZ 234 (gd rfl) rfl rfl rfl rfl (in01 (in_w 0 1 (in_c 1 rfl) rfl)) ?_
      have hI231 := inv_sF (q := 109) (j := 99) hIc212 rfl (in_w 0 1 (in_c 1 rfl) rfl)
      refine g_aload_n 235 (gd rfl) rfl rfl ?_
      refine g_iconst 0 236 (gd rfl) rfl rfl ?_
      refine g_putZ 239 (gd rfl) rfl rfl rfl rfl (in01 (in_w 0 1 (in_c 0 rfl) rfl)) ?_
      have hI236 := inv_sF (q := 109) (j := 98) hI231 rfl (in_w 0 1 (in_c 0 rfl) rfl)
      refine g_goto 248 (gd rfl) rfl ?_
      exact gg_w (by first | exact Nat.le_of_ble_eq_true rfl | omega) (gg_f (gf_cons rfl (gf_cons rfl (gf_cons rfl gf_nil))) (ct248 (sF (sF sc212 109 99 (Int32.ofInt 1)) 109 98 (Int32.ofInt 0))  hI236 (fr_sF rfl (fr_sF rfl hFc212)) ))
    · skip
      have i217 := z_eq 0 0 c217 i214 rfl
      refine g_iload_n 221 (gd rfl) rfl rfl ?_
      refine g_bipush 43 223 (gd rfl) rfl rfl ?_
      refine g_cmp_eq 226 230 (gd rfl) rfl rfl (fun c223 => ?_) (fun c223 => ?_)
      · skip
        have i223 := r_eq1 43 43 c223 j212_1 (in_c 43 rfl) rfl
        refine g_iconst 0 231 (gd rfl) rfl rfl ?_
        refine g_putZ 234 (gd rfl) rfl rfl rfl rfl (in01 (in_w 0 1 (in_c 0 rfl) rfl)) ?_
        have hI231 := inv_sF (q := 109) (j := 99) hIc212 rfl (in_w 0 1 (in_c 0 rfl) rfl)
        refine g_aload_n 235 (gd rfl) rfl rfl ?_
        refine g_iconst 0 236 (gd rfl) rfl rfl ?_
        refine g_putZ 239 (gd rfl) rfl rfl rfl rfl (in01 (in_w 0 1 (in_c 0 rfl) rfl)) ?_
        have hI236 := inv_sF (q := 109) (j := 98) hI231 rfl (in_w 0 1 (in_c 0 rfl) rfl)
        refine g_goto 248 (gd rfl) rfl ?_
        exact gg_w (by first | exact Nat.le_of_ble_eq_true rfl | omega) (gg_f (gf_cons rfl (gf_cons rfl (gf_cons rfl gf_nil))) (ct248 (sF (sF sc212 109 99 (Int32.ofInt 0)) 109 98 (Int32.ofInt 0))  hI236 (fr_sF rfl (fr_sF rfl hFc212)) ))
      · skip
        refine g_iconst 1 227 (gd rfl) rfl rfl ?_
        refine g_goto 231 (gd rfl) rfl ?_
        refine g_putZ 234 (gd rfl) rfl rfl rfl rfl (in01 (in_w 0 1 (in_c 1 rfl) rfl)) ?_
        have hI231 := inv_sF (q := 109) (j := 99) hIc212 rfl (in_w 0 1 (in_c 1 rfl) rfl)
        refine g_aload_n 235 (gd rfl) rfl rfl ?_
        refine g_iconst 0 236 (gd rfl) rfl rfl ?_
        refine g_putZ 239 (gd rfl) rfl rfl rfl rfl (in01 (in_w 0 1 (in_c 0 rfl) rfl)) ?_
        have hI236 := inv_sF (q := 109) (j := 98) hI231 rfl (in_w 0 1 (in_c 0 rfl) rfl)
        refine g_goto 248 (gd rfl) rfl ?_
        exact gg_w (by first | exact Nat.le_of_ble_eq_true rfl | omega) (gg_f (gf_cons rfl (gf_cons rfl (gf_cons rfl gf_nil))) (ct248 (sF (sF sc212 109 99 (Int32.ofInt 1)) 109 98 (Int32.ofInt 0))  hI236 (fr_sF rfl (fr_sF rfl hFc212)) ))
  have ct180 : ∀ (sc180 : GS) , Inv sc180 → Fr fm_388 s sc180 → (In x1 42 63) → GG Z (d - 1) 388 post (gx xp) (2703) 180 (fun j => xlook j [(0, .ref (A 109)), (1, .int x1), (2, .int x2)]) [] (WW Z A sc180 ++ ex) 0 0 := by
    intro sc180  hIc180 hFc180 j180_1
    refine g_aload_n 181 (gd rfl) rfl rfl ?_
    refine g_getZ 184 (gd rfl) rfl rfl rfl (fun z181 e181 => ?_)
    have i181 := inv_F hIc180 0 1 rfl e181
    refine g_if_ne 187 194 (gd rfl) rfl rfl (fun c184 => ?_) (fun c184 => ?_)
    · skip
      have i184 := z_ne 1 1 c184 i181 rfl
      refine g_iload_n 195 (gd rfl) rfl rfl ?_
      refine g_bipush 63 197 (gd rfl) rfl rfl ?_
      refine g_cmp_eq 200 212 (gd rfl) rfl rfl (fun c197 => ?_) (fun c197 => ?_)
      · skip
        have i197 := r_eq1 63 63 c197 j180_1 (in_c 63 rfl) rfl
        exact gg_w (by first | exact Nat.le_of_ble_eq_true rfl | omega) (gg_f (gf_cons rfl (gf_cons rfl (gf_cons rfl gf_nil))) (ct212 sc180  hIc180 hFc180 (in_w 42 63 i197 rfl)))
      · skip
        have i197 := r_ne1 42 62 c197 j180_1 (in_c 63 rfl) rfl
        refine g_aload_n 201 (gd rfl) rfl rfl ?_
        refine g_aload_n 202 (gd rfl) rfl rfl ?_
        refine g_getL 205 (gd rfl) rfl rfl rfl (fun z202 e202 => ?_)
        refine g_aload_n 206 (gd rfl) rfl rfl ?_
        refine g_getL 209 (gd rfl) rfl rfl rfl (fun z206 e206 => ?_)
        refine g_callv (X := _) (As := [.long z202, .long z206]) (r := []) (b := A 109) (q := 109) 212 (gd rfl) rfl rfl rfl rfl rfl (ww_o rfl) (Nat.le_of_ble_eq_true rfl) (Nat.zero_le _) (Nat.zero_le _) (k_383 (by first | exact dq1 hd rfl | exact dq0 hd rfl | exact dq2 hd rfl | exact dq3 hd rfl | omega) hIc180 ) (fun e u h => h) (fun v u h => ?_)
        obtain ⟨s209, hI209, hF209, rfl, rfl⟩ := h
        show GG _ _ _ _ _ _ _ _ [] _ _ _
        exact gg_w (by first | exact Nat.le_of_ble_eq_true rfl | omega) (gg_f (gf_cons rfl (gf_cons rfl (gf_cons rfl gf_nil))) (ct212 s209  hI209 (fr_tr rfl hFc180 hF209) (in_w 42 63 i197 rfl)))
    · skip
      have i184 := z_eq 0 0 c184 i181 rfl
      refine g_aload_n 188 (gd rfl) rfl rfl ?_
      refine g_iconst 2 189 (gd rfl) rfl rfl ?_
      refine g_iload_n 190 (gd rfl) rfl rfl ?_
      refine g_callv (X := _) (As := [.int (Int32.ofInt 2), .int x2]) (r := []) (b := A 109) (q := 109) 193 (gd rfl) rfl rfl rfl rfl rfl (ww_o rfl) (Nat.le_of_ble_eq_true rfl) (Nat.zero_le _) (Nat.zero_le _) (k_298 (by first | exact dq1 hd rfl | exact dq0 hd rfl | exact dq2 hd rfl | exact dq3 hd rfl | omega) hIc180 (in_w 1 5 (in_c 2 rfl) rfl)) (fun e u h => h) (fun v u h => ?_)
      obtain ⟨s190, hI190, hF190, n190, rfl, rfl⟩ := h
      obtain ⟨z190a, e190⟩ : ∃ w, w = s190.2.2.1 109 23 := ⟨_, rfl⟩
      have i190a := inv_F hI190 0 9 rfl e190
      rw [← (show z190a = s190.2.2.1 109 23 from e190)] at n190
      show GG _ _ _ _ _ _ _ _ [] _ _ _
      exact g_return (gd rfl) rfl (hP _ _ ⟨s190, hI190, (fr_tr rfl hFc180 hF190), rfl, rfl⟩)
  refine g_enter2 (k := 388) (N := 3603) (by first | exact dq1 hd rfl | exact dq0 hd rfl | exact dq2 hd rfl | exact dq3 hd rfl | omega) rfl (Nat.le_of_ble_eq_true rfl) ?_
  refine g_iload_n 1 (gd rfl) rfl rfl ?_
  refine g_lsw [(40, 71), (41, 108), (42, 180), (43, 180), (63, 180), (124, 60)] 242 (gd rfl) rfl rfl rfl ⟨fun c1 => ?_, fun c1_0 => ⟨fun c1 => ?_, fun c1_1 => ⟨fun c1 => ?_, fun c1_2 => ⟨fun c1 => ?_, fun c1_3 => ⟨fun c1 => ?_, fun c1_4 => ⟨fun c1 => ?_, fun c1_5 => ?_⟩⟩⟩⟩⟩⟩
  · skip
    have i1 := sw_eq c1
    refine g_aload_n 72 (gd rfl) rfl rfl ?_
    refine g_getI 75 (gd rfl) rfl rfl rfl (fun z72 e72 => ?_)
    have i72 := inv_F hI 0 10 rfl e72
    refine g_bipush 10 77 (gd rfl) rfl rfl ?_
    refine g_cmp_ne 80 87 (gd rfl) rfl rfl (fun c77 => ?_) (fun c77 => ?_)
    · skip
      have i77 := r_ne1 0 9 c77 i72 (in_c 10 rfl) rfl
      refine g_aload_n 88 (gd rfl) rfl rfl ?_
      refine g_callv (X := _) (As := []) (r := []) (b := A 109) (q := 109) 91 (gd rfl) rfl rfl rfl rfl rfl (ww_o rfl) (Nat.le_of_ble_eq_true rfl) (Nat.zero_le _) (Nat.zero_le _) (k_384 (by first | exact dq1 hd rfl | exact dq0 hd rfl | exact dq2 hd rfl | exact dq3 hd rfl | omega) hI ) (fun e u h => h) (fun v u h => ?_)
      obtain ⟨s88, hI88, hF88, rfl, rfl⟩ := h
      show GG _ _ _ _ _ _ _ _ [] _ _ _
      refine g_aload_n 92 (gd rfl) rfl rfl ?_
      refine g_dup 93 (gd rfl) rfl rfl ?_
      refine g_getI 96 (gd rfl) rfl rfl rfl (fun z93 e93 => ?_)
      have q93 : z72 = z93 := (fr_F (e72) hF88 rfl).trans e93.symm
      subst q93
      refine g_iconst 1 97 (gd rfl) rfl rfl ?_
      refine g_iadd 98 (gd rfl) rfl (fun z97 e97 => ?_)
      have i97 := in_add 1 10 e97 i77 (in_c 1 rfl) rfl rfl
      refine g_putI 101 (gd rfl) rfl rfl rfl rfl ?_
      have hI98 := inv_sF (q := 109) (j := 96) hI88 rfl (in_w 0 10 i97 rfl)
      refine g_aload_n 102 (gd rfl) rfl rfl ?_
      refine g_callv (X := _) (As := []) (r := []) (b := A 109) (q := 109) 105 (gd rfl) rfl rfl rfl rfl rfl (ww_o rfl) (Nat.le_of_ble_eq_true rfl) (mc := 0) (ms := 0) (Nat.zero_le _) (Nat.zero_le _) (P := fun v u => _) ?_ (fun e u h => h) (fun v u h => h)
      intro po102 xx102 hp102 hx102
      refine g_enter2 (k := 381) (N := 300) (by first | exact dq1 hd rfl | exact dq0 hd rfl | exact dq2 hd rfl | exact dq3 hd rfl | omega) rfl (Nat.le_of_ble_eq_true rfl) ?_
      refine g_aload_n 1 (gd rfl) rfl rfl ?_
      refine g_getA (q2 := 176) 4 (gd rfl) rfl rfl rfl rfl ?_
      refine g_aload_n 5 (gd rfl) rfl rfl ?_
      refine g_getI 8 (gd rfl) rfl rfl rfl (fun z102x5 e102x5 => ?_)
      have q102x5 : z97 = z102x5 := (sF_get).trans e102x5.symm
      subst q102x5
      refine g_iconst 0 9 (gd rfl) rfl rfl ?_
      refine g_bastore 10 (gd rfl) rfl (n := 12) rfl (in_ix i97 rfl) ?_
      have hI102x9 := inv_sI (q := 176) (j := z97.toNatClampNeg) hI98 rfl (in_w 0 1 (nar01 (in_w 0 1 (in_c 0 rfl) rfl)) rfl)
      refine g_aload_n 11 (gd rfl) rfl rfl ?_
      refine g_getA (q2 := 177) 14 (gd rfl) rfl rfl rfl rfl ?_
      refine g_aload_n 15 (gd rfl) rfl rfl ?_
      refine g_getI 18 (gd rfl) rfl rfl rfl (fun z102x15 e102x15 => ?_)
      have q102x15 : z97 = z102x15 := (sI_F (sF_get)).trans e102x15.symm
      subst q102x15
      refine g_iconst 0 19 (gd rfl) rfl rfl ?_
      refine g_bastore 20 (gd rfl) rfl (n := 12) rfl (in_ix i97 rfl) ?_
      have hI102x19 := inv_sI (q := 177) (j := z97.toNatClampNeg) hI102x9 rfl (in_w 0 1 (nar01 (in_w 0 1 (in_c 0 rfl) rfl)) rfl)
      refine g_aload_n 21 (gd rfl) rfl rfl ?_
      refine g_getA (q2 := 178) 24 (gd rfl) rfl rfl rfl rfl ?_
      refine g_aload_n 25 (gd rfl) rfl rfl ?_
      refine g_getI 28 (gd rfl) rfl rfl rfl (fun z102x25 e102x25 => ?_)
      have q102x25 : z97 = z102x25 := (sI_F (sI_F (sF_get))).trans e102x25.symm
      subst q102x25
      refine g_lconst 0 29 (gd rfl) rfl rfl ?_
      refine g_lastore 30 (gd rfl) rfl (n := 12) rfl (in_ix i97 rfl) ?_
      have hI102x29 := inv_sL (q := 178) (j := z97.toNatClampNeg) (x := (Int64.ofInt 0)) hI102x19 rfl (l_rng (Int64.ofInt 0))
      refine g_aload_n 31 (gd rfl) rfl rfl ?_
      refine g_getA (q2 := 179) 34 (gd rfl) rfl rfl rfl rfl ?_
      refine g_aload_n 35 (gd rfl) rfl rfl ?_
      refine g_getI 38 (gd rfl) rfl rfl rfl (fun z102x35 e102x35 => ?_)
      have q102x35 : z97 = z102x35 := (sL_F (sI_F (sI_F (sF_get)))).trans e102x35.symm
      subst q102x35
      refine g_lconst 0 39 (gd rfl) rfl rfl ?_
      refine g_lastore 40 (gd rfl) rfl (n := 12) rfl (in_ix i97 rfl) ?_
      have hI102x39 := inv_sL (q := 179) (j := z97.toNatClampNeg) (x := (Int64.ofInt 0)) hI102x29 rfl (l_rng (Int64.ofInt 0))
      refine g_aload_n 41 (gd rfl) rfl rfl ?_
      refine g_callv (X := _) (As := []) (r := []) (b := A 109) (q := 109) 44 (gd rfl) rfl rfl rfl rfl rfl (ww_o rfl) (Nat.le_of_ble_eq_true rfl) (mc := 0) (ms := 0) (Nat.zero_le _) (Nat.zero_le _) (P := fun v u => _) ?_ (fun e u h => h) (fun v u h => h)
      intro po102x41 xx102x41 hp102x41 hx102x41
      refine g_enter2 (k := 382) (N := 300) (by first | exact dq1 hd rfl | exact dq0 hd rfl | exact dq2 hd rfl | exact dq3 hd rfl | omega) rfl (Nat.le_of_ble_eq_true rfl) ?_
      refine g_aload_n 1 (gd rfl) rfl rfl ?_
      refine g_getA (q2 := 180) 4 (gd rfl) rfl rfl rfl rfl ?_
      refine g_aload_n 5 (gd rfl) rfl rfl ?_
      refine g_getI 8 (gd rfl) rfl rfl rfl (fun z102x41x5 e102x41x5 => ?_)
      have q102x41x5 : z97 = z102x41x5 := (sL_F (sL_F (sI_F (sI_F (sF_get))))).trans e102x41x5.symm
      subst q102x41x5
      refine g_iconst 1 9 (gd rfl) rfl rfl ?_
      refine g_bastore 10 (gd rfl) rfl (n := 12) rfl (in_ix i97 rfl) ?_
      have hI102x41x9 := inv_sI (q := 180) (j := z97.toNatClampNeg) hI102x39 rfl (in_w 0 1 (nar01 (in_w 0 1 (in_c 1 rfl) rfl)) rfl)
      refine g_aload_n 11 (gd rfl) rfl rfl ?_
      refine g_getA (q2 := 181) 14 (gd rfl) rfl rfl rfl rfl ?_
      refine g_aload_n 15 (gd rfl) rfl rfl ?_
      refine g_getI 18 (gd rfl) rfl rfl rfl (fun z102x41x15 e102x41x15 => ?_)
      have q102x41x15 : z97 = z102x41x15 := (sI_F (sL_F (sL_F (sI_F (sI_F (sF_get)))))).trans e102x41x15.symm
      subst q102x41x15
      refine g_lconst 0 19 (gd rfl) rfl rfl ?_
      refine g_lastore 20 (gd rfl) rfl (n := 12) rfl (in_ix i97 rfl) ?_
      have hI102x41x19 := inv_sL (q := 181) (j := z97.toNatClampNeg) (x := (Int64.ofInt 0)) hI102x41x9 rfl (l_rng (Int64.ofInt 0))
      refine g_aload_n 21 (gd rfl) rfl rfl ?_
      refine g_getA (q2 := 182) 24 (gd rfl) rfl rfl rfl rfl ?_
      refine g_aload_n 25 (gd rfl) rfl rfl ?_
      refine g_getI 28 (gd rfl) rfl rfl rfl (fun z102x41x25 e102x41x25 => ?_)
      have q102x41x25 : z97 = z102x41x25 := (sL_F (sI_F (sL_F (sL_F (sI_F (sI_F (sF_get))))))).trans e102x41x25.symm
      subst q102x41x25
      refine g_lconst 0 29 (gd rfl) rfl rfl ?_
      refine g_lastore 30 (gd rfl) rfl (n := 12) rfl (in_ix i97 rfl) ?_
      have hI102x41x29 := inv_sL (q := 182) (j := z97.toNatClampNeg) (x := (Int64.ofInt 0)) hI102x41x19 rfl (l_rng (Int64.ofInt 0))
      refine g_aload_n 31 (gd rfl) rfl rfl ?_
      refine g_iconst 0 32 (gd rfl) rfl rfl ?_
      refine g_putZ 35 (gd rfl) rfl rfl rfl rfl (in01 (in_w 0 1 (in_c 0 rfl) rfl)) ?_
      have hI102x41x32 := inv_sF (q := 109) (j := 97) hI102x41x29 rfl (in_w 0 1 (in_c 0 rfl) rfl)
      refine g_aload_n 36 (gd rfl) rfl rfl ?_
      refine g_iconst 0 37 (gd rfl) rfl rfl ?_
      refine g_putZ 40 (gd rfl) rfl rfl rfl rfl (in01 (in_w 0 1 (in_c 0 rfl) rfl)) ?_
      have hI102x41x37 := inv_sF (q := 109) (j := 98) hI102x41x32 rfl (in_w 0 1 (in_c 0 rfl) rfl)
      refine g_return (gd rfl) rfl (hp102x41 _ _ ?_)
      show GG _ _ _ _ _ _ _ _ [] _ _ _
      refine g_return (gd rfl) rfl (hp102 _ _ ?_)
      show GG _ _ _ _ _ _ _ _ [] _ _ _
      refine g_goto 248 (gd rfl) rfl ?_
      exact gg_w (by first | exact Nat.le_of_ble_eq_true rfl | omega) (gg_f (gf_cons rfl (gf_cons rfl (gf_cons rfl gf_nil))) (ct248 (sF (sF (sL (sL (sI (sL (sL (sI (sI (sF s88 109 96 z97) 176 z97.toNatClampNeg (vp_nar .boolean (Int32.ofInt 0))) 177 z97.toNatClampNeg (vp_nar .boolean (Int32.ofInt 0))) 178 z97.toNatClampNeg (Int64.ofInt 0)) 179 z97.toNatClampNeg (Int64.ofInt 0)) 180 z97.toNatClampNeg (vp_nar .boolean (Int32.ofInt 1))) 181 z97.toNatClampNeg (Int64.ofInt 0)) 182 z97.toNatClampNeg (Int64.ofInt 0)) 109 97 (Int32.ofInt 0)) 109 98 (Int32.ofInt 0))  hI102x41x37 (fr_sF rfl (fr_sF rfl (fr_sL rfl (fr_sL rfl (fr_sI rfl (fr_sL rfl (fr_sL rfl (fr_sI rfl (fr_sI rfl (fr_sF rfl (fr_tr rfl fr_rf hF88))))))))))) ))
    · skip
      have i77 := r_eq1 10 10 c77 i72 (in_c 10 rfl) rfl
      refine g_aload_n 81 (gd rfl) rfl rfl ?_
      refine g_iconst 3 82 (gd rfl) rfl rfl ?_
      refine g_iload_n 83 (gd rfl) rfl rfl ?_
      refine g_callv (X := _) (As := [.int (Int32.ofInt 3), .int x2]) (r := []) (b := A 109) (q := 109) 86 (gd rfl) rfl rfl rfl rfl rfl (ww_o rfl) (Nat.le_of_ble_eq_true rfl) (Nat.zero_le _) (Nat.zero_le _) (k_298 (by first | exact dq1 hd rfl | exact dq0 hd rfl | exact dq2 hd rfl | exact dq3 hd rfl | omega) hI (in_w 1 5 (in_c 3 rfl) rfl)) (fun e u h => h) (fun v u h => ?_)
      obtain ⟨s83, hI83, hF83, n83, rfl, rfl⟩ := h
      obtain ⟨z83a, e83⟩ : ∃ w, w = s83.2.2.1 109 23 := ⟨_, rfl⟩
      have i83a := inv_F hI83 0 9 rfl e83
      rw [← (show z83a = s83.2.2.1 109 23 from e83)] at n83
      show GG _ _ _ _ _ _ _ _ [] _ _ _
      exact g_return (gd rfl) rfl (hP _ _ ⟨s83, hI83, (fr_tr rfl fr_rf hF83), rfl, rfl⟩)
  · skip
    have i1 := sw_eq c1
    refine g_aload_n 109 (gd rfl) rfl rfl ?_
    refine g_getI 112 (gd rfl) rfl rfl rfl (fun z109 e109 => ?_)
    have i109 := inv_F hI 0 10 rfl e109
    refine g_if_ne 115 122 (gd rfl) rfl rfl (fun c112 => ?_) (fun c112 => ?_)
    · skip
      have i112 := z_ne 1 10 c112 i109 rfl
      refine g_aload_n 123 (gd rfl) rfl rfl ?_
      refine g_callv (X := _) (As := []) (r := []) (b := A 109) (q := 109) 126 (gd rfl) rfl rfl rfl rfl rfl (ww_o rfl) (Nat.le_of_ble_eq_true rfl) (Nat.zero_le _) (Nat.zero_le _) (k_385 (by first | exact dq1 hd rfl | exact dq0 hd rfl | exact dq2 hd rfl | exact dq3 hd rfl | omega) hI ) (fun e u h => h) (fun v u h => ?_)
      obtain ⟨s123, hI123, hF123, rfl, rfl⟩ := h
      show GG _ _ _ _ _ _ _ _ [] _ _ _
      refine g_aload_n 127 (gd rfl) rfl rfl ?_
      refine g_getA (q2 := 177) 130 (gd rfl) rfl rfl rfl rfl ?_
      refine g_aload_n 131 (gd rfl) rfl rfl ?_
      refine g_getI 134 (gd rfl) rfl rfl rfl (fun z131 e131 => ?_)
      have q131 : z109 = z131 := (fr_F (e109) hF123 rfl).trans e131.symm
      subst q131
      refine g_baload 135 (gd rfl) rfl (n := 12) rfl (in_ix i112 rfl) (fun z134 e134 => ?_)
      have i134 := inv_I hI123 (n := 12) (t := 3) 0 1 rfl (in_ix i112 rfl) rfl e134
      refine g_istore_n 136 (gd rfl) rfl (Nat.le_of_ble_eq_true rfl) ?_
      refine g_aload_n 137 (gd rfl) rfl rfl ?_
      refine g_getA (q2 := 178) 140 (gd rfl) rfl rfl rfl rfl ?_
      refine g_aload_n 141 (gd rfl) rfl rfl ?_
      refine g_getI 144 (gd rfl) rfl rfl rfl (fun z141 e141 => ?_)
      have q141 : z109 = z141 := (fr_F (e109) hF123 rfl).trans e141.symm
      subst q141
      refine g_laload 145 (gd rfl) rfl (n := 12) rfl (in_ix i112 rfl) (fun z144 e144 => ?_)
      refine g_lstore 147 (gd rfl) rfl (Nat.le_of_ble_eq_true rfl) ?_
      refine g_aload_n 148 (gd rfl) rfl rfl ?_
      refine g_getA (q2 := 179) 151 (gd rfl) rfl rfl rfl rfl ?_
      refine g_aload_n 152 (gd rfl) rfl rfl ?_
      refine g_getI 155 (gd rfl) rfl rfl rfl (fun z152 e152 => ?_)
      have q152 : z109 = z152 := (fr_F (e109) hF123 rfl).trans e152.symm
      subst q152
      refine g_laload 156 (gd rfl) rfl (n := 12) rfl (in_ix i112 rfl) (fun z155 e155 => ?_)
      refine g_lstore 158 (gd rfl) rfl (Nat.le_of_ble_eq_true rfl) ?_
      refine g_aload_n 159 (gd rfl) rfl rfl ?_
      refine g_dup 160 (gd rfl) rfl rfl ?_
      refine g_getI 163 (gd rfl) rfl rfl rfl (fun z160 e160 => ?_)
      have q160 : z109 = z160 := (fr_F (e109) hF123 rfl).trans e160.symm
      subst q160
      refine g_iconst 1 164 (gd rfl) rfl rfl ?_
      refine g_isub 165 (gd rfl) rfl (fun z164 e164 => ?_)
      have i164 := in_sub 0 9 e164 i112 (in_c 1 rfl) rfl rfl
      refine g_putI 168 (gd rfl) rfl rfl rfl rfl ?_
      have hI165 := inv_sF (q := 109) (j := 96) hI123 rfl (in_w 0 10 i164 rfl)
      refine g_aload_n 169 (gd rfl) rfl rfl ?_
      refine g_iload_n 170 (gd rfl) rfl rfl ?_
      refine g_lload 172 (gd rfl) rfl rfl ?_
      refine g_lload 174 (gd rfl) rfl rfl ?_
      refine g_callv (X := _) (As := [.int z134, .long z144, .long z155]) (r := []) (b := A 109) (q := 109) 177 (gd rfl) rfl rfl rfl rfl rfl (ww_o rfl) (Nat.le_of_ble_eq_true rfl) (mc := 0) (ms := 0) (Nat.zero_le _) (Nat.zero_le _) (P := fun v u => _) ?_ (fun e u h => h) (fun v u h => h)
      intro po174 xx174 hp174 hx174
      refine g_enter2 (k := 387) (N := 300) (by first | exact dq1 hd rfl | exact dq0 hd rfl | exact dq2 hd rfl | exact dq3 hd rfl | omega) rfl (Nat.le_of_ble_eq_true rfl) ?_
      refine g_aload_n 1 (gd rfl) rfl rfl ?_
      refine g_iconst 1 2 (gd rfl) rfl rfl ?_
      refine g_putZ 5 (gd rfl) rfl rfl rfl rfl (in01 (in_w 0 1 (in_c 1 rfl) rfl)) ?_
      have hI174x2 := inv_sF (q := 109) (j := 97) hI165 rfl (in_w 0 1 (in_c 1 rfl) rfl)
      refine g_aload_n 6 (gd rfl) rfl rfl ?_
      refine g_iconst 1 7 (gd rfl) rfl rfl ?_
      refine g_putZ 10 (gd rfl) rfl rfl rfl rfl (in01 (in_w 0 1 (in_c 1 rfl) rfl)) ?_
      have hI174x7 := inv_sF (q := 109) (j := 98) hI174x2 rfl (in_w 0 1 (in_c 1 rfl) rfl)
      refine g_aload_n 11 (gd rfl) rfl rfl ?_
      refine g_iload_n 12 (gd rfl) rfl rfl ?_
      refine g_putZ 15 (gd rfl) rfl rfl rfl rfl (in01 (in_w 0 1 i134 rfl)) ?_
      have hI174x12 := inv_sF (q := 109) (j := 99) hI174x7 rfl (in_w 0 1 i134 rfl)
      refine g_aload_n 16 (gd rfl) rfl rfl ?_
      refine g_lload_n 17 (gd rfl) rfl rfl ?_
      refine g_putL 20 (gd rfl) rfl rfl rfl rfl ?_
      have hI174x17 := inv_sG (q := 109) (j := 100) (x := z144) hI174x12 rfl (l_rng z144)
      refine g_aload_n 21 (gd rfl) rfl rfl ?_
      refine g_lload 23 (gd rfl) rfl rfl ?_
      refine g_putL 26 (gd rfl) rfl rfl rfl rfl ?_
      have hI174x23 := inv_sG (q := 109) (j := 101) (x := z155) hI174x17 rfl (l_rng z155)
      refine g_return (gd rfl) rfl (hp174 _ _ ?_)
      show GG _ _ _ _ _ _ _ _ [] _ _ _
      refine g_goto 248 (gd rfl) rfl ?_
      exact gg_w (by first | exact Nat.le_of_ble_eq_true rfl | omega) (gg_f (gf_cons rfl (gf_cons rfl (gf_cons rfl gf_nil))) (ct248 (sG (sG (sF (sF (sF (sF s123 109 96 z164) 109 97 (Int32.ofInt 1)) 109 98 (Int32.ofInt 1)) 109 99 z134) 109 100 z144) 109 101 z155)  hI174x23 (fr_sG rfl (fr_sG rfl (fr_sF rfl (fr_sF rfl (fr_sF rfl (fr_sF rfl (fr_tr rfl fr_rf hF123))))))) ))
    · skip
      have i112 := z_eq 0 0 c112 i109 rfl
      refine g_aload_n 116 (gd rfl) rfl rfl ?_
      refine g_iconst 2 117 (gd rfl) rfl rfl ?_
      refine g_iload_n 118 (gd rfl) rfl rfl ?_
      refine g_callv (X := _) (As := [.int (Int32.ofInt 2), .int x2]) (r := []) (b := A 109) (q := 109) 121 (gd rfl) rfl rfl rfl rfl rfl (ww_o rfl) (Nat.le_of_ble_eq_true rfl) (Nat.zero_le _) (Nat.zero_le _) (k_298 (by first | exact dq1 hd rfl | exact dq0 hd rfl | exact dq2 hd rfl | exact dq3 hd rfl | omega) hI (in_w 1 5 (in_c 2 rfl) rfl)) (fun e u h => h) (fun v u h => ?_)
      obtain ⟨s118, hI118, hF118, n118, rfl, rfl⟩ := h
      obtain ⟨z118a, e118⟩ : ∃ w, w = s118.2.2.1 109 23 := ⟨_, rfl⟩
      have i118a := inv_F hI118 0 9 rfl e118
      rw [← (show z118a = s118.2.2.1 109 23 from e118)] at n118
      show GG _ _ _ _ _ _ _ _ [] _ _ _
      exact g_return (gd rfl) rfl (hP _ _ ⟨s118, hI118, (fr_tr rfl fr_rf hF118), rfl, rfl⟩)
  · skip
    have i1 := sw_eq c1
    exact gg_w (by first | exact Nat.le_of_ble_eq_true rfl | omega) (gg_f (gf_cons rfl (gf_cons rfl (gf_cons rfl gf_nil))) (ct180 s  hI fr_rf (in_w 42 63 i1 rfl)))
  · skip
    have i1 := sw_eq c1
    exact gg_w (by first | exact Nat.le_of_ble_eq_true rfl | omega) (gg_f (gf_cons rfl (gf_cons rfl (gf_cons rfl gf_nil))) (ct180 s  hI fr_rf (in_w 42 63 i1 rfl)))
  · skip
    have i1 := sw_eq c1
    exact gg_w (by first | exact Nat.le_of_ble_eq_true rfl | omega) (gg_f (gf_cons rfl (gf_cons rfl (gf_cons rfl gf_nil))) (ct180 s  hI fr_rf (in_w 42 63 i1 rfl)))
  · skip
    have i1 := sw_eq c1
    refine g_aload_n 61 (gd rfl) rfl rfl ?_
    refine g_callv (X := _) (As := []) (r := []) (b := A 109) (q := 109) 64 (gd rfl) rfl rfl rfl rfl rfl (ww_o rfl) (Nat.le_of_ble_eq_true rfl) (Nat.zero_le _) (Nat.zero_le _) (k_385 (by first | exact dq1 hd rfl | exact dq0 hd rfl | exact dq2 hd rfl | exact dq3 hd rfl | omega) hI ) (fun e u h => h) (fun v u h => ?_)
    obtain ⟨s61, hI61, hF61, rfl, rfl⟩ := h
    show GG _ _ _ _ _ _ _ _ [] _ _ _
    refine g_aload_n 65 (gd rfl) rfl rfl ?_
    refine g_callv (X := _) (As := []) (r := []) (b := A 109) (q := 109) 68 (gd rfl) rfl rfl rfl rfl rfl (ww_o rfl) (Nat.le_of_ble_eq_true rfl) (mc := 0) (ms := 0) (Nat.zero_le _) (Nat.zero_le _) (P := fun v u => _) ?_ (fun e u h => h) (fun v u h => h)
    intro po65 xx65 hp65 hx65
    refine g_enter2 (k := 382) (N := 300) (by first | exact dq1 hd rfl | exact dq0 hd rfl | exact dq2 hd rfl | exact dq3 hd rfl | omega) rfl (Nat.le_of_ble_eq_true rfl) ?_
    refine g_aload_n 1 (gd rfl) rfl rfl ?_
    refine g_getA (q2 := 180) 4 (gd rfl) rfl rfl rfl rfl ?_
    refine g_aload_n 5 (gd rfl) rfl rfl ?_
    refine g_getI 8 (gd rfl) rfl rfl rfl (fun z65x5 e65x5 => ?_)
    have i65x5 := inv_F hI61 0 10 rfl e65x5
    refine g_iconst 1 9 (gd rfl) rfl rfl ?_
    refine g_bastore 10 (gd rfl) rfl (n := 12) rfl (in_ix i65x5 rfl) ?_
    have hI65x9 := inv_sI (q := 180) (j := z65x5.toNatClampNeg) hI61 rfl (in_w 0 1 (nar01 (in_w 0 1 (in_c 1 rfl) rfl)) rfl)
    refine g_aload_n 11 (gd rfl) rfl rfl ?_
    refine g_getA (q2 := 181) 14 (gd rfl) rfl rfl rfl rfl ?_
    refine g_aload_n 15 (gd rfl) rfl rfl ?_
    refine g_getI 18 (gd rfl) rfl rfl rfl (fun z65x15 e65x15 => ?_)
    have q65x15 : z65x5 = z65x15 := (sI_F (e65x5)).trans e65x15.symm
    subst q65x15
    refine g_lconst 0 19 (gd rfl) rfl rfl ?_
    refine g_lastore 20 (gd rfl) rfl (n := 12) rfl (in_ix i65x5 rfl) ?_
    have hI65x19 := inv_sL (q := 181) (j := z65x5.toNatClampNeg) (x := (Int64.ofInt 0)) hI65x9 rfl (l_rng (Int64.ofInt 0))
    refine g_aload_n 21 (gd rfl) rfl rfl ?_
    refine g_getA (q2 := 182) 24 (gd rfl) rfl rfl rfl rfl ?_
    refine g_aload_n 25 (gd rfl) rfl rfl ?_
    refine g_getI 28 (gd rfl) rfl rfl rfl (fun z65x25 e65x25 => ?_)
    have q65x25 : z65x5 = z65x25 := (sL_F (sI_F (e65x5))).trans e65x25.symm
    subst q65x25
    refine g_lconst 0 29 (gd rfl) rfl rfl ?_
    refine g_lastore 30 (gd rfl) rfl (n := 12) rfl (in_ix i65x5 rfl) ?_
    have hI65x29 := inv_sL (q := 182) (j := z65x5.toNatClampNeg) (x := (Int64.ofInt 0)) hI65x19 rfl (l_rng (Int64.ofInt 0))
    refine g_aload_n 31 (gd rfl) rfl rfl ?_
    refine g_iconst 0 32 (gd rfl) rfl rfl ?_
    refine g_putZ 35 (gd rfl) rfl rfl rfl rfl (in01 (in_w 0 1 (in_c 0 rfl) rfl)) ?_
    have hI65x32 := inv_sF (q := 109) (j := 97) hI65x29 rfl (in_w 0 1 (in_c 0 rfl) rfl)
    refine g_aload_n 36 (gd rfl) rfl rfl ?_
    refine g_iconst 0 37 (gd rfl) rfl rfl ?_
    refine g_putZ 40 (gd rfl) rfl rfl rfl rfl (in01 (in_w 0 1 (in_c 0 rfl) rfl)) ?_
    have hI65x37 := inv_sF (q := 109) (j := 98) hI65x32 rfl (in_w 0 1 (in_c 0 rfl) rfl)
    refine g_return (gd rfl) rfl (hp65 _ _ ?_)
    show GG _ _ _ _ _ _ _ _ [] _ _ _
    refine g_goto 248 (gd rfl) rfl ?_
    exact gg_w (by first | exact Nat.le_of_ble_eq_true rfl | omega) (gg_f (gf_cons rfl (gf_cons rfl (gf_cons rfl gf_nil))) (ct248 (sF (sF (sL (sL (sI s61 180 z65x5.toNatClampNeg (vp_nar .boolean (Int32.ofInt 1))) 181 z65x5.toNatClampNeg (Int64.ofInt 0)) 182 z65x5.toNatClampNeg (Int64.ofInt 0)) 109 97 (Int32.ofInt 0)) 109 98 (Int32.ofInt 0))  hI65x37 (fr_sF rfl (fr_sF rfl (fr_sL rfl (fr_sL rfl (fr_sI rfl (fr_tr rfl fr_rf hF61)))))) ))
  · skip
    refine g_aload_n 243 (gd rfl) rfl rfl ?_
    refine g_iconst 1 244 (gd rfl) rfl rfl ?_
    refine g_iload_n 245 (gd rfl) rfl rfl ?_
    refine g_callv (X := _) (As := [.int (Int32.ofInt 1), .int x2]) (r := []) (b := A 109) (q := 109) 248 (gd rfl) rfl rfl rfl rfl rfl (ww_o rfl) (Nat.le_of_ble_eq_true rfl) (Nat.zero_le _) (Nat.zero_le _) (k_298 (by first | exact dq1 hd rfl | exact dq0 hd rfl | exact dq2 hd rfl | exact dq3 hd rfl | omega) hI (in_w 1 5 (in_c 1 rfl) rfl)) (fun e u h => h) (fun v u h => ?_)
    obtain ⟨s245, hI245, hF245, n245, rfl, rfl⟩ := h
    obtain ⟨z245a, e245⟩ : ∃ w, w = s245.2.2.1 109 23 := ⟨_, rfl⟩
    have i245a := inv_F hI245 0 9 rfl e245
    rw [← (show z245a = s245.2.2.1 109 23 from e245)] at n245
    show GG _ _ _ _ _ _ _ _ [] _ _ _
    exact gg_w (by first | exact Nat.le_of_ble_eq_true rfl | omega) (gg_f (gf_cons rfl (gf_cons rfl (gf_cons rfl gf_nil))) (ct248 s245  hI245 (fr_tr rfl fr_rf hF245) ))
end
section
/-! methods, by vc.py -/
def fm_389 : FM := ([132, 183], [], [(109, 0)], [])
/-- GraphHouseModel.fits -/
theorem k_389 {Z : AmZ} {A : Nat → Nat} {s : GS} {ex : va_W} {d : Nat} {X : AmX} {x1 : Int32} {x2 : Int32} (hd : 4 ≤ d) (hI : Inv s)  : GC Z d 389 [.ref (A 109), .int x1, .int x2] (WW Z A s ++ ex) 0 0 (fun v u => ∃ t : GS, Inv t ∧ Fr fm_389 s t ∧ ∃ z : Int32, v = some (.int z) ∧ u = WW Z A t ++ ex ∧ In z (-2147483648) 2147483647) X := by
  intro post xp hP hX
  obtain ⟨u_109_19, e_109_19⟩ : ∃ w, w = s.2.2.1 109 19 := ⟨_, rfl⟩
  have ro_109_19 := inv_F hI 0 160 rfl e_109_19
  obtain ⟨u_109_20, e_109_20⟩ : ∃ w, w = s.2.2.1 109 20 := ⟨_, rfl⟩
  have ro_109_20 := inv_F hI 0 32 rfl e_109_20
  obtain ⟨u_109_84, e_109_84⟩ : ∃ w, w = s.2.2.1 109 84 := ⟨_, rfl⟩
  have ro_109_84 := inv_F hI 0 1 rfl e_109_84
  have ct77 : ∀ (k77 : Nat) (sc77 : GS) (y77_3 : Int32) (y77_4 : Int32), Inv sc77 → Fr fm_389 s sc77 → (In x1 0 31) → (In x2 0 31) → (In y77_3 0 2000) → (In y77_4 0 2000) → ((y77_3).toInt ≤ (y77_4).toInt) → (QI sc77 (y77_4).toInt) → 2000 - (y77_3).toInt < (k77 : Int) → GG Z (d - 1) 389 post (gx xp) (1 + k77 * 363601) 77 (fun j => xlook j [(0, .ref (A 109)), (1, .int x1), (2, .int x2), (3, .int y77_3), (4, .int y77_4)]) [] (WW Z A sc77 ++ ex) 0 0 := by
    intro k77
    induction k77 with
    | zero => intro sc77 y77_3 y77_4 hIc77 hFc77 j77_1 j77_2 j77_3 j77_4 n77_0 g77_0 mm77; exfalso; have a0 := j77_2; unfold In at a0; have a1 := j77_1; unfold In at a1; have a2 := oa3 ro_109_84 ro_109_20 ro_109_19; have a5 := j77_4; unfold In at a5; have a6 := j77_3; unfold In at a6; omega
    | succ k77 ih77 =>
      intro sc77 y77_3 y77_4 hIc77 hFc77 j77_1 j77_2 j77_3 j77_4 n77_0 g77_0 mm77
      refine gg_w (M := 1 + k77 * 363601 + 363601) gws ?_
      have ct189 : ∀ (k189 : Nat) (sc189 : GS) (y189_3 : Int32) (y189_4 : Int32) (y189_5 : Int32) (y189_6 : Int32) (y189_7 : Int32) (y189_8 : Int32) (y189_9 : Int64) (y189_11 : Int32), Inv sc189 → Fr fm_389 s sc189 → (In y189_3 1 2000) → (In y189_4 0 2000) → (In y189_5 0 1951) → (In y189_6 0 31) → (In y189_7 (-1) 59) → (In y189_8 0 1) → (In y189_11 0 400) → ((y189_3).toInt = y77_3.toInt + 1) → ((y189_3).toInt ≤ (y189_4).toInt) → (QI sc189 (y189_4).toInt) → (y189_5 = sc189.1 132 y77_3.toNatClampNeg) → 400 - (y189_11).toInt < (k189 : Int) → GG Z (d - 1) 389 post (gx xp) (1 + k77 * 363601 + 1 + k189 * 900) 189 (fun j => xlook j [(0, .ref (A 109)), (1, .int x1), (2, .int x2), (3, .int y189_3), (4, .int y189_4), (5, .int y189_5), (6, .int y189_6), (7, .int y189_7), (8, .int y189_8), (9, .long y189_9), (11, .int y189_11)]) [] (WW Z A sc189 ++ ex) 0 0 := by
        intro k189
        induction k189 with
        | zero => intro sc189 y189_3 y189_4 y189_5 y189_6 y189_7 y189_8 y189_9 y189_11 hIc189 hFc189 j189_3 j189_4 j189_5 j189_6 j189_7 j189_8 j189_11 n189_0 n189_1 g189_0 g189_1 mm189; exact m_no mm189 j189_11 rfl
        | succ k189 ih189 =>
          intro sc189 y189_3 y189_4 y189_5 y189_6 y189_7 y189_8 y189_9 y189_11 hIc189 hFc189 j189_3 j189_4 j189_5 j189_6 j189_7 j189_8 j189_11 n189_0 n189_1 g189_0 g189_1 mm189
          refine gg_w (M := 1 + k77 * 363601 + 1 + k189 * 900 + 900) gws ?_
          refine g_iload 191 (gd rfl) rfl rfl ?_
          refine g_aload_n 192 (gd rfl) rfl rfl ?_
          refine g_getI 195 (gd rfl) rfl rfl rfl (fun z192 e192 => ?_)
          have q192 : u_109_19 = z192 := (fr_F e_109_19 hFc189 rfl).trans e192.symm
          subst q192
          refine g_sipush 160 198 (gd rfl) rfl rfl ?_
          refine g_iadd 199 (gd rfl) rfl (fun z198 e198 => ?_)
          have i198 := in_add 160 320 e198 ro_109_19 (in_c 160 rfl) rfl rfl
          refine g_cmp_ge 202 251 (gd rfl) rfl rfl (fun c199 => ?_) (fun c199 => ?_)
          · skip
            have i199 := r_le2 160 400 c199 i198 j189_11 rfl
            refine g_goto 77 (gd rfl) rfl ?_
            have n77 : (y189_3).toInt ≤ (y189_4).toInt := by first | exact n189_1 | (have a0 := oa13 j77_2 j77_1 ro_109_84 ro_109_20 ro_109_19 i199 j189_8 j189_7 j189_6 j189_5 j189_4 j189_3 i198; have a13 := t_add e198 ro_109_19 (in_c 160 rfl) rfl; have a14 := in_u ((in_c 160 rfl)); omega)
            have n77a : QI sc189 (y189_4).toInt := by first | exact g189_0 | (first | exact g189_0 | (have hz : z74 = z65 := (by rw [e74, e65]); have hw : ((Int32.ofInt 1)).toInt = 0 + 1 := rfl; rw [hw]; exact qi_push (m := 0) (y := z65) (v := Int32.ofInt 0) (qi_0 sc32) rfl (by rw [sI_p rfl, sI_q]; rfl) (by rw [sI_q, sI_p rfl, hz]) i65 rfl (by rw [g32_0 z65.toNatClampNeg (by show ((z65.toInt.toNat : Nat) : Int) < _; have a0 := oa13 j77_2 j77_1 ro_109_84 ro_109_20 ro_109_19 i199 j189_8 j189_7 j189_6 j189_5 j189_4 j189_3 i198; have a13 := t_add e198 ro_109_19 (in_c 160 rfl) rfl; have a14 := in_u ((in_c 160 rfl)); omega)]; decide) (by decide) (by decide)))
            have m77 : 2000 - (y189_3).toInt < ((k77 : Nat) : Int) := by have a0 := oa13 j77_2 j77_1 ro_109_84 ro_109_20 ro_109_19 i199 j189_8 j189_7 j189_6 j189_5 j189_4 j189_3 i198; have a13 := t_add e198 ro_109_19 (in_c 160 rfl) rfl; have a14 := in_u ((in_c 160 rfl)); omega
            exact gg_w (by first | exact Nat.le_add_right _ _ | exact gw2 | exact gw3 | exact gwe rfl | exact gwf rfl | exact gwg rfl | exact gwh rfl | omega) (gg_f (gf_cons rfl (gf_cons rfl (gf_cons rfl (gf_cons rfl (gf_cons rfl gf_nil))))) (ih77  sc189 y189_3 y189_4 hIc189 hFc189 (in_w 0 31 j77_1 rfl) (in_w 0 31 j77_2 rfl) (in_w 0 2000 j189_3 rfl) (in_w 0 2000 j189_4 rfl) n77 n77a m77))
          · skip
            have i199 := r_lt1 0 319 c199 j189_11 i198 rfl
            refine g_aload_n 203 (gd rfl) rfl rfl ?_
            refine g_getA (q2 := 112) 206 (gd rfl) rfl rfl rfl rfl ?_
            refine g_iload 208 (gd rfl) rfl rfl ?_
            refine g_baload 209 (gd rfl) rfl (n := 480) rfl (in_ix i199 rfl) (fun z208 e208 => ?_)
            have i208 := inv_I hIc189 (n := 480) (t := 3) 0 1 rfl (in_ix i199 rfl) rfl e208
            refine g_if_eq 212 245 (gd rfl) rfl rfl (fun c209 => ?_) (fun c209 => ?_)
            · skip
              have i209 := z_eq 0 0 c209 i208 rfl
              refine g_iinc 248 (gd rfl) rfl rfl (Nat.le_of_ble_eq_true rfl) (fun z245 e245 => ?_)
              have i245 := in_add 1 320 e245 i199 (in_c 1 rfl) rfl rfl
              refine g_goto 189 (gd rfl) rfl ?_
              have n189 : (y189_3).toInt = y77_3.toInt + 1 := by first | exact n189_0 | (have a0 := oa13 j77_2 j77_1 ro_109_84 ro_109_20 ro_109_19 i199 j189_8 j189_7 j189_6 j189_5 j189_4 j189_3 i245; have a13 := t_add e245 i199 (in_c 1 rfl) rfl; have a14 := oa2 ((in_c 1 rfl)) i198; have a16 := t_add e198 ro_109_19 (in_c 160 rfl) rfl; have a17 := in_u ((in_c 160 rfl)); omega)
              have n189a : (y189_3).toInt ≤ (y189_4).toInt := by first | exact n189_1 | (have a0 := oa13 j77_2 j77_1 ro_109_84 ro_109_20 ro_109_19 i199 j189_8 j189_7 j189_6 j189_5 j189_4 j189_3 i245; have a13 := t_add e245 i199 (in_c 1 rfl) rfl; have a14 := oa2 ((in_c 1 rfl)) i198; have a16 := t_add e198 ro_109_19 (in_c 160 rfl) rfl; have a17 := in_u ((in_c 160 rfl)); omega)
              have n189b : QI sc189 (y189_4).toInt := by first | exact g77_0 | exact g189_0 | exact p240b
              have n189c : y189_5 = sc189.1 132 y77_3.toNatClampNeg := by first | exact g189_1 | (first | exact e88 | exact g189_1 | (rw [p240d _ (by show ((y77_3.toInt.toNat : Nat) : Int) < _; have a0 := oa13 j77_2 j77_1 ro_109_84 ro_109_20 ro_109_19 i199 j189_8 j189_7 j189_6 j189_5 j189_4 j189_3 i245; have a13 := t_add e245 i199 (in_c 1 rfl) rfl; have a14 := oa2 ((in_c 1 rfl)) i198; have a16 := t_add e198 ro_109_19 (in_c 160 rfl) rfl; have a17 := in_u ((in_c 160 rfl)); omega)]; exact g189_1))
              exact gg_w (by first | exact Nat.le_add_right _ _ | exact gw2 | exact gw3 | exact gwe rfl | exact gwf rfl | exact gwg rfl | exact gwh rfl | omega) (gg_f (gf_cons rfl (gf_cons rfl (gf_cons rfl (gf_cons rfl (gf_cons rfl (gf_cons rfl (gf_cons rfl (gf_cons rfl (gf_cons rfl (gf_cons rfl (gf_cons rfl gf_nil))))))))))) (ih189 sc189 y189_3 y189_4 y189_5 y189_6 y189_7 y189_8 y189_9 z245 hIc189 hFc189 (in_w 1 2000 j189_3 rfl) (in_w 0 2000 j189_4 rfl) (in_w 0 1951 j189_5 rfl) (in_w 0 31 j189_6 rfl) (in_w (-1) 59 j189_7 rfl) (in_w 0 1 j189_8 rfl) (in_w 0 400 i245 rfl) n189 n189a n189b n189c (m_up mm189 (t_add e245 i199 (in_c 1 rfl) rfl) (in_w 1 1 (in_c 1 rfl) rfl))))
            · skip
              have i209 := z_ne 1 1 c209 i208 rfl
              refine g_aload_n 213 (gd rfl) rfl rfl ?_
              refine g_getA (q2 := 113) 216 (gd rfl) rfl rfl rfl rfl ?_
              refine g_iload 218 (gd rfl) rfl rfl ?_
              refine g_iaload 219 (gd rfl) rfl (n := 480) rfl (in_ix i199 rfl) (fun z218 e218 => ?_)
              have i218 := inv_I hIc189 (n := 480) (t := 0) 0 31 rfl (in_ix i199 rfl) rfl e218
              refine g_iload 221 (gd rfl) rfl rfl ?_
              refine g_cmp_ne 224 245 (gd rfl) rfl rfl (fun c221 => ?_) (fun c221 => ?_)
              · skip
                refine g_iinc 248 (gd rfl) rfl rfl (Nat.le_of_ble_eq_true rfl) (fun z245 e245 => ?_)
                have i245 := in_add 1 320 e245 i199 (in_c 1 rfl) rfl rfl
                refine g_goto 189 (gd rfl) rfl ?_
                have n189 : (y189_3).toInt = y77_3.toInt + 1 := by first | exact n189_0 | (have a0 := oa13 j77_2 j77_1 ro_109_84 ro_109_20 ro_109_19 i199 j189_8 j189_7 j189_6 j189_5 j189_4 j189_3 i245; have a13 := t_add e245 i199 (in_c 1 rfl) rfl; have a14 := oa2 ((in_c 1 rfl)) i198; have a16 := t_add e198 ro_109_19 (in_c 160 rfl) rfl; have a17 := in_u ((in_c 160 rfl)); omega)
                have n189a : (y189_3).toInt ≤ (y189_4).toInt := by first | exact n189_1 | (have a0 := oa13 j77_2 j77_1 ro_109_84 ro_109_20 ro_109_19 i199 j189_8 j189_7 j189_6 j189_5 j189_4 j189_3 i245; have a13 := t_add e245 i199 (in_c 1 rfl) rfl; have a14 := oa2 ((in_c 1 rfl)) i198; have a16 := t_add e198 ro_109_19 (in_c 160 rfl) rfl; have a17 := in_u ((in_c 160 rfl)); omega)
                have n189b : QI sc189 (y189_4).toInt := by first | exact g77_0 | exact g189_0 | exact p240b
                have n189c : y189_5 = sc189.1 132 y77_3.toNatClampNeg := by first | exact g189_1 | (first | exact e88 | exact g189_1 | (rw [p240d _ (by show ((y77_3.toInt.toNat : Nat) : Int) < _; have a0 := oa13 j77_2 j77_1 ro_109_84 ro_109_20 ro_109_19 i199 j189_8 j189_7 j189_6 j189_5 j189_4 j189_3 i245; have a13 := t_add e245 i199 (in_c 1 rfl) rfl; have a14 := oa2 ((in_c 1 rfl)) i198; have a16 := t_add e198 ro_109_19 (in_c 160 rfl) rfl; have a17 := in_u ((in_c 160 rfl)); omega)]; exact g189_1))
                exact gg_w (by first | exact Nat.le_add_right _ _ | exact gw2 | exact gw3 | exact gwe rfl | exact gwf rfl | exact gwg rfl | exact gwh rfl | omega) (gg_f (gf_cons rfl (gf_cons rfl (gf_cons rfl (gf_cons rfl (gf_cons rfl (gf_cons rfl (gf_cons rfl (gf_cons rfl (gf_cons rfl (gf_cons rfl (gf_cons rfl gf_nil))))))))))) (ih189 sc189 y189_3 y189_4 y189_5 y189_6 y189_7 y189_8 y189_9 z245 hIc189 hFc189 (in_w 1 2000 j189_3 rfl) (in_w 0 2000 j189_4 rfl) (in_w 0 1951 j189_5 rfl) (in_w 0 31 j189_6 rfl) (in_w (-1) 59 j189_7 rfl) (in_w 0 1 j189_8 rfl) (in_w 0 400 i245 rfl) n189 n189a n189b n189c (m_up mm189 (t_add e245 i199 (in_c 1 rfl) rfl) (in_w 1 1 (in_c 1 rfl) rfl))))
              · skip
                refine g_aload_n 225 (gd rfl) rfl rfl ?_
                refine g_iload 227 (gd rfl) rfl rfl ?_
                refine g_lload 229 (gd rfl) rfl rfl ?_
                refine g_aload_n 230 (gd rfl) rfl rfl ?_
                refine g_getA (q2 := 183) 233 (gd rfl) rfl rfl rfl rfl ?_
                refine g_iload 235 (gd rfl) rfl rfl ?_
                refine g_iaload 236 (gd rfl) rfl (n := 2000) rfl (in_ix j189_5 rfl) (fun z235 e235 => ?_)
                have i236 : In z235 0 1999 := by have h := g189_0.2.2 y77_3.toNatClampNeg (by show ((y77_3.toInt.toNat : Nat) : Int) < _; have a0 := oa13 j77_2 j77_1 ro_109_84 ro_109_20 ro_109_19 i199 j189_8 j189_7 j189_6 j189_5 j189_4 j189_3 i198; have a13 := t_add e198 ro_109_19 (in_c 160 rfl) rfl; have a14 := in_u ((in_c 160 rfl)); omega); rw [← g189_1, ← e235] at h; have h2 : ((y77_3.toNatClampNeg : Nat) : Int) = y77_3.toInt := (by show ((y77_3.toInt.toNat : Nat) : Int) = _; have a0 := oa13 j77_2 j77_1 ro_109_84 ro_109_20 ro_109_19 i199 j189_8 j189_7 j189_6 j189_5 j189_4 j189_3 i198; have a13 := t_add e198 ro_109_19 (in_c 160 rfl) rfl; have a14 := in_u ((in_c 160 rfl)); omega); exact ⟨h.1, by have a0 := oa13 j77_2 j77_1 ro_109_84 ro_109_20 ro_109_19 i199 j189_8 j189_7 j189_6 j189_5 j189_4 j189_3 i198; have a13 := t_add e198 ro_109_19 (in_c 160 rfl) rfl; have a14 := in_u ((in_c 160 rfl)); omega⟩
                have hle : (z235).toInt ≤ y77_3.toInt := (by have h := g189_0.2.2 y77_3.toNatClampNeg (by show ((y77_3.toInt.toNat : Nat) : Int) < _; have a0 := oa13 j77_2 j77_1 ro_109_84 ro_109_20 ro_109_19 i199 j189_8 j189_7 j189_6 j189_5 j189_4 j189_3 i198; have a13 := t_add e198 ro_109_19 (in_c 160 rfl) rfl; have a14 := in_u ((in_c 160 rfl)); omega); rw [← g189_1, ← e235] at h; have h2 : ((y77_3.toNatClampNeg : Nat) : Int) = y77_3.toInt := (by show ((y77_3.toInt.toNat : Nat) : Int) = _; have a0 := oa13 j77_2 j77_1 ro_109_84 ro_109_20 ro_109_19 i199 j189_8 j189_7 j189_6 j189_5 j189_4 j189_3 i198; have a13 := t_add e198 ro_109_19 (in_c 160 rfl) rfl; have a14 := in_u ((in_c 160 rfl)); omega); omega)
                refine g_iconst 1 237 (gd rfl) rfl rfl ?_
                refine g_iadd 238 (gd rfl) rfl (fun z237 e237 => ?_)
                have i237 := in_add 1 2000 e237 i236 (in_c 1 rfl) rfl rfl
                refine g_iload 240 (gd rfl) rfl rfl ?_
                have p240 : QI sc189 (y189_4).toInt := by exact g189_0
                have p240a : 0 ≤ (z237).toInt ∧ (z237).toInt ≤ (y189_4).toInt := by exact ⟨by have a0 := oa13 j77_2 j77_1 ro_109_84 ro_109_20 ro_109_19 i199 j189_8 j189_7 j189_6 j189_5 j189_4 j189_3 i237; have a13 := t_add e237 i236 (in_c 1 rfl) rfl; have a14 := oa3 ((in_c 1 rfl)) i236 i198; have a17 := t_add e198 ro_109_19 (in_c 160 rfl) rfl; have a18 := in_u ((in_c 160 rfl)); omega, by have a0 := oa13 j77_2 j77_1 ro_109_84 ro_109_20 ro_109_19 i199 j189_8 j189_7 j189_6 j189_5 j189_4 j189_3 i237; have a13 := t_add e237 i236 (in_c 1 rfl) rfl; have a14 := oa3 ((in_c 1 rfl)) i236 i198; have a17 := t_add e198 ro_109_19 (in_c 160 rfl) rfl; have a18 := in_u ((in_c 160 rfl)); omega⟩
                refine g_callv (X := _) (As := [.int y189_11, .long y189_9, .int z237, .int y189_4]) (r := []) (b := A 109) (q := 109) 243 (gd rfl) rfl rfl rfl rfl rfl (ww_o rfl) (Nat.le_of_ble_eq_true rfl) (Nat.zero_le _) (Nat.zero_le _) (k_390 (by first | exact dq1 hd rfl | exact dq0 hd rfl | exact dq2 hd rfl | exact dq3 hd rfl | omega) hIc189 (in_w 0 319 i199 rfl) (in_w 0 2000 i237 rfl) (in_w 0 2000 j189_4 rfl) p240 p240a) (fun e u h => h) (fun v u h => ?_)
                obtain ⟨s240, hI240, hF240, z240, rfl, rfl, i240, p240b, p240c, p240d⟩ := h
                show GG _ _ _ _ _ _ _ _ [.int z240] _ _ _
                refine g_istore 245 (gd rfl) rfl (Nat.le_of_ble_eq_true rfl) ?_
                refine g_iinc 248 (gd rfl) rfl rfl (Nat.le_of_ble_eq_true rfl) (fun z245 e245 => ?_)
                have i245 := in_add 1 320 e245 i199 (in_c 1 rfl) rfl rfl
                refine g_goto 189 (gd rfl) rfl ?_
                have n189 : (y189_3).toInt = y77_3.toInt + 1 := by first | exact n189_0 | (have a0 := oa13 j77_2 j77_1 ro_109_84 ro_109_20 ro_109_19 i199 j189_8 j189_7 j189_6 j189_5 j189_4 j189_3 i245; have a13 := t_add e245 i199 (in_c 1 rfl) rfl; have a14 := oa3 ((in_c 1 rfl)) i240 i237; have a17 := t_add e237 i236 (in_c 1 rfl) rfl; have a18 := oa2 i236 i198; have a20 := t_add e198 ro_109_19 (in_c 160 rfl) rfl; have a21 := in_u ((in_c 160 rfl)); omega)
                have n189a : (y189_3).toInt ≤ (z240).toInt := by have a0 := oa13 j77_2 j77_1 ro_109_84 ro_109_20 ro_109_19 i199 j189_8 j189_7 j189_6 j189_5 j189_4 j189_3 i245; have a13 := t_add e245 i199 (in_c 1 rfl) rfl; have a14 := oa3 ((in_c 1 rfl)) i240 i237; have a17 := t_add e237 i236 (in_c 1 rfl) rfl; have a18 := oa2 i236 i198; have a20 := t_add e198 ro_109_19 (in_c 160 rfl) rfl; have a21 := in_u ((in_c 160 rfl)); omega
                have n189b : QI s240 (z240).toInt := by first | exact g77_0 | exact g189_0 | exact p240b
                have n189c : y189_5 = s240.1 132 y77_3.toNatClampNeg := by first | exact e88 | exact g189_1 | (rw [p240d _ (by show ((y77_3.toInt.toNat : Nat) : Int) < _; have a0 := oa13 j77_2 j77_1 ro_109_84 ro_109_20 ro_109_19 i199 j189_8 j189_7 j189_6 j189_5 j189_4 j189_3 i245; have a13 := t_add e245 i199 (in_c 1 rfl) rfl; have a14 := oa3 ((in_c 1 rfl)) i240 i237; have a17 := t_add e237 i236 (in_c 1 rfl) rfl; have a18 := oa2 i236 i198; have a20 := t_add e198 ro_109_19 (in_c 160 rfl) rfl; have a21 := in_u ((in_c 160 rfl)); omega)]; exact g189_1)
                exact gg_w (by first | exact Nat.le_add_right _ _ | exact gw2 | exact gw3 | exact gwe rfl | exact gwf rfl | exact gwg rfl | exact gwh rfl | omega) (gg_f (gf_cons rfl (gf_cons rfl (gf_cons rfl (gf_cons rfl (gf_cons rfl (gf_cons rfl (gf_cons rfl (gf_cons rfl (gf_cons rfl (gf_cons rfl (gf_cons rfl gf_nil))))))))))) (ih189 s240 y189_3 z240 y189_5 y189_6 y189_7 y189_8 y189_9 z245 hI240 (fr_tr rfl hFc189 hF240) (in_w 1 2000 j189_3 rfl) (in_w 0 2000 i240 rfl) (in_w 0 1951 j189_5 rfl) (in_w 0 31 j189_6 rfl) (in_w (-1) 59 j189_7 rfl) (in_w 0 1 j189_8 rfl) (in_w 0 400 i245 rfl) n189 n189a n189b n189c (m_up mm189 (t_add e245 i199 (in_c 1 rfl) rfl) (in_w 1 1 (in_c 1 rfl) rfl))))
      refine g_iload_n 78 (gd rfl) rfl rfl ?_
      refine g_iload 80 (gd rfl) rfl rfl ?_
      refine g_cmp_ge 83 254 (gd rfl) rfl rfl (fun c80 => ?_) (fun c80 => ?_)
      · skip
        refine g_iconst (-1) 255 (gd rfl) rfl rfl ?_
        exact g_ireturn (gd rfl) rfl rfl (hP _ _ ⟨sc77, hIc77, hFc77, (Int32.ofInt (-1)), rfl, rfl, in_w (-2147483648) 2147483647 (in_c (-1) rfl) rfl⟩)
      · skip
        have i80 := r_lt1 0 1999 c80 j77_3 j77_4 rfl
        have i80a := r_lt2 1 2000 c80 j77_3 j77_4 rfl
        refine g_aload_n 84 (gd rfl) rfl rfl ?_
        refine g_getA (q2 := 132) 87 (gd rfl) rfl rfl rfl rfl ?_
        refine g_iload_n 88 (gd rfl) rfl rfl ?_
        refine g_iaload 89 (gd rfl) rfl (n := 4000) rfl (in_ix i80 rfl) (fun z88 e88 => ?_)
        have i88 := inv_I hIc77 (n := 4000) (t := 0) 0 1951 rfl (in_ix i80 rfl) rfl e88
        refine g_istore 91 (gd rfl) rfl (Nat.le_of_ble_eq_true rfl) ?_
        refine g_iinc 94 (gd rfl) rfl rfl (Nat.le_of_ble_eq_true rfl) (fun z91 e91 => ?_)
        have i91 := in_add 1 2000 e91 i80 (in_c 1 rfl) rfl rfl
        refine g_iload 96 (gd rfl) rfl rfl ?_
        refine g_bipush 61 98 (gd rfl) rfl rfl ?_
        refine g_idiv 99 (gd rfl) rfl (by decide) (fun z98 e98 => ?_)
        have i98 := in_div 0 31 e98 i88 rfl rfl
        refine g_istore 101 (gd rfl) rfl (Nat.le_of_ble_eq_true rfl) ?_
        refine g_iload 103 (gd rfl) rfl rfl ?_
        refine g_bipush 61 105 (gd rfl) rfl rfl ?_
        refine g_irem 106 (gd rfl) rfl (by decide) (fun z105 e105 => ?_)
        have i105 := in_rem 60 e105 i88 rfl rfl
        refine g_iconst 1 107 (gd rfl) rfl rfl ?_
        refine g_isub 108 (gd rfl) rfl (fun z107 e107 => ?_)
        have i107 := in_sub (-1) 59 e107 i105 (in_c 1 rfl) rfl rfl
        refine g_istore 110 (gd rfl) rfl (Nat.le_of_ble_eq_true rfl) ?_
        refine g_iload 112 (gd rfl) rfl rfl ?_
        refine g_if_ge 115 122 (gd rfl) rfl rfl (fun c112 => ?_) (fun c112 => ?_)
        · skip
          have i112 := z_ge 0 59 c112 i107 rfl
          refine g_aload_n 123 (gd rfl) rfl rfl ?_
          refine g_getL 126 (gd rfl) rfl rfl rfl (fun z123 e123 => ?_)
          refine g_iload 128 (gd rfl) rfl rfl ?_
          refine g_lshr 129 (gd rfl) rfl (fun z128 e128 => ?_)
          refine g_lconst 1 130 (gd rfl) rfl rfl ?_
          refine g_land 131 (gd rfl) rfl (fun z130 e130 => ?_)
          have i130 := inl_and2 e130 (l_c 1 rfl) rfl
          refine g_lconst 1 132 (gd rfl) rfl rfl ?_
          refine g_lcmp 133 (gd rfl) rfl (fun z132 e132 => ?_)
          have i132 := lc_in e132
          refine g_if_ne 136 140 (gd rfl) rfl rfl (fun c133 => ?_) (fun c133 => ?_)
          · skip
            have c133a := lc_ne e132 c133
            have i133 := lr_ne1 0 0 c133a i130 (l_c 1 rfl) rfl
            refine g_iconst 0 141 (gd rfl) rfl rfl ?_
            refine g_istore 143 (gd rfl) rfl (Nat.le_of_ble_eq_true rfl) ?_
            refine g_iload 145 (gd rfl) rfl rfl ?_
            refine g_iload_n 146 (gd rfl) rfl rfl ?_
            refine g_cmp_ne 149 162 (gd rfl) rfl rfl (fun c146 => ?_) (fun c146 => ?_)
            · skip
              refine g_iload 164 (gd rfl) rfl rfl ?_
              refine g_if_ge 167 174 (gd rfl) rfl rfl (fun c164 => ?_) (fun c164 => ?_)
              · skip
                refine g_aload_n 175 (gd rfl) rfl rfl ?_
                refine g_getA (q2 := 173) 178 (gd rfl) rfl rfl rfl rfl ?_
                refine g_iload 180 (gd rfl) rfl rfl ?_
                refine g_laload 181 (gd rfl) rfl (n := 60) rfl (in_ix i112 rfl) (fun z180 e180 => ?_)
                refine g_lstore 183 (gd rfl) rfl (Nat.le_of_ble_eq_true rfl) ?_
                refine g_aload_n 184 (gd rfl) rfl rfl ?_
                refine g_getI 187 (gd rfl) rfl rfl rfl (fun z184 e184 => ?_)
                have q184 : u_109_19 = z184 := (fr_F e_109_19 hFc77 rfl).trans e184.symm
                subst q184
                refine g_istore 189 (gd rfl) rfl (Nat.le_of_ble_eq_true rfl) ?_
                have n189 : (z91).toInt = y77_3.toInt + 1 := by have a0 := oa9 j77_2 j77_1 ro_109_84 ro_109_20 ro_109_19 i80a i80 ((in_c 0 rfl)) i112; have a9 := t_sub e107 i105 (in_c 1 rfl) rfl; have a10 := oa3 ((in_c 1 rfl)) i105 i98; have a13 := t_div e98 i88 rfl; have a14 := oa2 i88 i91; have a16 := t_add e91 i80 (in_c 1 rfl) rfl; omega
                have n189a : (z91).toInt ≤ (y77_4).toInt := by have a0 := oa9 j77_2 j77_1 ro_109_84 ro_109_20 ro_109_19 i80a i80 ((in_c 0 rfl)) i112; have a9 := t_sub e107 i105 (in_c 1 rfl) rfl; have a10 := oa3 ((in_c 1 rfl)) i105 i98; have a13 := t_div e98 i88 rfl; have a14 := oa2 i88 i91; have a16 := t_add e91 i80 (in_c 1 rfl) rfl; omega
                have n189b : QI sc77 (y77_4).toInt := by first | exact g77_0 | exact g189_0 | exact p240b
                have n189c : z88 = sc77.1 132 y77_3.toNatClampNeg := by first | exact e88 | exact g189_1 | (rw [p240d _ (by show ((y77_3.toInt.toNat : Nat) : Int) < _; have a0 := oa9 j77_2 j77_1 ro_109_84 ro_109_20 ro_109_19 i80a i80 ((in_c 0 rfl)) i112; have a9 := t_sub e107 i105 (in_c 1 rfl) rfl; have a10 := oa3 ((in_c 1 rfl)) i105 i98; have a13 := t_div e98 i88 rfl; have a14 := oa2 i88 i91; have a16 := t_add e91 i80 (in_c 1 rfl) rfl; omega)]; exact g189_1)
                exact gg_w (by first | exact Nat.le_add_right _ _ | exact gw2 | exact gw3 | exact gwe rfl | exact gwf rfl | exact gwg rfl | exact gwh rfl | omega) (gg_f (gf_cons rfl (gf_cons rfl (gf_cons rfl (gf_cons rfl (gf_cons rfl (gf_cons rfl (gf_cons rfl (gf_cons rfl (gf_cons rfl (gf_cons rfl (gf_cons rfl gf_nil))))))))))) (ct189 401 sc77 z91 y77_4 z88 z98 z107 (Int32.ofInt 0) z180 u_109_19 hIc77 hFc77 (in_w 1 2000 i91 rfl) (in_w 0 2000 i80a rfl) (in_w 0 1951 i88 rfl) (in_w 0 31 i98 rfl) (in_w (-1) 59 i112 rfl) (in_w 0 1 (in_c 0 rfl) rfl) (in_w 0 400 ro_109_19 rfl) n189 n189a n189b n189c (m_in 401 (in_w 0 400 ro_109_19 rfl) rfl)))
              · skip
                exact zn_lt c164 i112 rfl
            · skip
              refine g_iload 151 (gd rfl) rfl rfl ?_
              refine g_if_eq 154 162 (gd rfl) rfl rfl (fun c151 => ?_) (fun c151 => ?_)
              · skip
                refine g_iload 164 (gd rfl) rfl rfl ?_
                refine g_if_ge 167 174 (gd rfl) rfl rfl (fun c164 => ?_) (fun c164 => ?_)
                · skip
                  refine g_aload_n 175 (gd rfl) rfl rfl ?_
                  refine g_getA (q2 := 173) 178 (gd rfl) rfl rfl rfl rfl ?_
                  refine g_iload 180 (gd rfl) rfl rfl ?_
                  refine g_laload 181 (gd rfl) rfl (n := 60) rfl (in_ix i112 rfl) (fun z180 e180 => ?_)
                  refine g_lstore 183 (gd rfl) rfl (Nat.le_of_ble_eq_true rfl) ?_
                  refine g_aload_n 184 (gd rfl) rfl rfl ?_
                  refine g_getI 187 (gd rfl) rfl rfl rfl (fun z184 e184 => ?_)
                  have q184 : u_109_19 = z184 := (fr_F e_109_19 hFc77 rfl).trans e184.symm
                  subst q184
                  refine g_istore 189 (gd rfl) rfl (Nat.le_of_ble_eq_true rfl) ?_
                  have n189 : (z91).toInt = y77_3.toInt + 1 := by have a0 := oa9 j77_2 j77_1 ro_109_84 ro_109_20 ro_109_19 i80a i80 ((in_c 0 rfl)) i112; have a9 := t_sub e107 i105 (in_c 1 rfl) rfl; have a10 := oa3 ((in_c 1 rfl)) i105 i98; have a13 := t_div e98 i88 rfl; have a14 := oa2 i88 i91; have a16 := t_add e91 i80 (in_c 1 rfl) rfl; omega
                  have n189a : (z91).toInt ≤ (y77_4).toInt := by have a0 := oa9 j77_2 j77_1 ro_109_84 ro_109_20 ro_109_19 i80a i80 ((in_c 0 rfl)) i112; have a9 := t_sub e107 i105 (in_c 1 rfl) rfl; have a10 := oa3 ((in_c 1 rfl)) i105 i98; have a13 := t_div e98 i88 rfl; have a14 := oa2 i88 i91; have a16 := t_add e91 i80 (in_c 1 rfl) rfl; omega
                  have n189b : QI sc77 (y77_4).toInt := by first | exact g77_0 | exact g189_0 | exact p240b
                  have n189c : z88 = sc77.1 132 y77_3.toNatClampNeg := by first | exact e88 | exact g189_1 | (rw [p240d _ (by show ((y77_3.toInt.toNat : Nat) : Int) < _; have a0 := oa9 j77_2 j77_1 ro_109_84 ro_109_20 ro_109_19 i80a i80 ((in_c 0 rfl)) i112; have a9 := t_sub e107 i105 (in_c 1 rfl) rfl; have a10 := oa3 ((in_c 1 rfl)) i105 i98; have a13 := t_div e98 i88 rfl; have a14 := oa2 i88 i91; have a16 := t_add e91 i80 (in_c 1 rfl) rfl; omega)]; exact g189_1)
                  exact gg_w (by first | exact Nat.le_add_right _ _ | exact gw2 | exact gw3 | exact gwe rfl | exact gwf rfl | exact gwg rfl | exact gwh rfl | omega) (gg_f (gf_cons rfl (gf_cons rfl (gf_cons rfl (gf_cons rfl (gf_cons rfl (gf_cons rfl (gf_cons rfl (gf_cons rfl (gf_cons rfl (gf_cons rfl (gf_cons rfl gf_nil))))))))))) (ct189 401 sc77 z91 y77_4 z88 z98 z107 (Int32.ofInt 0) z180 u_109_19 hIc77 hFc77 (in_w 1 2000 i91 rfl) (in_w 0 2000 i80a rfl) (in_w 0 1951 i88 rfl) (in_w 0 31 i98 rfl) (in_w (-1) 59 i112 rfl) (in_w 0 1 (in_c 0 rfl) rfl) (in_w 0 400 ro_109_19 rfl) n189 n189a n189b n189c (m_in 401 (in_w 0 400 ro_109_19 rfl) rfl)))
                · skip
                  exact zn_lt c164 i112 rfl
              · skip
                exact zn_ne c151 (in_c 0 rfl) rfl
          · skip
            have i133 := z_eq 0 0 c133 i132 rfl
            have c133a := lc_eq e132 c133
            have i133a := lr_eq1 1 1 c133a i130 (l_c 1 rfl) rfl
            refine g_iconst 1 137 (gd rfl) rfl rfl ?_
            refine g_goto 141 (gd rfl) rfl ?_
            refine g_istore 143 (gd rfl) rfl (Nat.le_of_ble_eq_true rfl) ?_
            refine g_iload 145 (gd rfl) rfl rfl ?_
            refine g_iload_n 146 (gd rfl) rfl rfl ?_
            refine g_cmp_ne 149 162 (gd rfl) rfl rfl (fun c146 => ?_) (fun c146 => ?_)
            · skip
              refine g_iload 164 (gd rfl) rfl rfl ?_
              refine g_if_ge 167 174 (gd rfl) rfl rfl (fun c164 => ?_) (fun c164 => ?_)
              · skip
                refine g_aload_n 175 (gd rfl) rfl rfl ?_
                refine g_getA (q2 := 173) 178 (gd rfl) rfl rfl rfl rfl ?_
                refine g_iload 180 (gd rfl) rfl rfl ?_
                refine g_laload 181 (gd rfl) rfl (n := 60) rfl (in_ix i112 rfl) (fun z180 e180 => ?_)
                refine g_lstore 183 (gd rfl) rfl (Nat.le_of_ble_eq_true rfl) ?_
                refine g_aload_n 184 (gd rfl) rfl rfl ?_
                refine g_getI 187 (gd rfl) rfl rfl rfl (fun z184 e184 => ?_)
                have q184 : u_109_19 = z184 := (fr_F e_109_19 hFc77 rfl).trans e184.symm
                subst q184
                refine g_istore 189 (gd rfl) rfl (Nat.le_of_ble_eq_true rfl) ?_
                have n189 : (z91).toInt = y77_3.toInt + 1 := by have a0 := oa9 j77_2 j77_1 ro_109_84 ro_109_20 ro_109_19 i80a i80 ((in_c 1 rfl)) i112; have a9 := t_sub e107 i105 (in_c 1 rfl) rfl; have a10 := oa2 i105 i98; have a12 := t_div e98 i88 rfl; have a13 := oa2 i88 i91; have a15 := t_add e91 i80 (in_c 1 rfl) rfl; omega
                have n189a : (z91).toInt ≤ (y77_4).toInt := by have a0 := oa9 j77_2 j77_1 ro_109_84 ro_109_20 ro_109_19 i80a i80 ((in_c 1 rfl)) i112; have a9 := t_sub e107 i105 (in_c 1 rfl) rfl; have a10 := oa2 i105 i98; have a12 := t_div e98 i88 rfl; have a13 := oa2 i88 i91; have a15 := t_add e91 i80 (in_c 1 rfl) rfl; omega
                have n189b : QI sc77 (y77_4).toInt := by first | exact g77_0 | exact g189_0 | exact p240b
                have n189c : z88 = sc77.1 132 y77_3.toNatClampNeg := by first | exact e88 | exact g189_1 | (rw [p240d _ (by show ((y77_3.toInt.toNat : Nat) : Int) < _; have a0 := oa9 j77_2 j77_1 ro_109_84 ro_109_20 ro_109_19 i80a i80 ((in_c 1 rfl)) i112; have a9 := t_sub e107 i105 (in_c 1 rfl) rfl; have a10 := oa2 i105 i98; have a12 := t_div e98 i88 rfl; have a13 := oa2 i88 i91; have a15 := t_add e91 i80 (in_c 1 rfl) rfl; omega)]; exact g189_1)
                exact gg_w (by first | exact Nat.le_add_right _ _ | exact gw2 | exact gw3 | exact gwe rfl | exact gwf rfl | exact gwg rfl | exact gwh rfl | omega) (gg_f (gf_cons rfl (gf_cons rfl (gf_cons rfl (gf_cons rfl (gf_cons rfl (gf_cons rfl (gf_cons rfl (gf_cons rfl (gf_cons rfl (gf_cons rfl (gf_cons rfl gf_nil))))))))))) (ct189 401 sc77 z91 y77_4 z88 z98 z107 (Int32.ofInt 1) z180 u_109_19 hIc77 hFc77 (in_w 1 2000 i91 rfl) (in_w 0 2000 i80a rfl) (in_w 0 1951 i88 rfl) (in_w 0 31 i98 rfl) (in_w (-1) 59 i112 rfl) (in_w 0 1 (in_c 1 rfl) rfl) (in_w 0 400 ro_109_19 rfl) n189 n189a n189b n189c (m_in 401 (in_w 0 400 ro_109_19 rfl) rfl)))
              · skip
                exact zn_lt c164 i112 rfl
            · skip
              refine g_iload 151 (gd rfl) rfl rfl ?_
              refine g_if_eq 154 162 (gd rfl) rfl rfl (fun c151 => ?_) (fun c151 => ?_)
              · skip
                exact zn_eq c151 (in_c 1 rfl) rfl
              · skip
                refine g_aload_n 155 (gd rfl) rfl rfl ?_
                refine g_getA (q2 := 183) 158 (gd rfl) rfl rfl rfl rfl ?_
                refine g_iload 160 (gd rfl) rfl rfl ?_
                refine g_iaload 161 (gd rfl) rfl (n := 2000) rfl (in_ix i88 rfl) (fun z160 e160 => ?_)
                exact g_ireturn (gd rfl) rfl rfl (hP _ _ ⟨sc77, hIc77, hFc77, z160, rfl, rfl, in_w (-2147483648) 2147483647 (i_rng z160) rfl⟩)
        · skip
          have i112 := z_lt (-1) (-1) c112 i107 rfl
          refine g_aload_n 116 (gd rfl) rfl rfl ?_
          refine g_getZ 119 (gd rfl) rfl rfl rfl (fun z116 e116 => ?_)
          have q116 : u_109_84 = z116 := (fr_F e_109_84 hFc77 rfl).trans e116.symm
          subst q116
          refine g_goto 141 (gd rfl) rfl ?_
          refine g_istore 143 (gd rfl) rfl (Nat.le_of_ble_eq_true rfl) ?_
          refine g_iload 145 (gd rfl) rfl rfl ?_
          refine g_iload_n 146 (gd rfl) rfl rfl ?_
          refine g_cmp_ne 149 162 (gd rfl) rfl rfl (fun c146 => ?_) (fun c146 => ?_)
          · skip
            refine g_iload 164 (gd rfl) rfl rfl ?_
            refine g_if_ge 167 174 (gd rfl) rfl rfl (fun c164 => ?_) (fun c164 => ?_)
            · skip
              exact zn_ge c164 i112 rfl
            · skip
              refine g_aload_n 168 (gd rfl) rfl rfl ?_
              refine g_getL 171 (gd rfl) rfl rfl rfl (fun z168 e168 => ?_)
              refine g_goto 181 (gd rfl) rfl ?_
              refine g_lstore 183 (gd rfl) rfl (Nat.le_of_ble_eq_true rfl) ?_
              refine g_aload_n 184 (gd rfl) rfl rfl ?_
              refine g_getI 187 (gd rfl) rfl rfl rfl (fun z184 e184 => ?_)
              have q184 : u_109_19 = z184 := (fr_F e_109_19 hFc77 rfl).trans e184.symm
              subst q184
              refine g_istore 189 (gd rfl) rfl (Nat.le_of_ble_eq_true rfl) ?_
              have n189 : (z91).toInt = y77_3.toInt + 1 := by have a0 := oa8 j77_2 j77_1 ro_109_84 ro_109_20 ro_109_19 i80a i80 i112; have a8 := t_sub e107 i105 (in_c 1 rfl) rfl; have a9 := oa3 ((in_c 1 rfl)) i105 i98; have a12 := t_div e98 i88 rfl; have a13 := oa2 i88 i91; have a15 := t_add e91 i80 (in_c 1 rfl) rfl; omega
              have n189a : (z91).toInt ≤ (y77_4).toInt := by have a0 := oa8 j77_2 j77_1 ro_109_84 ro_109_20 ro_109_19 i80a i80 i112; have a8 := t_sub e107 i105 (in_c 1 rfl) rfl; have a9 := oa3 ((in_c 1 rfl)) i105 i98; have a12 := t_div e98 i88 rfl; have a13 := oa2 i88 i91; have a15 := t_add e91 i80 (in_c 1 rfl) rfl; omega
              have n189b : QI sc77 (y77_4).toInt := by first | exact g77_0 | exact g189_0 | exact p240b
              have n189c : z88 = sc77.1 132 y77_3.toNatClampNeg := by first | exact e88 | exact g189_1 | (rw [p240d _ (by show ((y77_3.toInt.toNat : Nat) : Int) < _; have a0 := oa8 j77_2 j77_1 ro_109_84 ro_109_20 ro_109_19 i80a i80 i112; have a8 := t_sub e107 i105 (in_c 1 rfl) rfl; have a9 := oa3 ((in_c 1 rfl)) i105 i98; have a12 := t_div e98 i88 rfl; have a13 := oa2 i88 i91; have a15 := t_add e91 i80 (in_c 1 rfl) rfl; omega)]; exact g189_1)
              exact gg_w (by first | exact Nat.le_add_right _ _ | exact gw2 | exact gw3 | exact gwe rfl | exact gwf rfl | exact gwg rfl | exact gwh rfl | omega) (gg_f (gf_cons rfl (gf_cons rfl (gf_cons rfl (gf_cons rfl (gf_cons rfl (gf_cons rfl (gf_cons rfl (gf_cons rfl (gf_cons rfl (gf_cons rfl (gf_cons rfl gf_nil))))))))))) (ct189 401 sc77 z91 y77_4 z88 z98 z107 u_109_84 z168 u_109_19 hIc77 hFc77 (in_w 1 2000 i91 rfl) (in_w 0 2000 i80a rfl) (in_w 0 1951 i88 rfl) (in_w 0 31 i98 rfl) (in_w (-1) 59 i112 rfl) (in_w 0 1 ro_109_84 rfl) (in_w 0 400 ro_109_19 rfl) n189 n189a n189b n189c (m_in 401 (in_w 0 400 ro_109_19 rfl) rfl)))
          · skip
            refine g_iload 151 (gd rfl) rfl rfl ?_
            refine g_if_eq 154 162 (gd rfl) rfl rfl (fun c151 => ?_) (fun c151 => ?_)
            · skip
              have i151 := z_eq 0 0 c151 ro_109_84 rfl
              refine g_iload 164 (gd rfl) rfl rfl ?_
              refine g_if_ge 167 174 (gd rfl) rfl rfl (fun c164 => ?_) (fun c164 => ?_)
              · skip
                exact zn_ge c164 i112 rfl
              · skip
                refine g_aload_n 168 (gd rfl) rfl rfl ?_
                refine g_getL 171 (gd rfl) rfl rfl rfl (fun z168 e168 => ?_)
                refine g_goto 181 (gd rfl) rfl ?_
                refine g_lstore 183 (gd rfl) rfl (Nat.le_of_ble_eq_true rfl) ?_
                refine g_aload_n 184 (gd rfl) rfl rfl ?_
                refine g_getI 187 (gd rfl) rfl rfl rfl (fun z184 e184 => ?_)
                have q184 : u_109_19 = z184 := (fr_F e_109_19 hFc77 rfl).trans e184.symm
                subst q184
                refine g_istore 189 (gd rfl) rfl (Nat.le_of_ble_eq_true rfl) ?_
                have n189 : (z91).toInt = y77_3.toInt + 1 := by have a0 := oa8 j77_2 j77_1 i151 ro_109_20 ro_109_19 i80a i80 i112; have a8 := t_sub e107 i105 (in_c 1 rfl) rfl; have a9 := oa3 ((in_c 1 rfl)) i105 i98; have a12 := t_div e98 i88 rfl; have a13 := oa2 i88 i91; have a15 := t_add e91 i80 (in_c 1 rfl) rfl; omega
                have n189a : (z91).toInt ≤ (y77_4).toInt := by have a0 := oa8 j77_2 j77_1 i151 ro_109_20 ro_109_19 i80a i80 i112; have a8 := t_sub e107 i105 (in_c 1 rfl) rfl; have a9 := oa3 ((in_c 1 rfl)) i105 i98; have a12 := t_div e98 i88 rfl; have a13 := oa2 i88 i91; have a15 := t_add e91 i80 (in_c 1 rfl) rfl; omega
                have n189b : QI sc77 (y77_4).toInt := by first | exact g77_0 | exact g189_0 | exact p240b
                have n189c : z88 = sc77.1 132 y77_3.toNatClampNeg := by first | exact e88 | exact g189_1 | (rw [p240d _ (by show ((y77_3.toInt.toNat : Nat) : Int) < _; have a0 := oa8 j77_2 j77_1 i151 ro_109_20 ro_109_19 i80a i80 i112; have a8 := t_sub e107 i105 (in_c 1 rfl) rfl; have a9 := oa3 ((in_c 1 rfl)) i105 i98; have a12 := t_div e98 i88 rfl; have a13 := oa2 i88 i91; have a15 := t_add e91 i80 (in_c 1 rfl) rfl; omega)]; exact g189_1)
                exact gg_w (by first | exact Nat.le_add_right _ _ | exact gw2 | exact gw3 | exact gwe rfl | exact gwf rfl | exact gwg rfl | exact gwh rfl | omega) (gg_f (gf_cons rfl (gf_cons rfl (gf_cons rfl (gf_cons rfl (gf_cons rfl (gf_cons rfl (gf_cons rfl (gf_cons rfl (gf_cons rfl (gf_cons rfl (gf_cons rfl gf_nil))))))))))) (ct189 401 sc77 z91 y77_4 z88 z98 z107 u_109_84 z168 u_109_19 hIc77 hFc77 (in_w 1 2000 i91 rfl) (in_w 0 2000 i80a rfl) (in_w 0 1951 i88 rfl) (in_w 0 31 i98 rfl) (in_w (-1) 59 i112 rfl) (in_w 0 1 i151 rfl) (in_w 0 400 ro_109_19 rfl) n189 n189a n189b n189c (m_in 401 (in_w 0 400 ro_109_19 rfl) rfl)))
            · skip
              have i151 := z_ne 1 1 c151 ro_109_84 rfl
              refine g_aload_n 155 (gd rfl) rfl rfl ?_
              refine g_getA (q2 := 183) 158 (gd rfl) rfl rfl rfl rfl ?_
              refine g_iload 160 (gd rfl) rfl rfl ?_
              refine g_iaload 161 (gd rfl) rfl (n := 2000) rfl (in_ix i88 rfl) (fun z160 e160 => ?_)
              exact g_ireturn (gd rfl) rfl rfl (hP _ _ ⟨sc77, hIc77, hFc77, z160, rfl, rfl, in_w (-2147483648) 2147483647 (i_rng z160) rfl⟩)
  have ct32 : ∀ (k32 : Nat) (sc32 : GS) (y32_3 : Int32), Inv sc32 → Fr fm_389 s sc32 → (In x1 0 31) → (In x2 0 31) → (In y32_3 0 2000) → (∀ k : Nat, (k : Int) < (y32_3).toInt → sc32.1 183 k = Int32.ofInt (-1)) → 2000 - (y32_3).toInt < (k32 : Int) → GG Z (d - 1) 389 post (gx xp) (727565603 + k32 * 900) 32 (fun j => xlook j [(0, .ref (A 109)), (1, .int x1), (2, .int x2), (3, .int y32_3)]) [] (WW Z A sc32 ++ ex) 0 0 := by
    intro k32
    induction k32 with
    | zero => intro sc32 y32_3 hIc32 hFc32 j32_1 j32_2 j32_3 g32_0 mm32; exact m_no mm32 j32_3 rfl
    | succ k32 ih32 =>
      intro sc32 y32_3 hIc32 hFc32 j32_1 j32_2 j32_3 g32_0 mm32
      refine gg_w (M := 727565603 + k32 * 900 + 900) gws ?_
      refine g_iload_n 33 (gd rfl) rfl rfl ?_
      refine g_sipush 2000 36 (gd rfl) rfl rfl ?_
      refine g_cmp_ge 39 52 (gd rfl) rfl rfl (fun c36 => ?_) (fun c36 => ?_)
      · skip
        have i36 := r_le2 2000 2000 c36 (in_c 2000 rfl) j32_3 rfl
        refine g_iconst 0 53 (gd rfl) rfl rfl ?_
        refine g_istore_n 54 (gd rfl) rfl (Nat.le_of_ble_eq_true rfl) ?_
        refine g_iconst 1 55 (gd rfl) rfl rfl ?_
        refine g_istore 57 (gd rfl) rfl (Nat.le_of_ble_eq_true rfl) ?_
        refine g_aload_n 58 (gd rfl) rfl rfl ?_
        refine g_getA (q2 := 132) 61 (gd rfl) rfl rfl rfl rfl ?_
        refine g_iconst 0 62 (gd rfl) rfl rfl ?_
        refine g_bipush 61 64 (gd rfl) rfl rfl ?_
        refine g_iload_n 65 (gd rfl) rfl rfl ?_
        refine g_imul 66 (gd rfl) rfl (fun z65 e65 => ?_)
        have i65 := in_mulc 61 0 1891 (Or.inl e65) j32_1 rfl rfl
        refine g_iastore 67 (gd rfl) rfl (n := 4000) rfl (in_ix (in_c 0 rfl) rfl) ?_
        have hI66 := inv_sI (q := 132) (j := (Int32.ofInt 0).toNatClampNeg) hIc32 rfl (in_w 0 1951 i65 rfl)
        refine g_aload_n 68 (gd rfl) rfl rfl ?_
        refine g_getA (q2 := 183) 71 (gd rfl) rfl rfl rfl rfl ?_
        refine g_bipush 61 73 (gd rfl) rfl rfl ?_
        refine g_iload_n 74 (gd rfl) rfl rfl ?_
        refine g_imul 75 (gd rfl) rfl (fun z74 e74 => ?_)
        have i74 := in_mulc 61 0 1891 (Or.inl e74) j32_1 rfl rfl
        refine g_iconst 0 76 (gd rfl) rfl rfl ?_
        refine g_iastore 77 (gd rfl) rfl (n := 2000) rfl (in_ix i74 rfl) ?_
        have hI76 := inv_sI (q := 183) (j := z74.toNatClampNeg) hI66 rfl (in_w (-2147483648) 2147483647 (in_c 0 rfl) rfl)
        have n77 : ((Int32.ofInt 0)).toInt ≤ ((Int32.ofInt 1)).toInt := by have a0 := oa9 j32_2 j32_1 ro_109_84 ro_109_20 ro_109_19 i36 ((in_c 1 rfl)) ((in_c 0 rfl)) i74; have a9 := (t_mulc 61 (Or.inl e74) j32_1 rfl).1; have a10 := in_u i65; have a11 := (t_mulc 61 (Or.inl e65) j32_1 rfl).1; omega
        have n77a : QI (sI (sI sc32 132 (Int32.ofInt 0).toNatClampNeg z65) 183 z74.toNatClampNeg (Int32.ofInt 0)) ((Int32.ofInt 1)).toInt := by first | exact g189_0 | (have hz : z74 = z65 := (by rw [e74, e65]); have hw : ((Int32.ofInt 1)).toInt = 0 + 1 := rfl; rw [hw]; exact qi_push (m := 0) (y := z65) (v := Int32.ofInt 0) (qi_0 sc32) rfl (by rw [sI_p rfl, sI_q]; rfl) (by rw [sI_q, sI_p rfl, hz]) i65 rfl (by rw [g32_0 z65.toNatClampNeg (by show ((z65.toInt.toNat : Nat) : Int) < _; have a0 := oa9 j32_2 j32_1 ro_109_84 ro_109_20 ro_109_19 i36 ((in_c 1 rfl)) ((in_c 0 rfl)) i74; have a9 := (t_mulc 61 (Or.inl e74) j32_1 rfl).1; have a10 := in_u i65; have a11 := (t_mulc 61 (Or.inl e65) j32_1 rfl).1; omega)]; decide) (by decide) (by decide))
        have m77 : 2000 - ((Int32.ofInt 0)).toInt < ((2001 : Nat) : Int) := by have a0 := oa9 j32_2 j32_1 ro_109_84 ro_109_20 ro_109_19 i36 ((in_c 1 rfl)) ((in_c 0 rfl)) i74; have a9 := (t_mulc 61 (Or.inl e74) j32_1 rfl).1; have a10 := in_u i65; have a11 := (t_mulc 61 (Or.inl e65) j32_1 rfl).1; omega
        exact gg_w (by first | exact Nat.le_add_right _ _ | exact gw2 | exact gw3 | exact gwe rfl | exact gwf rfl | exact gwg rfl | exact gwh rfl | omega) (gg_f (gf_cons rfl (gf_cons rfl (gf_cons rfl (gf_cons rfl (gf_cons rfl gf_nil))))) (ct77 2001 (sI (sI sc32 132 (Int32.ofInt 0).toNatClampNeg z65) 183 z74.toNatClampNeg (Int32.ofInt 0)) (Int32.ofInt 0) (Int32.ofInt 1) hI76 (fr_sI rfl (fr_sI rfl hFc32)) (in_w 0 31 j32_1 rfl) (in_w 0 31 j32_2 rfl) (in_w 0 2000 (in_c 0 rfl) rfl) (in_w 0 2000 (in_c 1 rfl) rfl) n77 n77a m77))
      · skip
        have i36 := r_lt1 0 1999 c36 j32_3 (in_c 2000 rfl) rfl
        refine g_aload_n 40 (gd rfl) rfl rfl ?_
        refine g_getA (q2 := 183) 43 (gd rfl) rfl rfl rfl rfl ?_
        refine g_iload_n 44 (gd rfl) rfl rfl ?_
        refine g_iconst (-1) 45 (gd rfl) rfl rfl ?_
        refine g_iastore 46 (gd rfl) rfl (n := 2000) rfl (in_ix i36 rfl) ?_
        have hI45 := inv_sI (q := 183) (j := y32_3.toNatClampNeg) hIc32 rfl (in_w (-2147483648) 2147483647 (in_c (-1) rfl) rfl)
        refine g_iinc 49 (gd rfl) rfl rfl (Nat.le_of_ble_eq_true rfl) (fun z46 e46 => ?_)
        have i46 := in_add 1 2000 e46 i36 (in_c 1 rfl) rfl rfl
        refine g_goto 32 (gd rfl) rfl ?_
        have n32 : ∀ k : Nat, (k : Int) < (z46).toInt → (sI sc32 183 y32_3.toNatClampNeg (Int32.ofInt (-1))).1 183 k = Int32.ofInt (-1) := by first | (intro k hk; exfalso; have h0 : (Int32.ofInt 0).toInt = 0 := rfl; omega) | (intro k hk; rw [sI_q]; unfold upd; have e3 : y32_3.toNatClampNeg = y32_3.toInt.toNat := rfl; by_cases c : k = y32_3.toNatClampNeg; rw [if_pos c]; (rw [if_neg c]; exact g32_0 k (by have a0 := oa7 j32_2 j32_1 ro_109_84 ro_109_20 ro_109_19 i36 i46; have a7 := t_add e46 i36 (in_c 1 rfl) rfl; have a8 := in_u ((in_c 1 rfl)); omega)))
        exact gg_w (by first | exact Nat.le_add_right _ _ | exact gw2 | exact gw3 | exact gwe rfl | exact gwf rfl | exact gwg rfl | exact gwh rfl | omega) (gg_f (gf_cons rfl (gf_cons rfl (gf_cons rfl (gf_cons rfl gf_nil)))) (ih32 (sI sc32 183 y32_3.toNatClampNeg (Int32.ofInt (-1))) z46 hI45 (fr_sI rfl hFc32) (in_w 0 31 j32_1 rfl) (in_w 0 31 j32_2 rfl) (in_w 0 2000 i46 rfl) n32 (m_up mm32 (t_add e46 i36 (in_c 1 rfl) rfl) (in_w 1 1 (in_c 1 rfl) rfl))))
  refine g_enter2 (k := 389) (N := 729367403) (by first | exact dq1 hd rfl | exact dq0 hd rfl | exact dq2 hd rfl | exact dq3 hd rfl | omega) rfl (Nat.le_of_ble_eq_true rfl) ?_
  refine g_aload_n 1 (gd rfl) rfl rfl ?_
  refine g_aload_n 2 (gd rfl) rfl rfl ?_
  refine g_iload_n 3 (gd rfl) rfl rfl ?_
  refine g_callv (X := _) (As := [.int x1]) (r := [.ref (A 109)]) (b := A 109) (q := 109) 6 (gd rfl) rfl rfl rfl rfl rfl (ww_o rfl) (Nat.le_of_ble_eq_true rfl) (mc := 0) (ms := 0) (Nat.zero_le _) (Nat.zero_le _) (P := fun v u => _) ?_ (fun e u h => h) (fun v u h => h)
  intro po3 xx3 hp3 hx3
  refine g_enter2 (k := 272) (N := 300) (by first | exact dq1 hd rfl | exact dq0 hd rfl | exact dq2 hd rfl | exact dq3 hd rfl | omega) rfl (Nat.le_of_ble_eq_true rfl) ?_
  refine g_iload_n 1 (gd rfl) rfl rfl ?_
  refine g_if_lt 4 16 (gd rfl) rfl rfl (fun c3x1 => ?_) (fun c3x1 => ?_)
  · skip
    have i3x1 := z_lt (-2147483648) (-1) c3x1 (i_rng x1) rfl
    refine g_iconst 0 17 (gd rfl) rfl rfl ?_
    refine g_ireturn (gd rfl) rfl (nb01 (in_w 0 1 (in_c 0 rfl) rfl)) (hp3 _ _ ?_)
    show GG _ _ _ _ _ _ _ _ [.int (Int32.ofInt 0), .ref (A 109)] _ _ _
    refine g_if_eq 9 21 (gd rfl) rfl rfl (fun c6 => ?_) (fun c6 => ?_)
    · skip
      refine g_iconst 0 22 (gd rfl) rfl rfl ?_
      refine g_callv (X := _) (As := [.int (Int32.ofInt 0)]) (r := []) (b := A 109) (q := 109) 25 (gd rfl) rfl rfl rfl rfl rfl (ww_o rfl) (Nat.le_of_ble_eq_true rfl) (mc := 0) (ms := 0) (Nat.zero_le _) (Nat.zero_le _) (P := fun v u => _) ?_ (fun e u h => h) (fun v u h => h)
      intro po22 xx22 hp22 hx22
      refine g_enter2 (k := 271) (N := 300) (by first | exact dq1 hd rfl | exact dq0 hd rfl | exact dq2 hd rfl | exact dq3 hd rfl | omega) rfl (Nat.le_of_ble_eq_true rfl) ?_
      refine g_aload_n 1 (gd rfl) rfl rfl ?_
      refine g_iload_n 2 (gd rfl) rfl rfl ?_
      refine g_iconst 1 3 (gd rfl) rfl rfl ?_
      refine g_callv (X := _) (As := [.int (Int32.ofInt 0), .int (Int32.ofInt 1)]) (r := []) (b := A 109) (q := 109) 6 (gd rfl) rfl rfl rfl rfl rfl (ww_o rfl) (Nat.le_of_ble_eq_true rfl) (mc := 0) (ms := 0) (Nat.zero_le _) (Nat.zero_le _) (P := fun v u => _) ?_ (fun e u h => h) (fun v u h => h)
      intro po22x3 xx22x3 hp22x3 hx22x3
      refine g_enter2 (k := 270) (N := 300) (by first | exact dq1 hd rfl | exact dq0 hd rfl | exact dq2 hd rfl | exact dq3 hd rfl | omega) rfl (Nat.le_of_ble_eq_true rfl) ?_
      refine g_aload_n 1 (gd rfl) rfl rfl ?_
      refine g_iload_n 2 (gd rfl) rfl rfl ?_
      refine g_if_ne 5 9 (gd rfl) rfl rfl (fun c22x3x2 => ?_) (fun c22x3x2 => ?_)
      · skip
        exact zn_ne c22x3x2 (in_c 0 rfl) rfl
      · skip
        refine g_iconst 1 6 (gd rfl) rfl rfl ?_
        refine g_goto 18 (gd rfl) rfl ?_
        refine g_putI 21 (gd rfl) rfl rfl rfl rfl ?_
        have hI22x3x18 := inv_sF (q := 109) (j := 0) hI rfl (in_w 0 2 (in_c 1 rfl) rfl)
        refine g_aload_n 22 (gd rfl) rfl rfl ?_
        refine g_getI 25 (gd rfl) rfl rfl rfl (fun z22x3x22 e22x3x22 => ?_)
        have q22x3x22 : (Int32.ofInt 1) = z22x3x22 := (sF_get).trans e22x3x22.symm
        subst q22x3x22
        refine g_if_le 28 32 (gd rfl) rfl rfl (fun c22x3x25 => ?_) (fun c22x3x25 => ?_)
        · skip
          exact zn_le c22x3x25 (in_c 1 rfl) rfl
        · skip
          refine g_iconst 1 29 (gd rfl) rfl rfl ?_
          refine g_goto 33 (gd rfl) rfl ?_
          refine g_ireturn (gd rfl) rfl (nb01 (in_w 0 1 (in_c 1 rfl) rfl)) (hp22x3 _ _ ?_)
          show GG _ _ _ _ _ _ _ _ [.int (Int32.ofInt 1)] _ _ _
          refine g_ireturn (gd rfl) rfl (nb01 (in_w 0 1 (in_c 1 rfl) rfl)) (hp22 _ _ ?_)
          show GG _ _ _ _ _ _ _ _ [.int (Int32.ofInt 1)] _ _ _
          refine g_if_eq 28 30 (gd rfl) rfl rfl (fun c25 => ?_) (fun c25 => ?_)
          · skip
            exact zn_eq c25 (in_c 1 rfl) rfl
          · skip
            refine g_iconst 0 29 (gd rfl) rfl rfl ?_
            exact g_ireturn (gd rfl) rfl rfl (hP _ _ ⟨(sF s 109 0 (Int32.ofInt 1)), hI22x3x18, (fr_sF rfl fr_rf), (Int32.ofInt 0), rfl, rfl, in_w (-2147483648) 2147483647 (in_c 0 rfl) rfl⟩)
    · skip
      exact zn_ne c6 (in_c 0 rfl) rfl
  · skip
    have i3x1 := z_ge 0 2147483647 c3x1 (i_rng x1) rfl
    refine g_iload_n 5 (gd rfl) rfl rfl ?_
    refine g_aload_n 6 (gd rfl) rfl rfl ?_
    refine g_getI 9 (gd rfl) rfl rfl rfl (fun z3x6 e3x6 => ?_)
    have q3x6 : u_109_20 = z3x6 := (e_109_20).trans e3x6.symm
    subst q3x6
    refine g_cmp_ge 12 16 (gd rfl) rfl rfl (fun c3x9 => ?_) (fun c3x9 => ?_)
    · skip
      refine g_iconst 0 17 (gd rfl) rfl rfl ?_
      refine g_ireturn (gd rfl) rfl (nb01 (in_w 0 1 (in_c 0 rfl) rfl)) (hp3 _ _ ?_)
      show GG _ _ _ _ _ _ _ _ [.int (Int32.ofInt 0), .ref (A 109)] _ _ _
      refine g_if_eq 9 21 (gd rfl) rfl rfl (fun c6 => ?_) (fun c6 => ?_)
      · skip
        refine g_iconst 0 22 (gd rfl) rfl rfl ?_
        refine g_callv (X := _) (As := [.int (Int32.ofInt 0)]) (r := []) (b := A 109) (q := 109) 25 (gd rfl) rfl rfl rfl rfl rfl (ww_o rfl) (Nat.le_of_ble_eq_true rfl) (mc := 0) (ms := 0) (Nat.zero_le _) (Nat.zero_le _) (P := fun v u => _) ?_ (fun e u h => h) (fun v u h => h)
        intro po22 xx22 hp22 hx22
        refine g_enter2 (k := 271) (N := 300) (by first | exact dq1 hd rfl | exact dq0 hd rfl | exact dq2 hd rfl | exact dq3 hd rfl | omega) rfl (Nat.le_of_ble_eq_true rfl) ?_
        refine g_aload_n 1 (gd rfl) rfl rfl ?_
        refine g_iload_n 2 (gd rfl) rfl rfl ?_
        refine g_iconst 1 3 (gd rfl) rfl rfl ?_
        refine g_callv (X := _) (As := [.int (Int32.ofInt 0), .int (Int32.ofInt 1)]) (r := []) (b := A 109) (q := 109) 6 (gd rfl) rfl rfl rfl rfl rfl (ww_o rfl) (Nat.le_of_ble_eq_true rfl) (mc := 0) (ms := 0) (Nat.zero_le _) (Nat.zero_le _) (P := fun v u => _) ?_ (fun e u h => h) (fun v u h => h)
        intro po22x3 xx22x3 hp22x3 hx22x3
        refine g_enter2 (k := 270) (N := 300) (by first | exact dq1 hd rfl | exact dq0 hd rfl | exact dq2 hd rfl | exact dq3 hd rfl | omega) rfl (Nat.le_of_ble_eq_true rfl) ?_
        refine g_aload_n 1 (gd rfl) rfl rfl ?_
        refine g_iload_n 2 (gd rfl) rfl rfl ?_
        refine g_if_ne 5 9 (gd rfl) rfl rfl (fun c22x3x2 => ?_) (fun c22x3x2 => ?_)
        · skip
          exact zn_ne c22x3x2 (in_c 0 rfl) rfl
        · skip
          refine g_iconst 1 6 (gd rfl) rfl rfl ?_
          refine g_goto 18 (gd rfl) rfl ?_
          refine g_putI 21 (gd rfl) rfl rfl rfl rfl ?_
          have hI22x3x18 := inv_sF (q := 109) (j := 0) hI rfl (in_w 0 2 (in_c 1 rfl) rfl)
          refine g_aload_n 22 (gd rfl) rfl rfl ?_
          refine g_getI 25 (gd rfl) rfl rfl rfl (fun z22x3x22 e22x3x22 => ?_)
          have q22x3x22 : (Int32.ofInt 1) = z22x3x22 := (sF_get).trans e22x3x22.symm
          subst q22x3x22
          refine g_if_le 28 32 (gd rfl) rfl rfl (fun c22x3x25 => ?_) (fun c22x3x25 => ?_)
          · skip
            exact zn_le c22x3x25 (in_c 1 rfl) rfl
          · skip
            refine g_iconst 1 29 (gd rfl) rfl rfl ?_
            refine g_goto 33 (gd rfl) rfl ?_
            refine g_ireturn (gd rfl) rfl (nb01 (in_w 0 1 (in_c 1 rfl) rfl)) (hp22x3 _ _ ?_)
            show GG _ _ _ _ _ _ _ _ [.int (Int32.ofInt 1)] _ _ _
            refine g_ireturn (gd rfl) rfl (nb01 (in_w 0 1 (in_c 1 rfl) rfl)) (hp22 _ _ ?_)
            show GG _ _ _ _ _ _ _ _ [.int (Int32.ofInt 1)] _ _ _
            refine g_if_eq 28 30 (gd rfl) rfl rfl (fun c25 => ?_) (fun c25 => ?_)
            · skip
              exact zn_eq c25 (in_c 1 rfl) rfl
            · skip
              refine g_iconst 0 29 (gd rfl) rfl rfl ?_
              exact g_ireturn (gd rfl) rfl rfl (hP _ _ ⟨(sF s 109 0 (Int32.ofInt 1)), hI22x3x18, (fr_sF rfl fr_rf), (Int32.ofInt 0), rfl, rfl, in_w (-2147483648) 2147483647 (in_c 0 rfl) rfl⟩)
      · skip
        exact zn_ne c6 (in_c 0 rfl) rfl
    · skip
      have i3x9 := r_lt1 0 31 c3x9 i3x1 ro_109_20 rfl
      have i3x9a := r_lt2 1 32 c3x9 i3x1 ro_109_20 rfl
      refine g_iconst 1 13 (gd rfl) rfl rfl ?_
      refine g_goto 17 (gd rfl) rfl ?_
      refine g_ireturn (gd rfl) rfl (nb01 (in_w 0 1 (in_c 1 rfl) rfl)) (hp3 _ _ ?_)
      show GG _ _ _ _ _ _ _ _ [.int (Int32.ofInt 1), .ref (A 109)] _ _ _
      refine g_if_eq 9 21 (gd rfl) rfl rfl (fun c6 => ?_) (fun c6 => ?_)
      · skip
        exact zn_eq c6 (in_c 1 rfl) rfl
      · skip
        refine g_aload_n 10 (gd rfl) rfl rfl ?_
        refine g_iload_n 11 (gd rfl) rfl rfl ?_
        refine g_callv (X := _) (As := [.int x2]) (r := [.ref (A 109)]) (b := A 109) (q := 109) 14 (gd rfl) rfl rfl rfl rfl rfl (ww_o rfl) (Nat.le_of_ble_eq_true rfl) (mc := 0) (ms := 0) (Nat.zero_le _) (Nat.zero_le _) (P := fun v u => _) ?_ (fun e u h => h) (fun v u h => h)
        intro po11 xx11 hp11 hx11
        refine g_enter2 (k := 272) (N := 300) (by first | exact dq1 hd rfl | exact dq0 hd rfl | exact dq2 hd rfl | exact dq3 hd rfl | omega) rfl (Nat.le_of_ble_eq_true rfl) ?_
        refine g_iload_n 1 (gd rfl) rfl rfl ?_
        refine g_if_lt 4 16 (gd rfl) rfl rfl (fun c11x1 => ?_) (fun c11x1 => ?_)
        · skip
          have i11x1 := z_lt (-2147483648) (-1) c11x1 (i_rng x2) rfl
          refine g_iconst 0 17 (gd rfl) rfl rfl ?_
          refine g_ireturn (gd rfl) rfl (nb01 (in_w 0 1 (in_c 0 rfl) rfl)) (hp11 _ _ ?_)
          show GG _ _ _ _ _ _ _ _ [.int (Int32.ofInt 0), .ref (A 109)] _ _ _
          refine g_if_eq 17 21 (gd rfl) rfl rfl (fun c14 => ?_) (fun c14 => ?_)
          · skip
            refine g_iconst 0 22 (gd rfl) rfl rfl ?_
            refine g_callv (X := _) (As := [.int (Int32.ofInt 0)]) (r := []) (b := A 109) (q := 109) 25 (gd rfl) rfl rfl rfl rfl rfl (ww_o rfl) (Nat.le_of_ble_eq_true rfl) (mc := 0) (ms := 0) (Nat.zero_le _) (Nat.zero_le _) (P := fun v u => _) ?_ (fun e u h => h) (fun v u h => h)
            intro po22 xx22 hp22 hx22
            refine g_enter2 (k := 271) (N := 300) (by first | exact dq1 hd rfl | exact dq0 hd rfl | exact dq2 hd rfl | exact dq3 hd rfl | omega) rfl (Nat.le_of_ble_eq_true rfl) ?_
            refine g_aload_n 1 (gd rfl) rfl rfl ?_
            refine g_iload_n 2 (gd rfl) rfl rfl ?_
            refine g_iconst 1 3 (gd rfl) rfl rfl ?_
            refine g_callv (X := _) (As := [.int (Int32.ofInt 0), .int (Int32.ofInt 1)]) (r := []) (b := A 109) (q := 109) 6 (gd rfl) rfl rfl rfl rfl rfl (ww_o rfl) (Nat.le_of_ble_eq_true rfl) (mc := 0) (ms := 0) (Nat.zero_le _) (Nat.zero_le _) (P := fun v u => _) ?_ (fun e u h => h) (fun v u h => h)
            intro po22x3 xx22x3 hp22x3 hx22x3
            refine g_enter2 (k := 270) (N := 300) (by first | exact dq1 hd rfl | exact dq0 hd rfl | exact dq2 hd rfl | exact dq3 hd rfl | omega) rfl (Nat.le_of_ble_eq_true rfl) ?_
            refine g_aload_n 1 (gd rfl) rfl rfl ?_
            refine g_iload_n 2 (gd rfl) rfl rfl ?_
            refine g_if_ne 5 9 (gd rfl) rfl rfl (fun c22x3x2 => ?_) (fun c22x3x2 => ?_)
            · skip
              exact zn_ne c22x3x2 (in_c 0 rfl) rfl
            · skip
              refine g_iconst 1 6 (gd rfl) rfl rfl ?_
              refine g_goto 18 (gd rfl) rfl ?_
              refine g_putI 21 (gd rfl) rfl rfl rfl rfl ?_
              have hI22x3x18 := inv_sF (q := 109) (j := 0) hI rfl (in_w 0 2 (in_c 1 rfl) rfl)
              refine g_aload_n 22 (gd rfl) rfl rfl ?_
              refine g_getI 25 (gd rfl) rfl rfl rfl (fun z22x3x22 e22x3x22 => ?_)
              have q22x3x22 : (Int32.ofInt 1) = z22x3x22 := (sF_get).trans e22x3x22.symm
              subst q22x3x22
              refine g_if_le 28 32 (gd rfl) rfl rfl (fun c22x3x25 => ?_) (fun c22x3x25 => ?_)
              · skip
                exact zn_le c22x3x25 (in_c 1 rfl) rfl
              · skip
                refine g_iconst 1 29 (gd rfl) rfl rfl ?_
                refine g_goto 33 (gd rfl) rfl ?_
                refine g_ireturn (gd rfl) rfl (nb01 (in_w 0 1 (in_c 1 rfl) rfl)) (hp22x3 _ _ ?_)
                show GG _ _ _ _ _ _ _ _ [.int (Int32.ofInt 1)] _ _ _
                refine g_ireturn (gd rfl) rfl (nb01 (in_w 0 1 (in_c 1 rfl) rfl)) (hp22 _ _ ?_)
                show GG _ _ _ _ _ _ _ _ [.int (Int32.ofInt 1)] _ _ _
                refine g_if_eq 28 30 (gd rfl) rfl rfl (fun c25 => ?_) (fun c25 => ?_)
                · skip
                  exact zn_eq c25 (in_c 1 rfl) rfl
                · skip
                  refine g_iconst 0 29 (gd rfl) rfl rfl ?_
                  exact g_ireturn (gd rfl) rfl rfl (hP _ _ ⟨(sF s 109 0 (Int32.ofInt 1)), hI22x3x18, (fr_sF rfl fr_rf), (Int32.ofInt 0), rfl, rfl, in_w (-2147483648) 2147483647 (in_c 0 rfl) rfl⟩)
          · skip
            exact zn_ne c14 (in_c 0 rfl) rfl
        · skip
          have i11x1 := z_ge 0 2147483647 c11x1 (i_rng x2) rfl
          refine g_iload_n 5 (gd rfl) rfl rfl ?_
          refine g_aload_n 6 (gd rfl) rfl rfl ?_
          refine g_getI 9 (gd rfl) rfl rfl rfl (fun z11x6 e11x6 => ?_)
          have q11x6 : u_109_20 = z11x6 := (e_109_20).trans e11x6.symm
          subst q11x6
          refine g_cmp_ge 12 16 (gd rfl) rfl rfl (fun c11x9 => ?_) (fun c11x9 => ?_)
          · skip
            have i11x9 := r_le2 1 2147483647 c11x9 i3x9a i11x1 rfl
            refine g_iconst 0 17 (gd rfl) rfl rfl ?_
            refine g_ireturn (gd rfl) rfl (nb01 (in_w 0 1 (in_c 0 rfl) rfl)) (hp11 _ _ ?_)
            show GG _ _ _ _ _ _ _ _ [.int (Int32.ofInt 0), .ref (A 109)] _ _ _
            refine g_if_eq 17 21 (gd rfl) rfl rfl (fun c14 => ?_) (fun c14 => ?_)
            · skip
              refine g_iconst 0 22 (gd rfl) rfl rfl ?_
              refine g_callv (X := _) (As := [.int (Int32.ofInt 0)]) (r := []) (b := A 109) (q := 109) 25 (gd rfl) rfl rfl rfl rfl rfl (ww_o rfl) (Nat.le_of_ble_eq_true rfl) (mc := 0) (ms := 0) (Nat.zero_le _) (Nat.zero_le _) (P := fun v u => _) ?_ (fun e u h => h) (fun v u h => h)
              intro po22 xx22 hp22 hx22
              refine g_enter2 (k := 271) (N := 300) (by first | exact dq1 hd rfl | exact dq0 hd rfl | exact dq2 hd rfl | exact dq3 hd rfl | omega) rfl (Nat.le_of_ble_eq_true rfl) ?_
              refine g_aload_n 1 (gd rfl) rfl rfl ?_
              refine g_iload_n 2 (gd rfl) rfl rfl ?_
              refine g_iconst 1 3 (gd rfl) rfl rfl ?_
              refine g_callv (X := _) (As := [.int (Int32.ofInt 0), .int (Int32.ofInt 1)]) (r := []) (b := A 109) (q := 109) 6 (gd rfl) rfl rfl rfl rfl rfl (ww_o rfl) (Nat.le_of_ble_eq_true rfl) (mc := 0) (ms := 0) (Nat.zero_le _) (Nat.zero_le _) (P := fun v u => _) ?_ (fun e u h => h) (fun v u h => h)
              intro po22x3 xx22x3 hp22x3 hx22x3
              refine g_enter2 (k := 270) (N := 300) (by first | exact dq1 hd rfl | exact dq0 hd rfl | exact dq2 hd rfl | exact dq3 hd rfl | omega) rfl (Nat.le_of_ble_eq_true rfl) ?_
              refine g_aload_n 1 (gd rfl) rfl rfl ?_
              refine g_iload_n 2 (gd rfl) rfl rfl ?_
              refine g_if_ne 5 9 (gd rfl) rfl rfl (fun c22x3x2 => ?_) (fun c22x3x2 => ?_)
              · skip
                exact zn_ne c22x3x2 (in_c 0 rfl) rfl
              · skip
                refine g_iconst 1 6 (gd rfl) rfl rfl ?_
                refine g_goto 18 (gd rfl) rfl ?_
                refine g_putI 21 (gd rfl) rfl rfl rfl rfl ?_
                have hI22x3x18 := inv_sF (q := 109) (j := 0) hI rfl (in_w 0 2 (in_c 1 rfl) rfl)
                refine g_aload_n 22 (gd rfl) rfl rfl ?_
                refine g_getI 25 (gd rfl) rfl rfl rfl (fun z22x3x22 e22x3x22 => ?_)
                have q22x3x22 : (Int32.ofInt 1) = z22x3x22 := (sF_get).trans e22x3x22.symm
                subst q22x3x22
                refine g_if_le 28 32 (gd rfl) rfl rfl (fun c22x3x25 => ?_) (fun c22x3x25 => ?_)
                · skip
                  exact zn_le c22x3x25 (in_c 1 rfl) rfl
                · skip
                  refine g_iconst 1 29 (gd rfl) rfl rfl ?_
                  refine g_goto 33 (gd rfl) rfl ?_
                  refine g_ireturn (gd rfl) rfl (nb01 (in_w 0 1 (in_c 1 rfl) rfl)) (hp22x3 _ _ ?_)
                  show GG _ _ _ _ _ _ _ _ [.int (Int32.ofInt 1)] _ _ _
                  refine g_ireturn (gd rfl) rfl (nb01 (in_w 0 1 (in_c 1 rfl) rfl)) (hp22 _ _ ?_)
                  show GG _ _ _ _ _ _ _ _ [.int (Int32.ofInt 1)] _ _ _
                  refine g_if_eq 28 30 (gd rfl) rfl rfl (fun c25 => ?_) (fun c25 => ?_)
                  · skip
                    exact zn_eq c25 (in_c 1 rfl) rfl
                  · skip
                    refine g_iconst 0 29 (gd rfl) rfl rfl ?_
                    exact g_ireturn (gd rfl) rfl rfl (hP _ _ ⟨(sF s 109 0 (Int32.ofInt 1)), hI22x3x18, (fr_sF rfl fr_rf), (Int32.ofInt 0), rfl, rfl, in_w (-2147483648) 2147483647 (in_c 0 rfl) rfl⟩)
            · skip
              exact zn_ne c14 (in_c 0 rfl) rfl
          · skip
            have i11x9 := r_lt1 0 31 c11x9 i11x1 i3x9a rfl
            refine g_iconst 1 13 (gd rfl) rfl rfl ?_
            refine g_goto 17 (gd rfl) rfl ?_
            refine g_ireturn (gd rfl) rfl (nb01 (in_w 0 1 (in_c 1 rfl) rfl)) (hp11 _ _ ?_)
            show GG _ _ _ _ _ _ _ _ [.int (Int32.ofInt 1), .ref (A 109)] _ _ _
            refine g_if_eq 17 21 (gd rfl) rfl rfl (fun c14 => ?_) (fun c14 => ?_)
            · skip
              exact zn_eq c14 (in_c 1 rfl) rfl
            · skip
              refine g_iconst 1 18 (gd rfl) rfl rfl ?_
              refine g_goto 22 (gd rfl) rfl ?_
              refine g_callv (X := _) (As := [.int (Int32.ofInt 1)]) (r := []) (b := A 109) (q := 109) 25 (gd rfl) rfl rfl rfl rfl rfl (ww_o rfl) (Nat.le_of_ble_eq_true rfl) (mc := 0) (ms := 0) (Nat.zero_le _) (Nat.zero_le _) (P := fun v u => _) ?_ (fun e u h => h) (fun v u h => h)
              intro po22 xx22 hp22 hx22
              refine g_enter2 (k := 271) (N := 300) (by first | exact dq1 hd rfl | exact dq0 hd rfl | exact dq2 hd rfl | exact dq3 hd rfl | omega) rfl (Nat.le_of_ble_eq_true rfl) ?_
              refine g_aload_n 1 (gd rfl) rfl rfl ?_
              refine g_iload_n 2 (gd rfl) rfl rfl ?_
              refine g_iconst 1 3 (gd rfl) rfl rfl ?_
              refine g_callv (X := _) (As := [.int (Int32.ofInt 1), .int (Int32.ofInt 1)]) (r := []) (b := A 109) (q := 109) 6 (gd rfl) rfl rfl rfl rfl rfl (ww_o rfl) (Nat.le_of_ble_eq_true rfl) (mc := 0) (ms := 0) (Nat.zero_le _) (Nat.zero_le _) (P := fun v u => _) ?_ (fun e u h => h) (fun v u h => h)
              intro po22x3 xx22x3 hp22x3 hx22x3
              refine g_enter2 (k := 270) (N := 300) (by first | exact dq1 hd rfl | exact dq0 hd rfl | exact dq2 hd rfl | exact dq3 hd rfl | omega) rfl (Nat.le_of_ble_eq_true rfl) ?_
              refine g_aload_n 1 (gd rfl) rfl rfl ?_
              refine g_iload_n 2 (gd rfl) rfl rfl ?_
              refine g_if_ne 5 9 (gd rfl) rfl rfl (fun c22x3x2 => ?_) (fun c22x3x2 => ?_)
              · skip
                refine g_iload_n 10 (gd rfl) rfl rfl ?_
                refine g_if_ne 13 17 (gd rfl) rfl rfl (fun c22x3x10 => ?_) (fun c22x3x10 => ?_)
                · skip
                  refine g_iconst 0 18 (gd rfl) rfl rfl ?_
                  refine g_putI 21 (gd rfl) rfl rfl rfl rfl ?_
                  have hI22x3x18 := inv_sF (q := 109) (j := 0) hI rfl (in_w 0 2 (in_c 0 rfl) rfl)
                  refine g_aload_n 22 (gd rfl) rfl rfl ?_
                  refine g_getI 25 (gd rfl) rfl rfl rfl (fun z22x3x22 e22x3x22 => ?_)
                  have q22x3x22 : (Int32.ofInt 0) = z22x3x22 := (sF_get).trans e22x3x22.symm
                  subst q22x3x22
                  refine g_if_le 28 32 (gd rfl) rfl rfl (fun c22x3x25 => ?_) (fun c22x3x25 => ?_)
                  · skip
                    refine g_iconst 0 33 (gd rfl) rfl rfl ?_
                    refine g_ireturn (gd rfl) rfl (nb01 (in_w 0 1 (in_c 0 rfl) rfl)) (hp22x3 _ _ ?_)
                    show GG _ _ _ _ _ _ _ _ [.int (Int32.ofInt 0)] _ _ _
                    refine g_ireturn (gd rfl) rfl (nb01 (in_w 0 1 (in_c 0 rfl) rfl)) (hp22 _ _ ?_)
                    show GG _ _ _ _ _ _ _ _ [.int (Int32.ofInt 0)] _ _ _
                    refine g_if_eq 28 30 (gd rfl) rfl rfl (fun c25 => ?_) (fun c25 => ?_)
                    · skip
                      refine g_iconst 0 31 (gd rfl) rfl rfl ?_
                      refine g_istore_n 32 (gd rfl) rfl (Nat.le_of_ble_eq_true rfl) ?_
                      have n32 : ∀ k : Nat, (k : Int) < ((Int32.ofInt 0)).toInt → (sF s 109 0 (Int32.ofInt 0)).1 183 k = Int32.ofInt (-1) := by first | (intro k hk; exfalso; have h0 : (Int32.ofInt 0).toInt = 0 := rfl; omega) | (intro k hk; rw [sI_q]; unfold upd; have e3 : y32_3.toNatClampNeg = y32_3.toInt.toNat := rfl; by_cases c : k = y32_3.toNatClampNeg; rw [if_pos c]; (rw [if_neg c]; exact g32_0 k (by have a0 := oa6 i11x9 i3x9 ro_109_84 i3x9a ro_109_19 ((in_c 0 rfl)); omega)))
                      exact gg_w (by first | exact Nat.le_of_ble_eq_true rfl | omega) (gg_f (gf_cons rfl (gf_cons rfl (gf_cons rfl (gf_cons rfl gf_nil)))) (ct32 2001 (sF s 109 0 (Int32.ofInt 0)) (Int32.ofInt 0) hI22x3x18 (fr_sF rfl fr_rf) (in_w 0 31 i3x9 rfl) (in_w 0 31 i11x9 rfl) (in_w 0 2000 (in_c 0 rfl) rfl) n32 (m_in 2001 (in_w 0 2000 (in_c 0 rfl) rfl) rfl)))
                    · skip
                      exact zn_ne c25 (in_c 0 rfl) rfl
                  · skip
                    exact zn_gt c22x3x25 (in_c 0 rfl) rfl
                · skip
                  exact zn_eq c22x3x10 (in_c 1 rfl) rfl
              · skip
                exact zn_eq c22x3x2 (in_c 1 rfl) rfl
end
section
/-! methods, by vc.py -/
def fm_392 : FM := ([], [], [(109, 23), (109, 24), (109, 27), (109, 28), (109, 29), (109, 30)], [(109, 31)])
/-- GraphHouseModel.nextOfProgram -/
theorem k_392 {Z : AmZ} {A : Nat → Nat} {s : GS} {ex : va_W} {d : Nat} {X : AmX} {u_109_27 : Int32} {u_109_22 : Int32} (hd : 4 ≤ d) (hI : Inv s) (e_109_27 : u_109_27 = s.2.2.1 109 27) (e_109_22 : u_109_22 = s.2.2.1 109 22) (p_0 : (u_109_27).toInt ≤ (u_109_22).toInt) : GC Z d 392 [.ref (A 109)] (WW Z A s ++ ex) 0 0 (fun v u => ∃ t : GS, Inv t ∧ Fr fm_392 s t ∧ ((t.2.2.1 109 27).toInt ≤ (t.2.2.1 109 22).toInt) ∧ ((s.2.2.1 109 27).toInt ≤ (t.2.2.1 109 27).toInt) ∧ ((t.2.2.1 109 28).toInt ≠ 0 → (s.2.2.1 109 27).toInt + 1 ≤ (t.2.2.1 109 27).toInt) ∧ v = none ∧ u = WW Z A t ++ ex) X := by
  intro post xp hP hX
  have ro_109_22 := inv_F hI 0 1000 rfl e_109_22
  have ct0 : ∀ (k0 : Nat) (sc0 : GS) (w0_109_27 : Int32), Inv sc0 → Fr fm_392 s sc0 → (w0_109_27 = sc0.2.2.1 109 27) → ((w0_109_27).toInt ≤ (u_109_22).toInt) → ((u_109_27).toInt ≤ (w0_109_27).toInt) → (u_109_22).toInt - (w0_109_27).toInt < (k0 : Int) → GG Z (d - 1) 392 post (gx xp) (1 + k0 * 900) 0 (fun j => xlook j [(0, .ref (A 109))]) [] (WW Z A sc0 ++ ex) 0 0 := by
    intro k0
    induction k0 with
    | zero => intro sc0 w0_109_27 hIc0 hFc0 v0_109_27 n0_0 n0_1 mm0; exfalso; have a0 := oa2 ro_109_22 ((inv_F hIc0 0 1000 rfl v0_109_27)); omega
    | succ k0 ih0 =>
      intro sc0 w0_109_27 hIc0 hFc0 v0_109_27 n0_0 n0_1 mm0
      refine gg_w (M := 1 + k0 * 900 + 900) gws ?_
      refine g_aload_n 1 (gd rfl) rfl rfl ?_
      refine g_getI 4 (gd rfl) rfl rfl rfl (fun z1 e1 => ?_)
      have q1 : w0_109_27 = z1 := (v0_109_27).trans e1.symm
      subst q1
      refine g_aload_n 5 (gd rfl) rfl rfl ?_
      refine g_getI 8 (gd rfl) rfl rfl rfl (fun z5 e5 => ?_)
      have q5 : u_109_22 = z5 := (fr_F e_109_22 hFc0 rfl).trans e5.symm
      subst q5
      refine g_cmp_ge 11 38 (gd rfl) rfl rfl (fun c8 => ?_) (fun c8 => ?_)
      · skip
        refine g_aload_n 39 (gd rfl) rfl rfl ?_
        refine g_aload_n 40 (gd rfl) rfl rfl ?_
        refine g_getI 43 (gd rfl) rfl rfl rfl (fun z40 e40 => ?_)
        have q40 : w0_109_27 = z40 := (v0_109_27).trans e40.symm
        subst q40
        refine g_putI 46 (gd rfl) rfl rfl rfl rfl ?_
        have hI43 := inv_sF (q := 109) (j := 29) hIc0 rfl (in_w 0 1000 (inv_F hIc0 0 1000 rfl v0_109_27) rfl)
        refine g_aload_n 47 (gd rfl) rfl rfl ?_
        refine g_getI 50 (gd rfl) rfl rfl rfl (fun z47 e47 => ?_)
        have q47 : w0_109_27 = z47 := (sF_ne rfl (v0_109_27)).trans e47.symm
        subst q47
        refine g_aload_n 51 (gd rfl) rfl rfl ?_
        refine g_getI 54 (gd rfl) rfl rfl rfl (fun z51 e51 => ?_)
        have q51 : u_109_22 = z51 := (sF_ne rfl (fr_F e_109_22 hFc0 rfl)).trans e51.symm
        subst q51
        refine g_cmp_ne 57 63 (gd rfl) rfl rfl (fun c54 => ?_) (fun c54 => ?_)
        · skip
          refine g_aload_n 64 (gd rfl) rfl rfl ?_
          refine g_getA (q2 := 125) 67 (gd rfl) rfl rfl rfl rfl ?_
          refine g_aload_n 68 (gd rfl) rfl rfl ?_
          refine g_getI 71 (gd rfl) rfl rfl rfl (fun z68 e68 => ?_)
          have q68 : w0_109_27 = z68 := (sF_ne rfl (v0_109_27)).trans e68.symm
          subst q68
          have i71 : In w0_109_27 0 999 := by have a0 := oa2 ro_109_22 ((inv_F hIc0 0 1000 rfl v0_109_27)); exact ⟨by omega, by omega⟩
          refine g_iaload 72 (gd rfl) rfl (n := 1000) rfl (in_ix i71 rfl) (fun z71 e71 => ?_)
          have i71a := inv_I hI43 (n := 1000) (t := 0) 0 126 rfl (in_ix i71 rfl) rfl e71
          refine g_istore_n 73 (gd rfl) rfl (Nat.le_of_ble_eq_true rfl) ?_
          refine g_aload_n 74 (gd rfl) rfl rfl ?_
          refine g_iload_n 75 (gd rfl) rfl rfl ?_
          refine g_putI 78 (gd rfl) rfl rfl rfl rfl ?_
          have hI75 := inv_sF (q := 109) (j := 30) hI43 rfl (in_w (-2147483648) 2147483647 i71a rfl)
          refine g_iload_n 79 (gd rfl) rfl rfl ?_
          refine g_calls (As := [.int z71]) (r := []) 82 (gd rfl) rfl rfl rfl rfl rfl (Nat.le_of_ble_eq_true rfl) (mc := 0) (ms := 0) (Nat.zero_le _) (Nat.zero_le _) (P := fun v u => _) ?_ (fun v u h => h)
          intro po79 xx79 hp79 hx79
          refine g_enter2 (k := 297) (N := 300) (by first | exact dq1 hd rfl | exact dq0 hd rfl | exact dq2 hd rfl | exact dq3 hd rfl | omega) rfl (Nat.le_of_ble_eq_true rfl) ?_
          refine g_iload_n 1 (gd rfl) rfl rfl ?_
          refine g_bipush 48 3 (gd rfl) rfl rfl ?_
          refine g_cmp_lt 6 16 (gd rfl) rfl rfl (fun c79x3 => ?_) (fun c79x3 => ?_)
          · skip
            have i79x3 := r_lt1 0 47 c79x3 i71a (in_c 48 rfl) rfl
            refine g_iconst 0 17 (gd rfl) rfl rfl ?_
            refine g_ireturn (gd rfl) rfl (nb01 (in_w 0 1 (in_c 0 rfl) rfl)) (hp79 _ _ ?_)
            show GG _ _ _ _ _ _ _ _ [.int (Int32.ofInt 0)] _ _ _
            refine g_if_eq 85 97 (gd rfl) rfl rfl (fun c82 => ?_) (fun c82 => ?_)
            · skip
              refine g_aload_n 98 (gd rfl) rfl rfl ?_
              refine g_iload_n 99 (gd rfl) rfl rfl ?_
              refine g_calls (As := [.int z71]) (r := [.ref (A 109)]) 102 (gd rfl) rfl rfl rfl rfl rfl (Nat.le_of_ble_eq_true rfl) (mc := 0) (ms := 0) (Nat.zero_le _) (Nat.zero_le _) (P := fun v u => _) ?_ (fun v u h => h)
              intro po99 xx99 hp99 hx99
              refine g_enter2 (k := 296) (N := 300) (by first | exact dq1 hd rfl | exact dq0 hd rfl | exact dq2 hd rfl | exact dq3 hd rfl | omega) rfl (Nat.le_of_ble_eq_true rfl) ?_
              refine g_iload_n 1 (gd rfl) rfl rfl ?_
              refine g_bipush 97 3 (gd rfl) rfl rfl ?_
              refine g_cmp_lt 6 16 (gd rfl) rfl rfl (fun c99x3 => ?_) (fun c99x3 => ?_)
              · skip
                refine g_iconst 0 17 (gd rfl) rfl rfl ?_
                refine g_ireturn (gd rfl) rfl (nb01 (in_w 0 1 (in_c 0 rfl) rfl)) (hp99 _ _ ?_)
                show GG _ _ _ _ _ _ _ _ [.int (Int32.ofInt 0), .ref (A 109)] _ _ _
                refine g_if_eq 105 109 (gd rfl) rfl rfl (fun c102 => ?_) (fun c102 => ?_)
                · skip
                  refine g_iconst 3 110 (gd rfl) rfl rfl ?_
                  refine g_putI 113 (gd rfl) rfl rfl rfl rfl ?_
                  have hI110 := inv_sF (q := 109) (j := 28) hI75 rfl (in_w (-2147483648) 2147483647 (in_c 3 rfl) rfl)
                  refine g_aload_n 114 (gd rfl) rfl rfl ?_
                  refine g_dup 115 (gd rfl) rfl rfl ?_
                  refine g_getI 118 (gd rfl) rfl rfl rfl (fun z115 e115 => ?_)
                  have q115 : w0_109_27 = z115 := (sF_ne rfl (sF_ne rfl (sF_ne rfl (v0_109_27)))).trans e115.symm
                  subst q115
                  refine g_iconst 1 119 (gd rfl) rfl rfl ?_
                  refine g_iadd 120 (gd rfl) rfl (fun z119 e119 => ?_)
                  have i119 := in_add 1 1000 e119 i71 (in_c 1 rfl) rfl rfl
                  refine g_putI 123 (gd rfl) rfl rfl rfl rfl ?_
                  have hI120 := inv_sF (q := 109) (j := 27) hI110 rfl (in_w 0 1000 i119 rfl)
                  refine g_iload_n 124 (gd rfl) rfl rfl ?_
                  refine g_bipush 59 126 (gd rfl) rfl rfl ?_
                  refine g_cmp_eq 129 171 (gd rfl) rfl rfl (fun c126 => ?_) (fun c126 => ?_)
                  · skip
                    exact n_eq c126 i79x3 (in_c 59 rfl) rfl
                  · skip
                    refine g_iload_n 130 (gd rfl) rfl rfl ?_
                    refine g_bipush 60 132 (gd rfl) rfl rfl ?_
                    refine g_cmp_eq 135 171 (gd rfl) rfl rfl (fun c132 => ?_) (fun c132 => ?_)
                    · skip
                      exact n_eq c132 i79x3 (in_c 60 rfl) rfl
                    · skip
                      refine g_iload_n 136 (gd rfl) rfl rfl ?_
                      refine g_bipush 61 138 (gd rfl) rfl rfl ?_
                      refine g_cmp_eq 141 171 (gd rfl) rfl rfl (fun c138 => ?_) (fun c138 => ?_)
                      · skip
                        exact n_eq c138 i79x3 (in_c 61 rfl) rfl
                      · skip
                        refine g_iload_n 142 (gd rfl) rfl rfl ?_
                        refine g_bipush 43 144 (gd rfl) rfl rfl ?_
                        refine g_cmp_eq 147 171 (gd rfl) rfl rfl (fun c144 => ?_) (fun c144 => ?_)
                        · skip
                          have i144 := r_eq1 43 43 c144 i79x3 (in_c 43 rfl) rfl
                          refine g_iconst 1 172 (gd rfl) rfl rfl ?_
                          refine g_goto 176 (gd rfl) rfl ?_
                          refine g_istore_n 177 (gd rfl) rfl (Nat.le_of_ble_eq_true rfl) ?_
                          refine g_aload_n 178 (gd rfl) rfl rfl ?_
                          refine g_getI 181 (gd rfl) rfl rfl rfl (fun z178 e178 => ?_)
                          have q178 : (Int32.ofInt 3) = z178 := (sF_ne rfl (sF_get)).trans e178.symm
                          subst q178
                          refine g_iconst 3 182 (gd rfl) rfl rfl ?_
                          refine g_cmp_ne 185 198 (gd rfl) rfl rfl (fun c182 => ?_) (fun c182 => ?_)
                          · skip
                            exact n_ne c182 (in_c 3 rfl) (in_c 3 rfl) rfl
                          · skip
                            refine g_iload_n 186 (gd rfl) rfl rfl ?_
                            refine g_if_ne 189 198 (gd rfl) rfl rfl (fun c186 => ?_) (fun c186 => ?_)
                            · skip
                              have n198 : (z119).toInt ≤ (u_109_22).toInt := by have a0 := oa5 ro_109_22 i71 ((in_c 1 rfl)) i144 i119; have a5 := t_add e119 i71 (in_c 1 rfl) rfl; have a6 := in_u ((in_c 3 rfl)); omega
                              have n198a : ((sF (sF (sF (sF sc0 109 29 w0_109_27) 109 30 z71) 109 28 (Int32.ofInt 3)) 109 27 z119).2.2.1 109 27).toInt ≤ ((sF (sF (sF (sF sc0 109 29 w0_109_27) 109 30 z71) 109 28 (Int32.ofInt 3)) 109 27 z119).2.2.1 109 22).toInt := by have b0 : z119 = (sF (sF (sF (sF sc0 109 29 w0_109_27) 109 30 z71) 109 28 (Int32.ofInt 3)) 109 27 z119).2.2.1 109 27 := sF_get; have b1 : u_109_22 = (sF (sF (sF (sF sc0 109 29 w0_109_27) 109 30 z71) 109 28 (Int32.ofInt 3)) 109 27 z119).2.2.1 109 22 := sF_ne rfl (sF_ne rfl (sF_ne rfl (sF_ne rfl (fr_F e_109_22 hFc0 rfl)))); rw [← b0, ← b1]; exact n198
                              have n198b : (u_109_27).toInt ≤ (z119).toInt := by have a0 := oa5 ro_109_22 i71 ((in_c 1 rfl)) i144 i119; have a5 := t_add e119 i71 (in_c 1 rfl) rfl; have a6 := in_u ((in_c 3 rfl)); omega
                              have n198c : (s.2.2.1 109 27).toInt ≤ ((sF (sF (sF (sF sc0 109 29 w0_109_27) 109 30 z71) 109 28 (Int32.ofInt 3)) 109 27 z119).2.2.1 109 27).toInt := by have b0 : z119 = (sF (sF (sF (sF sc0 109 29 w0_109_27) 109 30 z71) 109 28 (Int32.ofInt 3)) 109 27 z119).2.2.1 109 27 := sF_get; first | (rw [← b0, ← e_109_27]; exact n198b) | (rw [← b0]; exact n198b)
                              have n198d : ((Int32.ofInt 3)).toInt ≠ 0 → (u_109_27).toInt + 1 ≤ (z119).toInt := by have a0 := oa5 ro_109_22 i71 ((in_c 1 rfl)) i144 i119; have a5 := t_add e119 i71 (in_c 1 rfl) rfl; have a6 := in_u ((in_c 3 rfl)); omega
                              have n198e : ((sF (sF (sF (sF sc0 109 29 w0_109_27) 109 30 z71) 109 28 (Int32.ofInt 3)) 109 27 z119).2.2.1 109 28).toInt ≠ 0 → (s.2.2.1 109 27).toInt + 1 ≤ ((sF (sF (sF (sF sc0 109 29 w0_109_27) 109 30 z71) 109 28 (Int32.ofInt 3)) 109 27 z119).2.2.1 109 27).toInt := by have b0 : (Int32.ofInt 3) = (sF (sF (sF (sF sc0 109 29 w0_109_27) 109 30 z71) 109 28 (Int32.ofInt 3)) 109 27 z119).2.2.1 109 28 := sF_ne rfl (sF_get); have b1 : z119 = (sF (sF (sF (sF sc0 109 29 w0_109_27) 109 30 z71) 109 28 (Int32.ofInt 3)) 109 27 z119).2.2.1 109 27 := sF_get; first | (rw [← b0, ← b1, ← e_109_27]; exact n198d) | (rw [← b0, ← b1]; exact n198d)
                              exact g_return (gd rfl) rfl (hP _ _ ⟨(sF (sF (sF (sF sc0 109 29 w0_109_27) 109 30 z71) 109 28 (Int32.ofInt 3)) 109 27 z119), hI120, (fr_sF rfl (fr_sF rfl (fr_sF rfl (fr_sF rfl hFc0)))), n198a, n198c, n198e, rfl, rfl⟩)
                            · skip
                              exact zn_eq c186 (in_c 1 rfl) rfl
                        · skip
                          refine g_iload_n 148 (gd rfl) rfl rfl ?_
                          refine g_bipush 45 150 (gd rfl) rfl rfl ?_
                          refine g_cmp_eq 153 171 (gd rfl) rfl rfl (fun c150 => ?_) (fun c150 => ?_)
                          · skip
                            have i150 := r_eq1 45 45 c150 i79x3 (in_c 45 rfl) rfl
                            refine g_iconst 1 172 (gd rfl) rfl rfl ?_
                            refine g_goto 176 (gd rfl) rfl ?_
                            refine g_istore_n 177 (gd rfl) rfl (Nat.le_of_ble_eq_true rfl) ?_
                            refine g_aload_n 178 (gd rfl) rfl rfl ?_
                            refine g_getI 181 (gd rfl) rfl rfl rfl (fun z178 e178 => ?_)
                            have q178 : (Int32.ofInt 3) = z178 := (sF_ne rfl (sF_get)).trans e178.symm
                            subst q178
                            refine g_iconst 3 182 (gd rfl) rfl rfl ?_
                            refine g_cmp_ne 185 198 (gd rfl) rfl rfl (fun c182 => ?_) (fun c182 => ?_)
                            · skip
                              exact n_ne c182 (in_c 3 rfl) (in_c 3 rfl) rfl
                            · skip
                              refine g_iload_n 186 (gd rfl) rfl rfl ?_
                              refine g_if_ne 189 198 (gd rfl) rfl rfl (fun c186 => ?_) (fun c186 => ?_)
                              · skip
                                have n198 : (z119).toInt ≤ (u_109_22).toInt := by have a0 := oa5 ro_109_22 i71 ((in_c 1 rfl)) i150 i119; have a5 := t_add e119 i71 (in_c 1 rfl) rfl; have a6 := in_u ((in_c 3 rfl)); omega
                                have n198a : ((sF (sF (sF (sF sc0 109 29 w0_109_27) 109 30 z71) 109 28 (Int32.ofInt 3)) 109 27 z119).2.2.1 109 27).toInt ≤ ((sF (sF (sF (sF sc0 109 29 w0_109_27) 109 30 z71) 109 28 (Int32.ofInt 3)) 109 27 z119).2.2.1 109 22).toInt := by have b0 : z119 = (sF (sF (sF (sF sc0 109 29 w0_109_27) 109 30 z71) 109 28 (Int32.ofInt 3)) 109 27 z119).2.2.1 109 27 := sF_get; have b1 : u_109_22 = (sF (sF (sF (sF sc0 109 29 w0_109_27) 109 30 z71) 109 28 (Int32.ofInt 3)) 109 27 z119).2.2.1 109 22 := sF_ne rfl (sF_ne rfl (sF_ne rfl (sF_ne rfl (fr_F e_109_22 hFc0 rfl)))); rw [← b0, ← b1]; exact n198
                                have n198b : (u_109_27).toInt ≤ (z119).toInt := by have a0 := oa5 ro_109_22 i71 ((in_c 1 rfl)) i150 i119; have a5 := t_add e119 i71 (in_c 1 rfl) rfl; have a6 := in_u ((in_c 3 rfl)); omega
                                have n198c : (s.2.2.1 109 27).toInt ≤ ((sF (sF (sF (sF sc0 109 29 w0_109_27) 109 30 z71) 109 28 (Int32.ofInt 3)) 109 27 z119).2.2.1 109 27).toInt := by have b0 : z119 = (sF (sF (sF (sF sc0 109 29 w0_109_27) 109 30 z71) 109 28 (Int32.ofInt 3)) 109 27 z119).2.2.1 109 27 := sF_get; first | (rw [← b0, ← e_109_27]; exact n198b) | (rw [← b0]; exact n198b)
                                have n198d : ((Int32.ofInt 3)).toInt ≠ 0 → (u_109_27).toInt + 1 ≤ (z119).toInt := by have a0 := oa5 ro_109_22 i71 ((in_c 1 rfl)) i150 i119; have a5 := t_add e119 i71 (in_c 1 rfl) rfl; have a6 := in_u ((in_c 3 rfl)); omega
                                have n198e : ((sF (sF (sF (sF sc0 109 29 w0_109_27) 109 30 z71) 109 28 (Int32.ofInt 3)) 109 27 z119).2.2.1 109 28).toInt ≠ 0 → (s.2.2.1 109 27).toInt + 1 ≤ ((sF (sF (sF (sF sc0 109 29 w0_109_27) 109 30 z71) 109 28 (Int32.ofInt 3)) 109 27 z119).2.2.1 109 27).toInt := by have b0 : (Int32.ofInt 3) = (sF (sF (sF (sF sc0 109 29 w0_109_27) 109 30 z71) 109 28 (Int32.ofInt 3)) 109 27 z119).2.2.1 109 28 := sF_ne rfl (sF_get); have b1 : z119 = (sF (sF (sF (sF sc0 109 29 w0_109_27) 109 30 z71) 109 28 (Int32.ofInt 3)) 109 27 z119).2.2.1 109 27 := sF_get; first | (rw [← b0, ← b1, ← e_109_27]; exact n198d) | (rw [← b0, ← b1]; exact n198d)
                                exact g_return (gd rfl) rfl (hP _ _ ⟨(sF (sF (sF (sF sc0 109 29 w0_109_27) 109 30 z71) 109 28 (Int32.ofInt 3)) 109 27 z119), hI120, (fr_sF rfl (fr_sF rfl (fr_sF rfl (fr_sF rfl hFc0)))), n198a, n198c, n198e, rfl, rfl⟩)
                              · skip
                                exact zn_eq c186 (in_c 1 rfl) rfl
                          · skip
                            refine g_iload_n 154 (gd rfl) rfl rfl ?_
                            refine g_bipush 42 156 (gd rfl) rfl rfl ?_
                            refine g_cmp_eq 159 171 (gd rfl) rfl rfl (fun c156 => ?_) (fun c156 => ?_)
                            · skip
                              have i156 := r_eq1 42 42 c156 i79x3 (in_c 42 rfl) rfl
                              refine g_iconst 1 172 (gd rfl) rfl rfl ?_
                              refine g_goto 176 (gd rfl) rfl ?_
                              refine g_istore_n 177 (gd rfl) rfl (Nat.le_of_ble_eq_true rfl) ?_
                              refine g_aload_n 178 (gd rfl) rfl rfl ?_
                              refine g_getI 181 (gd rfl) rfl rfl rfl (fun z178 e178 => ?_)
                              have q178 : (Int32.ofInt 3) = z178 := (sF_ne rfl (sF_get)).trans e178.symm
                              subst q178
                              refine g_iconst 3 182 (gd rfl) rfl rfl ?_
                              refine g_cmp_ne 185 198 (gd rfl) rfl rfl (fun c182 => ?_) (fun c182 => ?_)
                              · skip
                                exact n_ne c182 (in_c 3 rfl) (in_c 3 rfl) rfl
                              · skip
                                refine g_iload_n 186 (gd rfl) rfl rfl ?_
                                refine g_if_ne 189 198 (gd rfl) rfl rfl (fun c186 => ?_) (fun c186 => ?_)
                                · skip
                                  have n198 : (z119).toInt ≤ (u_109_22).toInt := by have a0 := oa5 ro_109_22 i71 ((in_c 1 rfl)) i156 i119; have a5 := t_add e119 i71 (in_c 1 rfl) rfl; have a6 := in_u ((in_c 3 rfl)); omega
                                  have n198a : ((sF (sF (sF (sF sc0 109 29 w0_109_27) 109 30 z71) 109 28 (Int32.ofInt 3)) 109 27 z119).2.2.1 109 27).toInt ≤ ((sF (sF (sF (sF sc0 109 29 w0_109_27) 109 30 z71) 109 28 (Int32.ofInt 3)) 109 27 z119).2.2.1 109 22).toInt := by have b0 : z119 = (sF (sF (sF (sF sc0 109 29 w0_109_27) 109 30 z71) 109 28 (Int32.ofInt 3)) 109 27 z119).2.2.1 109 27 := sF_get; have b1 : u_109_22 = (sF (sF (sF (sF sc0 109 29 w0_109_27) 109 30 z71) 109 28 (Int32.ofInt 3)) 109 27 z119).2.2.1 109 22 := sF_ne rfl (sF_ne rfl (sF_ne rfl (sF_ne rfl (fr_F e_109_22 hFc0 rfl)))); rw [← b0, ← b1]; exact n198
                                  have n198b : (u_109_27).toInt ≤ (z119).toInt := by have a0 := oa5 ro_109_22 i71 ((in_c 1 rfl)) i156 i119; have a5 := t_add e119 i71 (in_c 1 rfl) rfl; have a6 := in_u ((in_c 3 rfl)); omega
                                  have n198c : (s.2.2.1 109 27).toInt ≤ ((sF (sF (sF (sF sc0 109 29 w0_109_27) 109 30 z71) 109 28 (Int32.ofInt 3)) 109 27 z119).2.2.1 109 27).toInt := by have b0 : z119 = (sF (sF (sF (sF sc0 109 29 w0_109_27) 109 30 z71) 109 28 (Int32.ofInt 3)) 109 27 z119).2.2.1 109 27 := sF_get; first | (rw [← b0, ← e_109_27]; exact n198b) | (rw [← b0]; exact n198b)
                                  have n198d : ((Int32.ofInt 3)).toInt ≠ 0 → (u_109_27).toInt + 1 ≤ (z119).toInt := by have a0 := oa5 ro_109_22 i71 ((in_c 1 rfl)) i156 i119; have a5 := t_add e119 i71 (in_c 1 rfl) rfl; have a6 := in_u ((in_c 3 rfl)); omega
                                  have n198e : ((sF (sF (sF (sF sc0 109 29 w0_109_27) 109 30 z71) 109 28 (Int32.ofInt 3)) 109 27 z119).2.2.1 109 28).toInt ≠ 0 → (s.2.2.1 109 27).toInt + 1 ≤ ((sF (sF (sF (sF sc0 109 29 w0_109_27) 109 30 z71) 109 28 (Int32.ofInt 3)) 109 27 z119).2.2.1 109 27).toInt := by have b0 : (Int32.ofInt 3) = (sF (sF (sF (sF sc0 109 29 w0_109_27) 109 30 z71) 109 28 (Int32.ofInt 3)) 109 27 z119).2.2.1 109 28 := sF_ne rfl (sF_get); have b1 : z119 = (sF (sF (sF (sF sc0 109 29 w0_109_27) 109 30 z71) 109 28 (Int32.ofInt 3)) 109 27 z119).2.2.1 109 27 := sF_get; first | (rw [← b0, ← b1, ← e_109_27]; exact n198d) | (rw [← b0, ← b1]; exact n198d)
                                  exact g_return (gd rfl) rfl (hP _ _ ⟨(sF (sF (sF (sF sc0 109 29 w0_109_27) 109 30 z71) 109 28 (Int32.ofInt 3)) 109 27 z119), hI120, (fr_sF rfl (fr_sF rfl (fr_sF rfl (fr_sF rfl hFc0)))), n198a, n198c, n198e, rfl, rfl⟩)
                                · skip
                                  exact zn_eq c186 (in_c 1 rfl) rfl
                            · skip
                              refine g_iload_n 160 (gd rfl) rfl rfl ?_
                              refine g_bipush 40 162 (gd rfl) rfl rfl ?_
                              refine g_cmp_eq 165 171 (gd rfl) rfl rfl (fun c162 => ?_) (fun c162 => ?_)
                              · skip
                                have i162 := r_eq1 40 40 c162 i79x3 (in_c 40 rfl) rfl
                                refine g_iconst 1 172 (gd rfl) rfl rfl ?_
                                refine g_goto 176 (gd rfl) rfl ?_
                                refine g_istore_n 177 (gd rfl) rfl (Nat.le_of_ble_eq_true rfl) ?_
                                refine g_aload_n 178 (gd rfl) rfl rfl ?_
                                refine g_getI 181 (gd rfl) rfl rfl rfl (fun z178 e178 => ?_)
                                have q178 : (Int32.ofInt 3) = z178 := (sF_ne rfl (sF_get)).trans e178.symm
                                subst q178
                                refine g_iconst 3 182 (gd rfl) rfl rfl ?_
                                refine g_cmp_ne 185 198 (gd rfl) rfl rfl (fun c182 => ?_) (fun c182 => ?_)
                                · skip
                                  exact n_ne c182 (in_c 3 rfl) (in_c 3 rfl) rfl
                                · skip
                                  refine g_iload_n 186 (gd rfl) rfl rfl ?_
                                  refine g_if_ne 189 198 (gd rfl) rfl rfl (fun c186 => ?_) (fun c186 => ?_)
                                  · skip
                                    have n198 : (z119).toInt ≤ (u_109_22).toInt := by have a0 := oa5 ro_109_22 i71 ((in_c 1 rfl)) i162 i119; have a5 := t_add e119 i71 (in_c 1 rfl) rfl; have a6 := in_u ((in_c 3 rfl)); omega
                                    have n198a : ((sF (sF (sF (sF sc0 109 29 w0_109_27) 109 30 z71) 109 28 (Int32.ofInt 3)) 109 27 z119).2.2.1 109 27).toInt ≤ ((sF (sF (sF (sF sc0 109 29 w0_109_27) 109 30 z71) 109 28 (Int32.ofInt 3)) 109 27 z119).2.2.1 109 22).toInt := by have b0 : z119 = (sF (sF (sF (sF sc0 109 29 w0_109_27) 109 30 z71) 109 28 (Int32.ofInt 3)) 109 27 z119).2.2.1 109 27 := sF_get; have b1 : u_109_22 = (sF (sF (sF (sF sc0 109 29 w0_109_27) 109 30 z71) 109 28 (Int32.ofInt 3)) 109 27 z119).2.2.1 109 22 := sF_ne rfl (sF_ne rfl (sF_ne rfl (sF_ne rfl (fr_F e_109_22 hFc0 rfl)))); rw [← b0, ← b1]; exact n198
                                    have n198b : (u_109_27).toInt ≤ (z119).toInt := by have a0 := oa5 ro_109_22 i71 ((in_c 1 rfl)) i162 i119; have a5 := t_add e119 i71 (in_c 1 rfl) rfl; have a6 := in_u ((in_c 3 rfl)); omega
                                    have n198c : (s.2.2.1 109 27).toInt ≤ ((sF (sF (sF (sF sc0 109 29 w0_109_27) 109 30 z71) 109 28 (Int32.ofInt 3)) 109 27 z119).2.2.1 109 27).toInt := by have b0 : z119 = (sF (sF (sF (sF sc0 109 29 w0_109_27) 109 30 z71) 109 28 (Int32.ofInt 3)) 109 27 z119).2.2.1 109 27 := sF_get; first | (rw [← b0, ← e_109_27]; exact n198b) | (rw [← b0]; exact n198b)
                                    have n198d : ((Int32.ofInt 3)).toInt ≠ 0 → (u_109_27).toInt + 1 ≤ (z119).toInt := by have a0 := oa5 ro_109_22 i71 ((in_c 1 rfl)) i162 i119; have a5 := t_add e119 i71 (in_c 1 rfl) rfl; have a6 := in_u ((in_c 3 rfl)); omega
                                    have n198e : ((sF (sF (sF (sF sc0 109 29 w0_109_27) 109 30 z71) 109 28 (Int32.ofInt 3)) 109 27 z119).2.2.1 109 28).toInt ≠ 0 → (s.2.2.1 109 27).toInt + 1 ≤ ((sF (sF (sF (sF sc0 109 29 w0_109_27) 109 30 z71) 109 28 (Int32.ofInt 3)) 109 27 z119).2.2.1 109 27).toInt := by have b0 : (Int32.ofInt 3) = (sF (sF (sF (sF sc0 109 29 w0_109_27) 109 30 z71) 109 28 (Int32.ofInt 3)) 109 27 z119).2.2.1 109 28 := sF_ne rfl (sF_get); have b1 : z119 = (sF (sF (sF (sF sc0 109 29 w0_109_27) 109 30 z71) 109 28 (Int32.ofInt 3)) 109 27 z119).2.2.1 109 27 := sF_get; first | (rw [← b0, ← b1, ← e_109_27]; exact n198d) | (rw [← b0, ← b1]; exact n198d)
                                    exact g_return (gd rfl) rfl (hP _ _ ⟨(sF (sF (sF (sF sc0 109 29 w0_109_27) 109 30 z71) 109 28 (Int32.ofInt 3)) 109 27 z119), hI120, (fr_sF rfl (fr_sF rfl (fr_sF rfl (fr_sF rfl hFc0)))), n198a, n198c, n198e, rfl, rfl⟩)
                                  · skip
                                    exact zn_eq c186 (in_c 1 rfl) rfl
                              · skip
                                refine g_iload_n 166 (gd rfl) rfl rfl ?_
                                refine g_bipush 41 168 (gd rfl) rfl rfl ?_
                                refine g_cmp_ne 171 175 (gd rfl) rfl rfl (fun c168 => ?_) (fun c168 => ?_)
                                · skip
                                  refine g_iconst 0 176 (gd rfl) rfl rfl ?_
                                  refine g_istore_n 177 (gd rfl) rfl (Nat.le_of_ble_eq_true rfl) ?_
                                  refine g_aload_n 178 (gd rfl) rfl rfl ?_
                                  refine g_getI 181 (gd rfl) rfl rfl rfl (fun z178 e178 => ?_)
                                  have q178 : (Int32.ofInt 3) = z178 := (sF_ne rfl (sF_get)).trans e178.symm
                                  subst q178
                                  refine g_iconst 3 182 (gd rfl) rfl rfl ?_
                                  refine g_cmp_ne 185 198 (gd rfl) rfl rfl (fun c182 => ?_) (fun c182 => ?_)
                                  · skip
                                    exact n_ne c182 (in_c 3 rfl) (in_c 3 rfl) rfl
                                  · skip
                                    refine g_iload_n 186 (gd rfl) rfl rfl ?_
                                    refine g_if_ne 189 198 (gd rfl) rfl rfl (fun c186 => ?_) (fun c186 => ?_)
                                    · skip
                                      exact zn_ne c186 (in_c 0 rfl) rfl
                                    · skip
                                      refine g_aload_n 190 (gd rfl) rfl rfl ?_
                                      refine g_iconst 1 191 (gd rfl) rfl rfl ?_
                                      refine g_aload_n 192 (gd rfl) rfl rfl ?_
                                      refine g_getI 195 (gd rfl) rfl rfl rfl (fun z192 e192 => ?_)
                                      have q192 : w0_109_27 = z192 := (sF_ne rfl (sF_ne rfl (sF_ne rfl (sF_get)))).trans e192.symm
                                      subst q192
                                      refine g_callv (X := _) (As := [.int (Int32.ofInt 1), .int w0_109_27]) (r := []) (b := A 109) (q := 109) 198 (gd rfl) rfl rfl rfl rfl rfl (ww_o rfl) (Nat.le_of_ble_eq_true rfl) (Nat.zero_le _) (Nat.zero_le _) (k_298 (by first | exact dq1 hd rfl | exact dq0 hd rfl | exact dq2 hd rfl | exact dq3 hd rfl | omega) hI120 (in_w 1 5 (in_c 1 rfl) rfl)) (fun e u h => h) (fun v u h => ?_)
                                      obtain ⟨s195, hI195, hF195, n195, rfl, rfl⟩ := h
                                      obtain ⟨z195a, e195⟩ : ∃ w, w = s195.2.2.1 109 23 := ⟨_, rfl⟩
                                      have i195a := inv_F hI195 0 9 rfl e195
                                      rw [← (show z195a = s195.2.2.1 109 23 from e195)] at n195
                                      show GG _ _ _ _ _ _ _ _ [] _ _ _
                                      have n198 : (z119).toInt ≤ (u_109_22).toInt := by have a0 := oa6 ro_109_22 i71 ((in_c 0 rfl)) i79x3 i195a i119; have a6 := t_add e119 i71 (in_c 1 rfl) rfl; have a7 := oa2 ((in_c 1 rfl)) ((in_c 3 rfl)); omega
                                      have n198a : (s195.2.2.1 109 27).toInt ≤ (s195.2.2.1 109 22).toInt := by have b0 : z119 = s195.2.2.1 109 27 := fr_F (s := (sF (sF (sF (sF sc0 109 29 w0_109_27) 109 30 z71) 109 28 (Int32.ofInt 3)) 109 27 z119)) (sF_get) hF195 rfl; have b1 : u_109_22 = s195.2.2.1 109 22 := fr_F (s := (sF (sF (sF (sF sc0 109 29 w0_109_27) 109 30 z71) 109 28 (Int32.ofInt 3)) 109 27 z119)) (sF_ne rfl (sF_ne rfl (sF_ne rfl (sF_ne rfl (fr_F e_109_22 hFc0 rfl))))) hF195 rfl; rw [← b0, ← b1]; exact n198
                                      have n198b : (u_109_27).toInt ≤ (z119).toInt := by have a0 := oa6 ro_109_22 i71 ((in_c 0 rfl)) i79x3 i195a i119; have a6 := t_add e119 i71 (in_c 1 rfl) rfl; have a7 := oa2 ((in_c 1 rfl)) ((in_c 3 rfl)); omega
                                      have n198c : (s.2.2.1 109 27).toInt ≤ (s195.2.2.1 109 27).toInt := by have b0 : z119 = s195.2.2.1 109 27 := fr_F (s := (sF (sF (sF (sF sc0 109 29 w0_109_27) 109 30 z71) 109 28 (Int32.ofInt 3)) 109 27 z119)) (sF_get) hF195 rfl; first | (rw [← b0, ← e_109_27]; exact n198b) | (rw [← b0]; exact n198b)
                                      have n198d : ((Int32.ofInt 3)).toInt ≠ 0 → (u_109_27).toInt + 1 ≤ (z119).toInt := by have a0 := oa6 ro_109_22 i71 ((in_c 0 rfl)) i79x3 i195a i119; have a6 := t_add e119 i71 (in_c 1 rfl) rfl; have a7 := oa2 ((in_c 1 rfl)) ((in_c 3 rfl)); omega
                                      have n198e : (s195.2.2.1 109 28).toInt ≠ 0 → (s.2.2.1 109 27).toInt + 1 ≤ (s195.2.2.1 109 27).toInt := by have b0 : (Int32.ofInt 3) = s195.2.2.1 109 28 := fr_F (s := (sF (sF (sF (sF sc0 109 29 w0_109_27) 109 30 z71) 109 28 (Int32.ofInt 3)) 109 27 z119)) (sF_ne rfl (sF_get)) hF195 rfl; have b1 : z119 = s195.2.2.1 109 27 := fr_F (s := (sF (sF (sF (sF sc0 109 29 w0_109_27) 109 30 z71) 109 28 (Int32.ofInt 3)) 109 27 z119)) (sF_get) hF195 rfl; first | (rw [← b0, ← b1, ← e_109_27]; exact n198d) | (rw [← b0, ← b1]; exact n198d)
                                      exact g_return (gd rfl) rfl (hP _ _ ⟨s195, hI195, (fr_tr rfl (fr_sF rfl (fr_sF rfl (fr_sF rfl (fr_sF rfl hFc0)))) hF195), n198a, n198c, n198e, rfl, rfl⟩)
                                · skip
                                  have i168 := r_eq1 41 41 c168 i79x3 (in_c 41 rfl) rfl
                                  refine g_iconst 1 172 (gd rfl) rfl rfl ?_
                                  refine g_goto 176 (gd rfl) rfl ?_
                                  refine g_istore_n 177 (gd rfl) rfl (Nat.le_of_ble_eq_true rfl) ?_
                                  refine g_aload_n 178 (gd rfl) rfl rfl ?_
                                  refine g_getI 181 (gd rfl) rfl rfl rfl (fun z178 e178 => ?_)
                                  have q178 : (Int32.ofInt 3) = z178 := (sF_ne rfl (sF_get)).trans e178.symm
                                  subst q178
                                  refine g_iconst 3 182 (gd rfl) rfl rfl ?_
                                  refine g_cmp_ne 185 198 (gd rfl) rfl rfl (fun c182 => ?_) (fun c182 => ?_)
                                  · skip
                                    exact n_ne c182 (in_c 3 rfl) (in_c 3 rfl) rfl
                                  · skip
                                    refine g_iload_n 186 (gd rfl) rfl rfl ?_
                                    refine g_if_ne 189 198 (gd rfl) rfl rfl (fun c186 => ?_) (fun c186 => ?_)
                                    · skip
                                      have n198 : (z119).toInt ≤ (u_109_22).toInt := by have a0 := oa5 ro_109_22 i71 ((in_c 1 rfl)) i168 i119; have a5 := t_add e119 i71 (in_c 1 rfl) rfl; have a6 := in_u ((in_c 3 rfl)); omega
                                      have n198a : ((sF (sF (sF (sF sc0 109 29 w0_109_27) 109 30 z71) 109 28 (Int32.ofInt 3)) 109 27 z119).2.2.1 109 27).toInt ≤ ((sF (sF (sF (sF sc0 109 29 w0_109_27) 109 30 z71) 109 28 (Int32.ofInt 3)) 109 27 z119).2.2.1 109 22).toInt := by have b0 : z119 = (sF (sF (sF (sF sc0 109 29 w0_109_27) 109 30 z71) 109 28 (Int32.ofInt 3)) 109 27 z119).2.2.1 109 27 := sF_get; have b1 : u_109_22 = (sF (sF (sF (sF sc0 109 29 w0_109_27) 109 30 z71) 109 28 (Int32.ofInt 3)) 109 27 z119).2.2.1 109 22 := sF_ne rfl (sF_ne rfl (sF_ne rfl (sF_ne rfl (fr_F e_109_22 hFc0 rfl)))); rw [← b0, ← b1]; exact n198
                                      have n198b : (u_109_27).toInt ≤ (z119).toInt := by have a0 := oa5 ro_109_22 i71 ((in_c 1 rfl)) i168 i119; have a5 := t_add e119 i71 (in_c 1 rfl) rfl; have a6 := in_u ((in_c 3 rfl)); omega
                                      have n198c : (s.2.2.1 109 27).toInt ≤ ((sF (sF (sF (sF sc0 109 29 w0_109_27) 109 30 z71) 109 28 (Int32.ofInt 3)) 109 27 z119).2.2.1 109 27).toInt := by have b0 : z119 = (sF (sF (sF (sF sc0 109 29 w0_109_27) 109 30 z71) 109 28 (Int32.ofInt 3)) 109 27 z119).2.2.1 109 27 := sF_get; first | (rw [← b0, ← e_109_27]; exact n198b) | (rw [← b0]; exact n198b)
                                      have n198d : ((Int32.ofInt 3)).toInt ≠ 0 → (u_109_27).toInt + 1 ≤ (z119).toInt := by have a0 := oa5 ro_109_22 i71 ((in_c 1 rfl)) i168 i119; have a5 := t_add e119 i71 (in_c 1 rfl) rfl; have a6 := in_u ((in_c 3 rfl)); omega
                                      have n198e : ((sF (sF (sF (sF sc0 109 29 w0_109_27) 109 30 z71) 109 28 (Int32.ofInt 3)) 109 27 z119).2.2.1 109 28).toInt ≠ 0 → (s.2.2.1 109 27).toInt + 1 ≤ ((sF (sF (sF (sF sc0 109 29 w0_109_27) 109 30 z71) 109 28 (Int32.ofInt 3)) 109 27 z119).2.2.1 109 27).toInt := by have b0 : (Int32.ofInt 3) = (sF (sF (sF (sF sc0 109 29 w0_109_27) 109 30 z71) 109 28 (Int32.ofInt 3)) 109 27 z119).2.2.1 109 28 := sF_ne rfl (sF_get); have b1 : z119 = (sF (sF (sF (sF sc0 109 29 w0_109_27) 109 30 z71) 109 28 (Int32.ofInt 3)) 109 27 z119).2.2.1 109 27 := sF_get; first | (rw [← b0, ← b1, ← e_109_27]; exact n198d) | (rw [← b0, ← b1]; exact n198d)
                                      exact g_return (gd rfl) rfl (hP _ _ ⟨(sF (sF (sF (sF sc0 109 29 w0_109_27) 109 30 z71) 109 28 (Int32.ofInt 3)) 109 27 z119), hI120, (fr_sF rfl (fr_sF rfl (fr_sF rfl (fr_sF rfl hFc0)))), n198a, n198c, n198e, rfl, rfl⟩)
                                    · skip
                                      exact zn_eq c186 (in_c 1 rfl) rfl
                · skip
                  exact zn_ne c102 (in_c 0 rfl) rfl
              · skip
                exact n_le c99x3 (in_c 97 rfl) i79x3 rfl
            · skip
              exact zn_ne c82 (in_c 0 rfl) rfl
          · skip
            have i79x3 := r_le2 48 126 c79x3 (in_c 48 rfl) i71a rfl
            refine g_iload_n 7 (gd rfl) rfl rfl ?_
            refine g_bipush 57 9 (gd rfl) rfl rfl ?_
            refine g_cmp_gt 12 16 (gd rfl) rfl rfl (fun c79x9 => ?_) (fun c79x9 => ?_)
            · skip
              have i79x9 := r_lt2 58 126 c79x9 (in_c 57 rfl) i79x3 rfl
              refine g_iconst 0 17 (gd rfl) rfl rfl ?_
              refine g_ireturn (gd rfl) rfl (nb01 (in_w 0 1 (in_c 0 rfl) rfl)) (hp79 _ _ ?_)
              show GG _ _ _ _ _ _ _ _ [.int (Int32.ofInt 0)] _ _ _
              refine g_if_eq 85 97 (gd rfl) rfl rfl (fun c82 => ?_) (fun c82 => ?_)
              · skip
                refine g_aload_n 98 (gd rfl) rfl rfl ?_
                refine g_iload_n 99 (gd rfl) rfl rfl ?_
                refine g_calls (As := [.int z71]) (r := [.ref (A 109)]) 102 (gd rfl) rfl rfl rfl rfl rfl (Nat.le_of_ble_eq_true rfl) (mc := 0) (ms := 0) (Nat.zero_le _) (Nat.zero_le _) (P := fun v u => _) ?_ (fun v u h => h)
                intro po99 xx99 hp99 hx99
                refine g_enter2 (k := 296) (N := 300) (by first | exact dq1 hd rfl | exact dq0 hd rfl | exact dq2 hd rfl | exact dq3 hd rfl | omega) rfl (Nat.le_of_ble_eq_true rfl) ?_
                refine g_iload_n 1 (gd rfl) rfl rfl ?_
                refine g_bipush 97 3 (gd rfl) rfl rfl ?_
                refine g_cmp_lt 6 16 (gd rfl) rfl rfl (fun c99x3 => ?_) (fun c99x3 => ?_)
                · skip
                  have i99x3 := r_lt1 58 96 c99x3 i79x9 (in_c 97 rfl) rfl
                  refine g_iconst 0 17 (gd rfl) rfl rfl ?_
                  refine g_ireturn (gd rfl) rfl (nb01 (in_w 0 1 (in_c 0 rfl) rfl)) (hp99 _ _ ?_)
                  show GG _ _ _ _ _ _ _ _ [.int (Int32.ofInt 0), .ref (A 109)] _ _ _
                  refine g_if_eq 105 109 (gd rfl) rfl rfl (fun c102 => ?_) (fun c102 => ?_)
                  · skip
                    refine g_iconst 3 110 (gd rfl) rfl rfl ?_
                    refine g_putI 113 (gd rfl) rfl rfl rfl rfl ?_
                    have hI110 := inv_sF (q := 109) (j := 28) hI75 rfl (in_w (-2147483648) 2147483647 (in_c 3 rfl) rfl)
                    refine g_aload_n 114 (gd rfl) rfl rfl ?_
                    refine g_dup 115 (gd rfl) rfl rfl ?_
                    refine g_getI 118 (gd rfl) rfl rfl rfl (fun z115 e115 => ?_)
                    have q115 : w0_109_27 = z115 := (sF_ne rfl (sF_ne rfl (sF_ne rfl (v0_109_27)))).trans e115.symm
                    subst q115
                    refine g_iconst 1 119 (gd rfl) rfl rfl ?_
                    refine g_iadd 120 (gd rfl) rfl (fun z119 e119 => ?_)
                    have i119 := in_add 1 1000 e119 i71 (in_c 1 rfl) rfl rfl
                    refine g_putI 123 (gd rfl) rfl rfl rfl rfl ?_
                    have hI120 := inv_sF (q := 109) (j := 27) hI110 rfl (in_w 0 1000 i119 rfl)
                    refine g_iload_n 124 (gd rfl) rfl rfl ?_
                    refine g_bipush 59 126 (gd rfl) rfl rfl ?_
                    refine g_cmp_eq 129 171 (gd rfl) rfl rfl (fun c126 => ?_) (fun c126 => ?_)
                    · skip
                      have i126 := r_eq1 59 59 c126 i99x3 (in_c 59 rfl) rfl
                      refine g_iconst 1 172 (gd rfl) rfl rfl ?_
                      refine g_goto 176 (gd rfl) rfl ?_
                      refine g_istore_n 177 (gd rfl) rfl (Nat.le_of_ble_eq_true rfl) ?_
                      refine g_aload_n 178 (gd rfl) rfl rfl ?_
                      refine g_getI 181 (gd rfl) rfl rfl rfl (fun z178 e178 => ?_)
                      have q178 : (Int32.ofInt 3) = z178 := (sF_ne rfl (sF_get)).trans e178.symm
                      subst q178
                      refine g_iconst 3 182 (gd rfl) rfl rfl ?_
                      refine g_cmp_ne 185 198 (gd rfl) rfl rfl (fun c182 => ?_) (fun c182 => ?_)
                      · skip
                        exact n_ne c182 (in_c 3 rfl) (in_c 3 rfl) rfl
                      · skip
                        refine g_iload_n 186 (gd rfl) rfl rfl ?_
                        refine g_if_ne 189 198 (gd rfl) rfl rfl (fun c186 => ?_) (fun c186 => ?_)
                        · skip
                          have n198 : (z119).toInt ≤ (u_109_22).toInt := by have a0 := oa5 ro_109_22 i71 ((in_c 1 rfl)) i126 i119; have a5 := t_add e119 i71 (in_c 1 rfl) rfl; have a6 := in_u ((in_c 3 rfl)); omega
                          have n198a : ((sF (sF (sF (sF sc0 109 29 w0_109_27) 109 30 z71) 109 28 (Int32.ofInt 3)) 109 27 z119).2.2.1 109 27).toInt ≤ ((sF (sF (sF (sF sc0 109 29 w0_109_27) 109 30 z71) 109 28 (Int32.ofInt 3)) 109 27 z119).2.2.1 109 22).toInt := by have b0 : z119 = (sF (sF (sF (sF sc0 109 29 w0_109_27) 109 30 z71) 109 28 (Int32.ofInt 3)) 109 27 z119).2.2.1 109 27 := sF_get; have b1 : u_109_22 = (sF (sF (sF (sF sc0 109 29 w0_109_27) 109 30 z71) 109 28 (Int32.ofInt 3)) 109 27 z119).2.2.1 109 22 := sF_ne rfl (sF_ne rfl (sF_ne rfl (sF_ne rfl (fr_F e_109_22 hFc0 rfl)))); rw [← b0, ← b1]; exact n198
                          have n198b : (u_109_27).toInt ≤ (z119).toInt := by have a0 := oa5 ro_109_22 i71 ((in_c 1 rfl)) i126 i119; have a5 := t_add e119 i71 (in_c 1 rfl) rfl; have a6 := in_u ((in_c 3 rfl)); omega
                          have n198c : (s.2.2.1 109 27).toInt ≤ ((sF (sF (sF (sF sc0 109 29 w0_109_27) 109 30 z71) 109 28 (Int32.ofInt 3)) 109 27 z119).2.2.1 109 27).toInt := by have b0 : z119 = (sF (sF (sF (sF sc0 109 29 w0_109_27) 109 30 z71) 109 28 (Int32.ofInt 3)) 109 27 z119).2.2.1 109 27 := sF_get; first | (rw [← b0, ← e_109_27]; exact n198b) | (rw [← b0]; exact n198b)
                          have n198d : ((Int32.ofInt 3)).toInt ≠ 0 → (u_109_27).toInt + 1 ≤ (z119).toInt := by have a0 := oa5 ro_109_22 i71 ((in_c 1 rfl)) i126 i119; have a5 := t_add e119 i71 (in_c 1 rfl) rfl; have a6 := in_u ((in_c 3 rfl)); omega
                          have n198e : ((sF (sF (sF (sF sc0 109 29 w0_109_27) 109 30 z71) 109 28 (Int32.ofInt 3)) 109 27 z119).2.2.1 109 28).toInt ≠ 0 → (s.2.2.1 109 27).toInt + 1 ≤ ((sF (sF (sF (sF sc0 109 29 w0_109_27) 109 30 z71) 109 28 (Int32.ofInt 3)) 109 27 z119).2.2.1 109 27).toInt := by have b0 : (Int32.ofInt 3) = (sF (sF (sF (sF sc0 109 29 w0_109_27) 109 30 z71) 109 28 (Int32.ofInt 3)) 109 27 z119).2.2.1 109 28 := sF_ne rfl (sF_get); have b1 : z119 = (sF (sF (sF (sF sc0 109 29 w0_109_27) 109 30 z71) 109 28 (Int32.ofInt 3)) 109 27 z119).2.2.1 109 27 := sF_get; first | (rw [← b0, ← b1, ← e_109_27]; exact n198d) | (rw [← b0, ← b1]; exact n198d)
                          exact g_return (gd rfl) rfl (hP _ _ ⟨(sF (sF (sF (sF sc0 109 29 w0_109_27) 109 30 z71) 109 28 (Int32.ofInt 3)) 109 27 z119), hI120, (fr_sF rfl (fr_sF rfl (fr_sF rfl (fr_sF rfl hFc0)))), n198a, n198c, n198e, rfl, rfl⟩)
                        · skip
                          exact zn_eq c186 (in_c 1 rfl) rfl
                    · skip
                      refine g_iload_n 130 (gd rfl) rfl rfl ?_
                      refine g_bipush 60 132 (gd rfl) rfl rfl ?_
                      refine g_cmp_eq 135 171 (gd rfl) rfl rfl (fun c132 => ?_) (fun c132 => ?_)
                      · skip
                        have i132 := r_eq1 60 60 c132 i99x3 (in_c 60 rfl) rfl
                        refine g_iconst 1 172 (gd rfl) rfl rfl ?_
                        refine g_goto 176 (gd rfl) rfl ?_
                        refine g_istore_n 177 (gd rfl) rfl (Nat.le_of_ble_eq_true rfl) ?_
                        refine g_aload_n 178 (gd rfl) rfl rfl ?_
                        refine g_getI 181 (gd rfl) rfl rfl rfl (fun z178 e178 => ?_)
                        have q178 : (Int32.ofInt 3) = z178 := (sF_ne rfl (sF_get)).trans e178.symm
                        subst q178
                        refine g_iconst 3 182 (gd rfl) rfl rfl ?_
                        refine g_cmp_ne 185 198 (gd rfl) rfl rfl (fun c182 => ?_) (fun c182 => ?_)
                        · skip
                          exact n_ne c182 (in_c 3 rfl) (in_c 3 rfl) rfl
                        · skip
                          refine g_iload_n 186 (gd rfl) rfl rfl ?_
                          refine g_if_ne 189 198 (gd rfl) rfl rfl (fun c186 => ?_) (fun c186 => ?_)
                          · skip
                            have n198 : (z119).toInt ≤ (u_109_22).toInt := by have a0 := oa5 ro_109_22 i71 ((in_c 1 rfl)) i132 i119; have a5 := t_add e119 i71 (in_c 1 rfl) rfl; have a6 := in_u ((in_c 3 rfl)); omega
                            have n198a : ((sF (sF (sF (sF sc0 109 29 w0_109_27) 109 30 z71) 109 28 (Int32.ofInt 3)) 109 27 z119).2.2.1 109 27).toInt ≤ ((sF (sF (sF (sF sc0 109 29 w0_109_27) 109 30 z71) 109 28 (Int32.ofInt 3)) 109 27 z119).2.2.1 109 22).toInt := by have b0 : z119 = (sF (sF (sF (sF sc0 109 29 w0_109_27) 109 30 z71) 109 28 (Int32.ofInt 3)) 109 27 z119).2.2.1 109 27 := sF_get; have b1 : u_109_22 = (sF (sF (sF (sF sc0 109 29 w0_109_27) 109 30 z71) 109 28 (Int32.ofInt 3)) 109 27 z119).2.2.1 109 22 := sF_ne rfl (sF_ne rfl (sF_ne rfl (sF_ne rfl (fr_F e_109_22 hFc0 rfl)))); rw [← b0, ← b1]; exact n198
                            have n198b : (u_109_27).toInt ≤ (z119).toInt := by have a0 := oa5 ro_109_22 i71 ((in_c 1 rfl)) i132 i119; have a5 := t_add e119 i71 (in_c 1 rfl) rfl; have a6 := in_u ((in_c 3 rfl)); omega
                            have n198c : (s.2.2.1 109 27).toInt ≤ ((sF (sF (sF (sF sc0 109 29 w0_109_27) 109 30 z71) 109 28 (Int32.ofInt 3)) 109 27 z119).2.2.1 109 27).toInt := by have b0 : z119 = (sF (sF (sF (sF sc0 109 29 w0_109_27) 109 30 z71) 109 28 (Int32.ofInt 3)) 109 27 z119).2.2.1 109 27 := sF_get; first | (rw [← b0, ← e_109_27]; exact n198b) | (rw [← b0]; exact n198b)
                            have n198d : ((Int32.ofInt 3)).toInt ≠ 0 → (u_109_27).toInt + 1 ≤ (z119).toInt := by have a0 := oa5 ro_109_22 i71 ((in_c 1 rfl)) i132 i119; have a5 := t_add e119 i71 (in_c 1 rfl) rfl; have a6 := in_u ((in_c 3 rfl)); omega
                            have n198e : ((sF (sF (sF (sF sc0 109 29 w0_109_27) 109 30 z71) 109 28 (Int32.ofInt 3)) 109 27 z119).2.2.1 109 28).toInt ≠ 0 → (s.2.2.1 109 27).toInt + 1 ≤ ((sF (sF (sF (sF sc0 109 29 w0_109_27) 109 30 z71) 109 28 (Int32.ofInt 3)) 109 27 z119).2.2.1 109 27).toInt := by have b0 : (Int32.ofInt 3) = (sF (sF (sF (sF sc0 109 29 w0_109_27) 109 30 z71) 109 28 (Int32.ofInt 3)) 109 27 z119).2.2.1 109 28 := sF_ne rfl (sF_get); have b1 : z119 = (sF (sF (sF (sF sc0 109 29 w0_109_27) 109 30 z71) 109 28 (Int32.ofInt 3)) 109 27 z119).2.2.1 109 27 := sF_get; first | (rw [← b0, ← b1, ← e_109_27]; exact n198d) | (rw [← b0, ← b1]; exact n198d)
                            exact g_return (gd rfl) rfl (hP _ _ ⟨(sF (sF (sF (sF sc0 109 29 w0_109_27) 109 30 z71) 109 28 (Int32.ofInt 3)) 109 27 z119), hI120, (fr_sF rfl (fr_sF rfl (fr_sF rfl (fr_sF rfl hFc0)))), n198a, n198c, n198e, rfl, rfl⟩)
                          · skip
                            exact zn_eq c186 (in_c 1 rfl) rfl
                      · skip
                        refine g_iload_n 136 (gd rfl) rfl rfl ?_
                        refine g_bipush 61 138 (gd rfl) rfl rfl ?_
                        refine g_cmp_eq 141 171 (gd rfl) rfl rfl (fun c138 => ?_) (fun c138 => ?_)
                        · skip
                          have i138 := r_eq1 61 61 c138 i99x3 (in_c 61 rfl) rfl
                          refine g_iconst 1 172 (gd rfl) rfl rfl ?_
                          refine g_goto 176 (gd rfl) rfl ?_
                          refine g_istore_n 177 (gd rfl) rfl (Nat.le_of_ble_eq_true rfl) ?_
                          refine g_aload_n 178 (gd rfl) rfl rfl ?_
                          refine g_getI 181 (gd rfl) rfl rfl rfl (fun z178 e178 => ?_)
                          have q178 : (Int32.ofInt 3) = z178 := (sF_ne rfl (sF_get)).trans e178.symm
                          subst q178
                          refine g_iconst 3 182 (gd rfl) rfl rfl ?_
                          refine g_cmp_ne 185 198 (gd rfl) rfl rfl (fun c182 => ?_) (fun c182 => ?_)
                          · skip
                            exact n_ne c182 (in_c 3 rfl) (in_c 3 rfl) rfl
                          · skip
                            refine g_iload_n 186 (gd rfl) rfl rfl ?_
                            refine g_if_ne 189 198 (gd rfl) rfl rfl (fun c186 => ?_) (fun c186 => ?_)
                            · skip
                              have n198 : (z119).toInt ≤ (u_109_22).toInt := by have a0 := oa5 ro_109_22 i71 ((in_c 1 rfl)) i138 i119; have a5 := t_add e119 i71 (in_c 1 rfl) rfl; have a6 := in_u ((in_c 3 rfl)); omega
                              have n198a : ((sF (sF (sF (sF sc0 109 29 w0_109_27) 109 30 z71) 109 28 (Int32.ofInt 3)) 109 27 z119).2.2.1 109 27).toInt ≤ ((sF (sF (sF (sF sc0 109 29 w0_109_27) 109 30 z71) 109 28 (Int32.ofInt 3)) 109 27 z119).2.2.1 109 22).toInt := by have b0 : z119 = (sF (sF (sF (sF sc0 109 29 w0_109_27) 109 30 z71) 109 28 (Int32.ofInt 3)) 109 27 z119).2.2.1 109 27 := sF_get; have b1 : u_109_22 = (sF (sF (sF (sF sc0 109 29 w0_109_27) 109 30 z71) 109 28 (Int32.ofInt 3)) 109 27 z119).2.2.1 109 22 := sF_ne rfl (sF_ne rfl (sF_ne rfl (sF_ne rfl (fr_F e_109_22 hFc0 rfl)))); rw [← b0, ← b1]; exact n198
                              have n198b : (u_109_27).toInt ≤ (z119).toInt := by have a0 := oa5 ro_109_22 i71 ((in_c 1 rfl)) i138 i119; have a5 := t_add e119 i71 (in_c 1 rfl) rfl; have a6 := in_u ((in_c 3 rfl)); omega
                              have n198c : (s.2.2.1 109 27).toInt ≤ ((sF (sF (sF (sF sc0 109 29 w0_109_27) 109 30 z71) 109 28 (Int32.ofInt 3)) 109 27 z119).2.2.1 109 27).toInt := by have b0 : z119 = (sF (sF (sF (sF sc0 109 29 w0_109_27) 109 30 z71) 109 28 (Int32.ofInt 3)) 109 27 z119).2.2.1 109 27 := sF_get; first | (rw [← b0, ← e_109_27]; exact n198b) | (rw [← b0]; exact n198b)
                              have n198d : ((Int32.ofInt 3)).toInt ≠ 0 → (u_109_27).toInt + 1 ≤ (z119).toInt := by have a0 := oa5 ro_109_22 i71 ((in_c 1 rfl)) i138 i119; have a5 := t_add e119 i71 (in_c 1 rfl) rfl; have a6 := in_u ((in_c 3 rfl)); omega
                              have n198e : ((sF (sF (sF (sF sc0 109 29 w0_109_27) 109 30 z71) 109 28 (Int32.ofInt 3)) 109 27 z119).2.2.1 109 28).toInt ≠ 0 → (s.2.2.1 109 27).toInt + 1 ≤ ((sF (sF (sF (sF sc0 109 29 w0_109_27) 109 30 z71) 109 28 (Int32.ofInt 3)) 109 27 z119).2.2.1 109 27).toInt := by have b0 : (Int32.ofInt 3) = (sF (sF (sF (sF sc0 109 29 w0_109_27) 109 30 z71) 109 28 (Int32.ofInt 3)) 109 27 z119).2.2.1 109 28 := sF_ne rfl (sF_get); have b1 : z119 = (sF (sF (sF (sF sc0 109 29 w0_109_27) 109 30 z71) 109 28 (Int32.ofInt 3)) 109 27 z119).2.2.1 109 27 := sF_get; first | (rw [← b0, ← b1, ← e_109_27]; exact n198d) | (rw [← b0, ← b1]; exact n198d)
                              exact g_return (gd rfl) rfl (hP _ _ ⟨(sF (sF (sF (sF sc0 109 29 w0_109_27) 109 30 z71) 109 28 (Int32.ofInt 3)) 109 27 z119), hI120, (fr_sF rfl (fr_sF rfl (fr_sF rfl (fr_sF rfl hFc0)))), n198a, n198c, n198e, rfl, rfl⟩)
                            · skip
                              exact zn_eq c186 (in_c 1 rfl) rfl
                        · skip
                          refine g_iload_n 142 (gd rfl) rfl rfl ?_
                          refine g_bipush 43 144 (gd rfl) rfl rfl ?_
                          refine g_cmp_eq 147 171 (gd rfl) rfl rfl (fun c144 => ?_) (fun c144 => ?_)
                          · skip
                            exact n_eq c144 i99x3 (in_c 43 rfl) rfl
                          · skip
                            refine g_iload_n 148 (gd rfl) rfl rfl ?_
                            refine g_bipush 45 150 (gd rfl) rfl rfl ?_
                            refine g_cmp_eq 153 171 (gd rfl) rfl rfl (fun c150 => ?_) (fun c150 => ?_)
                            · skip
                              exact n_eq c150 i99x3 (in_c 45 rfl) rfl
                            · skip
                              refine g_iload_n 154 (gd rfl) rfl rfl ?_
                              refine g_bipush 42 156 (gd rfl) rfl rfl ?_
                              refine g_cmp_eq 159 171 (gd rfl) rfl rfl (fun c156 => ?_) (fun c156 => ?_)
                              · skip
                                exact n_eq c156 i99x3 (in_c 42 rfl) rfl
                              · skip
                                refine g_iload_n 160 (gd rfl) rfl rfl ?_
                                refine g_bipush 40 162 (gd rfl) rfl rfl ?_
                                refine g_cmp_eq 165 171 (gd rfl) rfl rfl (fun c162 => ?_) (fun c162 => ?_)
                                · skip
                                  exact n_eq c162 i99x3 (in_c 40 rfl) rfl
                                · skip
                                  refine g_iload_n 166 (gd rfl) rfl rfl ?_
                                  refine g_bipush 41 168 (gd rfl) rfl rfl ?_
                                  refine g_cmp_ne 171 175 (gd rfl) rfl rfl (fun c168 => ?_) (fun c168 => ?_)
                                  · skip
                                    refine g_iconst 0 176 (gd rfl) rfl rfl ?_
                                    refine g_istore_n 177 (gd rfl) rfl (Nat.le_of_ble_eq_true rfl) ?_
                                    refine g_aload_n 178 (gd rfl) rfl rfl ?_
                                    refine g_getI 181 (gd rfl) rfl rfl rfl (fun z178 e178 => ?_)
                                    have q178 : (Int32.ofInt 3) = z178 := (sF_ne rfl (sF_get)).trans e178.symm
                                    subst q178
                                    refine g_iconst 3 182 (gd rfl) rfl rfl ?_
                                    refine g_cmp_ne 185 198 (gd rfl) rfl rfl (fun c182 => ?_) (fun c182 => ?_)
                                    · skip
                                      exact n_ne c182 (in_c 3 rfl) (in_c 3 rfl) rfl
                                    · skip
                                      refine g_iload_n 186 (gd rfl) rfl rfl ?_
                                      refine g_if_ne 189 198 (gd rfl) rfl rfl (fun c186 => ?_) (fun c186 => ?_)
                                      · skip
                                        exact zn_ne c186 (in_c 0 rfl) rfl
                                      · skip
                                        refine g_aload_n 190 (gd rfl) rfl rfl ?_
                                        refine g_iconst 1 191 (gd rfl) rfl rfl ?_
                                        refine g_aload_n 192 (gd rfl) rfl rfl ?_
                                        refine g_getI 195 (gd rfl) rfl rfl rfl (fun z192 e192 => ?_)
                                        have q192 : w0_109_27 = z192 := (sF_ne rfl (sF_ne rfl (sF_ne rfl (sF_get)))).trans e192.symm
                                        subst q192
                                        refine g_callv (X := _) (As := [.int (Int32.ofInt 1), .int w0_109_27]) (r := []) (b := A 109) (q := 109) 198 (gd rfl) rfl rfl rfl rfl rfl (ww_o rfl) (Nat.le_of_ble_eq_true rfl) (Nat.zero_le _) (Nat.zero_le _) (k_298 (by first | exact dq1 hd rfl | exact dq0 hd rfl | exact dq2 hd rfl | exact dq3 hd rfl | omega) hI120 (in_w 1 5 (in_c 1 rfl) rfl)) (fun e u h => h) (fun v u h => ?_)
                                        obtain ⟨s195, hI195, hF195, n195, rfl, rfl⟩ := h
                                        obtain ⟨z195a, e195⟩ : ∃ w, w = s195.2.2.1 109 23 := ⟨_, rfl⟩
                                        have i195a := inv_F hI195 0 9 rfl e195
                                        rw [← (show z195a = s195.2.2.1 109 23 from e195)] at n195
                                        show GG _ _ _ _ _ _ _ _ [] _ _ _
                                        have n198 : (z119).toInt ≤ (u_109_22).toInt := by have a0 := oa6 ro_109_22 i71 ((in_c 0 rfl)) i99x3 i195a i119; have a6 := t_add e119 i71 (in_c 1 rfl) rfl; have a7 := oa2 ((in_c 1 rfl)) ((in_c 3 rfl)); omega
                                        have n198a : (s195.2.2.1 109 27).toInt ≤ (s195.2.2.1 109 22).toInt := by have b0 : z119 = s195.2.2.1 109 27 := fr_F (s := (sF (sF (sF (sF sc0 109 29 w0_109_27) 109 30 z71) 109 28 (Int32.ofInt 3)) 109 27 z119)) (sF_get) hF195 rfl; have b1 : u_109_22 = s195.2.2.1 109 22 := fr_F (s := (sF (sF (sF (sF sc0 109 29 w0_109_27) 109 30 z71) 109 28 (Int32.ofInt 3)) 109 27 z119)) (sF_ne rfl (sF_ne rfl (sF_ne rfl (sF_ne rfl (fr_F e_109_22 hFc0 rfl))))) hF195 rfl; rw [← b0, ← b1]; exact n198
                                        have n198b : (u_109_27).toInt ≤ (z119).toInt := by have a0 := oa6 ro_109_22 i71 ((in_c 0 rfl)) i99x3 i195a i119; have a6 := t_add e119 i71 (in_c 1 rfl) rfl; have a7 := oa2 ((in_c 1 rfl)) ((in_c 3 rfl)); omega
                                        have n198c : (s.2.2.1 109 27).toInt ≤ (s195.2.2.1 109 27).toInt := by have b0 : z119 = s195.2.2.1 109 27 := fr_F (s := (sF (sF (sF (sF sc0 109 29 w0_109_27) 109 30 z71) 109 28 (Int32.ofInt 3)) 109 27 z119)) (sF_get) hF195 rfl; first | (rw [← b0, ← e_109_27]; exact n198b) | (rw [← b0]; exact n198b)
                                        have n198d : ((Int32.ofInt 3)).toInt ≠ 0 → (u_109_27).toInt + 1 ≤ (z119).toInt := by have a0 := oa6 ro_109_22 i71 ((in_c 0 rfl)) i99x3 i195a i119; have a6 := t_add e119 i71 (in_c 1 rfl) rfl; have a7 := oa2 ((in_c 1 rfl)) ((in_c 3 rfl)); omega
                                        have n198e : (s195.2.2.1 109 28).toInt ≠ 0 → (s.2.2.1 109 27).toInt + 1 ≤ (s195.2.2.1 109 27).toInt := by have b0 : (Int32.ofInt 3) = s195.2.2.1 109 28 := fr_F (s := (sF (sF (sF (sF sc0 109 29 w0_109_27) 109 30 z71) 109 28 (Int32.ofInt 3)) 109 27 z119)) (sF_ne rfl (sF_get)) hF195 rfl; have b1 : z119 = s195.2.2.1 109 27 := fr_F (s := (sF (sF (sF (sF sc0 109 29 w0_109_27) 109 30 z71) 109 28 (Int32.ofInt 3)) 109 27 z119)) (sF_get) hF195 rfl; first | (rw [← b0, ← b1, ← e_109_27]; exact n198d) | (rw [← b0, ← b1]; exact n198d)
                                        exact g_return (gd rfl) rfl (hP _ _ ⟨s195, hI195, (fr_tr rfl (fr_sF rfl (fr_sF rfl (fr_sF rfl (fr_sF rfl hFc0)))) hF195), n198a, n198c, n198e, rfl, rfl⟩)
                                  · skip
                                    exact n_eq c168 i99x3 (in_c 41 rfl) rfl
                  · skip
                    exact zn_ne c102 (in_c 0 rfl) rfl
                · skip
                  have i99x3 := r_le2 97 126 c99x3 (in_c 97 rfl) i79x9 rfl
                  refine g_iload_n 7 (gd rfl) rfl rfl ?_
                  refine g_bipush 122 9 (gd rfl) rfl rfl ?_
                  refine g_cmp_gt 12 16 (gd rfl) rfl rfl (fun c99x9 => ?_) (fun c99x9 => ?_)
                  · skip
                    have i99x9 := r_lt2 123 126 c99x9 (in_c 122 rfl) i99x3 rfl
                    refine g_iconst 0 17 (gd rfl) rfl rfl ?_
                    refine g_ireturn (gd rfl) rfl (nb01 (in_w 0 1 (in_c 0 rfl) rfl)) (hp99 _ _ ?_)
                    show GG _ _ _ _ _ _ _ _ [.int (Int32.ofInt 0), .ref (A 109)] _ _ _
                    refine g_if_eq 105 109 (gd rfl) rfl rfl (fun c102 => ?_) (fun c102 => ?_)
                    · skip
                      refine g_iconst 3 110 (gd rfl) rfl rfl ?_
                      refine g_putI 113 (gd rfl) rfl rfl rfl rfl ?_
                      have hI110 := inv_sF (q := 109) (j := 28) hI75 rfl (in_w (-2147483648) 2147483647 (in_c 3 rfl) rfl)
                      refine g_aload_n 114 (gd rfl) rfl rfl ?_
                      refine g_dup 115 (gd rfl) rfl rfl ?_
                      refine g_getI 118 (gd rfl) rfl rfl rfl (fun z115 e115 => ?_)
                      have q115 : w0_109_27 = z115 := (sF_ne rfl (sF_ne rfl (sF_ne rfl (v0_109_27)))).trans e115.symm
                      subst q115
                      refine g_iconst 1 119 (gd rfl) rfl rfl ?_
                      refine g_iadd 120 (gd rfl) rfl (fun z119 e119 => ?_)
                      have i119 := in_add 1 1000 e119 i71 (in_c 1 rfl) rfl rfl
                      refine g_putI 123 (gd rfl) rfl rfl rfl rfl ?_
                      have hI120 := inv_sF (q := 109) (j := 27) hI110 rfl (in_w 0 1000 i119 rfl)
                      refine g_iload_n 124 (gd rfl) rfl rfl ?_
                      refine g_bipush 59 126 (gd rfl) rfl rfl ?_
                      refine g_cmp_eq 129 171 (gd rfl) rfl rfl (fun c126 => ?_) (fun c126 => ?_)
                      · skip
                        exact n_eq c126 i99x9 (in_c 59 rfl) rfl
                      · skip
                        refine g_iload_n 130 (gd rfl) rfl rfl ?_
                        refine g_bipush 60 132 (gd rfl) rfl rfl ?_
                        refine g_cmp_eq 135 171 (gd rfl) rfl rfl (fun c132 => ?_) (fun c132 => ?_)
                        · skip
                          exact n_eq c132 i99x9 (in_c 60 rfl) rfl
                        · skip
                          refine g_iload_n 136 (gd rfl) rfl rfl ?_
                          refine g_bipush 61 138 (gd rfl) rfl rfl ?_
                          refine g_cmp_eq 141 171 (gd rfl) rfl rfl (fun c138 => ?_) (fun c138 => ?_)
                          · skip
                            exact n_eq c138 i99x9 (in_c 61 rfl) rfl
                          · skip
                            refine g_iload_n 142 (gd rfl) rfl rfl ?_
                            refine g_bipush 43 144 (gd rfl) rfl rfl ?_
                            refine g_cmp_eq 147 171 (gd rfl) rfl rfl (fun c144 => ?_) (fun c144 => ?_)
                            · skip
                              exact n_eq c144 i99x9 (in_c 43 rfl) rfl
                            · skip
                              refine g_iload_n 148 (gd rfl) rfl rfl ?_
                              refine g_bipush 45 150 (gd rfl) rfl rfl ?_
                              refine g_cmp_eq 153 171 (gd rfl) rfl rfl (fun c150 => ?_) (fun c150 => ?_)
                              · skip
                                exact n_eq c150 i99x9 (in_c 45 rfl) rfl
                              · skip
                                refine g_iload_n 154 (gd rfl) rfl rfl ?_
                                refine g_bipush 42 156 (gd rfl) rfl rfl ?_
                                refine g_cmp_eq 159 171 (gd rfl) rfl rfl (fun c156 => ?_) (fun c156 => ?_)
                                · skip
                                  exact n_eq c156 i99x9 (in_c 42 rfl) rfl
                                · skip
                                  refine g_iload_n 160 (gd rfl) rfl rfl ?_
                                  refine g_bipush 40 162 (gd rfl) rfl rfl ?_
                                  refine g_cmp_eq 165 171 (gd rfl) rfl rfl (fun c162 => ?_) (fun c162 => ?_)
                                  · skip
                                    exact n_eq c162 i99x9 (in_c 40 rfl) rfl
                                  · skip
                                    refine g_iload_n 166 (gd rfl) rfl rfl ?_
                                    refine g_bipush 41 168 (gd rfl) rfl rfl ?_
                                    refine g_cmp_ne 171 175 (gd rfl) rfl rfl (fun c168 => ?_) (fun c168 => ?_)
                                    · skip
                                      refine g_iconst 0 176 (gd rfl) rfl rfl ?_
                                      refine g_istore_n 177 (gd rfl) rfl (Nat.le_of_ble_eq_true rfl) ?_
                                      refine g_aload_n 178 (gd rfl) rfl rfl ?_
                                      refine g_getI 181 (gd rfl) rfl rfl rfl (fun z178 e178 => ?_)
                                      have q178 : (Int32.ofInt 3) = z178 := (sF_ne rfl (sF_get)).trans e178.symm
                                      subst q178
                                      refine g_iconst 3 182 (gd rfl) rfl rfl ?_
                                      refine g_cmp_ne 185 198 (gd rfl) rfl rfl (fun c182 => ?_) (fun c182 => ?_)
                                      · skip
                                        exact n_ne c182 (in_c 3 rfl) (in_c 3 rfl) rfl
                                      · skip
                                        refine g_iload_n 186 (gd rfl) rfl rfl ?_
                                        refine g_if_ne 189 198 (gd rfl) rfl rfl (fun c186 => ?_) (fun c186 => ?_)
                                        · skip
                                          exact zn_ne c186 (in_c 0 rfl) rfl
                                        · skip
                                          refine g_aload_n 190 (gd rfl) rfl rfl ?_
                                          refine g_iconst 1 191 (gd rfl) rfl rfl ?_
                                          refine g_aload_n 192 (gd rfl) rfl rfl ?_
                                          refine g_getI 195 (gd rfl) rfl rfl rfl (fun z192 e192 => ?_)
                                          have q192 : w0_109_27 = z192 := (sF_ne rfl (sF_ne rfl (sF_ne rfl (sF_get)))).trans e192.symm
                                          subst q192
                                          refine g_callv (X := _) (As := [.int (Int32.ofInt 1), .int w0_109_27]) (r := []) (b := A 109) (q := 109) 198 (gd rfl) rfl rfl rfl rfl rfl (ww_o rfl) (Nat.le_of_ble_eq_true rfl) (Nat.zero_le _) (Nat.zero_le _) (k_298 (by first | exact dq1 hd rfl | exact dq0 hd rfl | exact dq2 hd rfl | exact dq3 hd rfl | omega) hI120 (in_w 1 5 (in_c 1 rfl) rfl)) (fun e u h => h) (fun v u h => ?_)
                                          obtain ⟨s195, hI195, hF195, n195, rfl, rfl⟩ := h
                                          obtain ⟨z195a, e195⟩ : ∃ w, w = s195.2.2.1 109 23 := ⟨_, rfl⟩
                                          have i195a := inv_F hI195 0 9 rfl e195
                                          rw [← (show z195a = s195.2.2.1 109 23 from e195)] at n195
                                          show GG _ _ _ _ _ _ _ _ [] _ _ _
                                          have n198 : (z119).toInt ≤ (u_109_22).toInt := by have a0 := oa6 ro_109_22 i71 ((in_c 0 rfl)) i99x9 i195a i119; have a6 := t_add e119 i71 (in_c 1 rfl) rfl; have a7 := oa2 ((in_c 1 rfl)) ((in_c 3 rfl)); omega
                                          have n198a : (s195.2.2.1 109 27).toInt ≤ (s195.2.2.1 109 22).toInt := by have b0 : z119 = s195.2.2.1 109 27 := fr_F (s := (sF (sF (sF (sF sc0 109 29 w0_109_27) 109 30 z71) 109 28 (Int32.ofInt 3)) 109 27 z119)) (sF_get) hF195 rfl; have b1 : u_109_22 = s195.2.2.1 109 22 := fr_F (s := (sF (sF (sF (sF sc0 109 29 w0_109_27) 109 30 z71) 109 28 (Int32.ofInt 3)) 109 27 z119)) (sF_ne rfl (sF_ne rfl (sF_ne rfl (sF_ne rfl (fr_F e_109_22 hFc0 rfl))))) hF195 rfl; rw [← b0, ← b1]; exact n198
                                          have n198b : (u_109_27).toInt ≤ (z119).toInt := by have a0 := oa6 ro_109_22 i71 ((in_c 0 rfl)) i99x9 i195a i119; have a6 := t_add e119 i71 (in_c 1 rfl) rfl; have a7 := oa2 ((in_c 1 rfl)) ((in_c 3 rfl)); omega
                                          have n198c : (s.2.2.1 109 27).toInt ≤ (s195.2.2.1 109 27).toInt := by have b0 : z119 = s195.2.2.1 109 27 := fr_F (s := (sF (sF (sF (sF sc0 109 29 w0_109_27) 109 30 z71) 109 28 (Int32.ofInt 3)) 109 27 z119)) (sF_get) hF195 rfl; first | (rw [← b0, ← e_109_27]; exact n198b) | (rw [← b0]; exact n198b)
                                          have n198d : ((Int32.ofInt 3)).toInt ≠ 0 → (u_109_27).toInt + 1 ≤ (z119).toInt := by have a0 := oa6 ro_109_22 i71 ((in_c 0 rfl)) i99x9 i195a i119; have a6 := t_add e119 i71 (in_c 1 rfl) rfl; have a7 := oa2 ((in_c 1 rfl)) ((in_c 3 rfl)); omega
                                          have n198e : (s195.2.2.1 109 28).toInt ≠ 0 → (s.2.2.1 109 27).toInt + 1 ≤ (s195.2.2.1 109 27).toInt := by have b0 : (Int32.ofInt 3) = s195.2.2.1 109 28 := fr_F (s := (sF (sF (sF (sF sc0 109 29 w0_109_27) 109 30 z71) 109 28 (Int32.ofInt 3)) 109 27 z119)) (sF_ne rfl (sF_get)) hF195 rfl; have b1 : z119 = s195.2.2.1 109 27 := fr_F (s := (sF (sF (sF (sF sc0 109 29 w0_109_27) 109 30 z71) 109 28 (Int32.ofInt 3)) 109 27 z119)) (sF_get) hF195 rfl; first | (rw [← b0, ← b1, ← e_109_27]; exact n198d) | (rw [← b0, ← b1]; exact n198d)
                                          exact g_return (gd rfl) rfl (hP _ _ ⟨s195, hI195, (fr_tr rfl (fr_sF rfl (fr_sF rfl (fr_sF rfl (fr_sF rfl hFc0)))) hF195), n198a, n198c, n198e, rfl, rfl⟩)
                                    · skip
                                      exact n_eq c168 i99x9 (in_c 41 rfl) rfl
                    · skip
                      exact zn_ne c102 (in_c 0 rfl) rfl
                  · skip
                    have i99x9 := r_le1 97 122 c99x9 i99x3 (in_c 122 rfl) rfl
                    refine g_iconst 1 13 (gd rfl) rfl rfl ?_
                    refine g_goto 17 (gd rfl) rfl ?_
                    refine g_ireturn (gd rfl) rfl (nb01 (in_w 0 1 (in_c 1 rfl) rfl)) (hp99 _ _ ?_)
                    show GG _ _ _ _ _ _ _ _ [.int (Int32.ofInt 1), .ref (A 109)] _ _ _
                    refine g_if_eq 105 109 (gd rfl) rfl rfl (fun c102 => ?_) (fun c102 => ?_)
                    · skip
                      exact zn_eq c102 (in_c 1 rfl) rfl
                    · skip
                      refine g_iconst 1 106 (gd rfl) rfl rfl ?_
                      refine g_goto 110 (gd rfl) rfl ?_
                      refine g_putI 113 (gd rfl) rfl rfl rfl rfl ?_
                      have hI110 := inv_sF (q := 109) (j := 28) hI75 rfl (in_w (-2147483648) 2147483647 (in_c 1 rfl) rfl)
                      refine g_aload_n 114 (gd rfl) rfl rfl ?_
                      refine g_dup 115 (gd rfl) rfl rfl ?_
                      refine g_getI 118 (gd rfl) rfl rfl rfl (fun z115 e115 => ?_)
                      have q115 : w0_109_27 = z115 := (sF_ne rfl (sF_ne rfl (sF_ne rfl (v0_109_27)))).trans e115.symm
                      subst q115
                      refine g_iconst 1 119 (gd rfl) rfl rfl ?_
                      refine g_iadd 120 (gd rfl) rfl (fun z119 e119 => ?_)
                      have i119 := in_add 1 1000 e119 i71 (in_c 1 rfl) rfl rfl
                      refine g_putI 123 (gd rfl) rfl rfl rfl rfl ?_
                      have hI120 := inv_sF (q := 109) (j := 27) hI110 rfl (in_w 0 1000 i119 rfl)
                      refine g_iload_n 124 (gd rfl) rfl rfl ?_
                      refine g_bipush 59 126 (gd rfl) rfl rfl ?_
                      refine g_cmp_eq 129 171 (gd rfl) rfl rfl (fun c126 => ?_) (fun c126 => ?_)
                      · skip
                        exact n_eq c126 i99x9 (in_c 59 rfl) rfl
                      · skip
                        refine g_iload_n 130 (gd rfl) rfl rfl ?_
                        refine g_bipush 60 132 (gd rfl) rfl rfl ?_
                        refine g_cmp_eq 135 171 (gd rfl) rfl rfl (fun c132 => ?_) (fun c132 => ?_)
                        · skip
                          exact n_eq c132 i99x9 (in_c 60 rfl) rfl
                        · skip
                          refine g_iload_n 136 (gd rfl) rfl rfl ?_
                          refine g_bipush 61 138 (gd rfl) rfl rfl ?_
                          refine g_cmp_eq 141 171 (gd rfl) rfl rfl (fun c138 => ?_) (fun c138 => ?_)
                          · skip
                            exact n_eq c138 i99x9 (in_c 61 rfl) rfl
                          · skip
                            refine g_iload_n 142 (gd rfl) rfl rfl ?_
                            refine g_bipush 43 144 (gd rfl) rfl rfl ?_
                            refine g_cmp_eq 147 171 (gd rfl) rfl rfl (fun c144 => ?_) (fun c144 => ?_)
                            · skip
                              exact n_eq c144 i99x9 (in_c 43 rfl) rfl
                            · skip
                              refine g_iload_n 148 (gd rfl) rfl rfl ?_
                              refine g_bipush 45 150 (gd rfl) rfl rfl ?_
                              refine g_cmp_eq 153 171 (gd rfl) rfl rfl (fun c150 => ?_) (fun c150 => ?_)
                              · skip
                                exact n_eq c150 i99x9 (in_c 45 rfl) rfl
                              · skip
                                refine g_iload_n 154 (gd rfl) rfl rfl ?_
                                refine g_bipush 42 156 (gd rfl) rfl rfl ?_
                                refine g_cmp_eq 159 171 (gd rfl) rfl rfl (fun c156 => ?_) (fun c156 => ?_)
                                · skip
                                  exact n_eq c156 i99x9 (in_c 42 rfl) rfl
                                · skip
                                  refine g_iload_n 160 (gd rfl) rfl rfl ?_
                                  refine g_bipush 40 162 (gd rfl) rfl rfl ?_
                                  refine g_cmp_eq 165 171 (gd rfl) rfl rfl (fun c162 => ?_) (fun c162 => ?_)
                                  · skip
                                    exact n_eq c162 i99x9 (in_c 40 rfl) rfl
                                  · skip
                                    refine g_iload_n 166 (gd rfl) rfl rfl ?_
                                    refine g_bipush 41 168 (gd rfl) rfl rfl ?_
                                    refine g_cmp_ne 171 175 (gd rfl) rfl rfl (fun c168 => ?_) (fun c168 => ?_)
                                    · skip
                                      refine g_iconst 0 176 (gd rfl) rfl rfl ?_
                                      refine g_istore_n 177 (gd rfl) rfl (Nat.le_of_ble_eq_true rfl) ?_
                                      refine g_aload_n 178 (gd rfl) rfl rfl ?_
                                      refine g_getI 181 (gd rfl) rfl rfl rfl (fun z178 e178 => ?_)
                                      have q178 : (Int32.ofInt 1) = z178 := (sF_ne rfl (sF_get)).trans e178.symm
                                      subst q178
                                      refine g_iconst 3 182 (gd rfl) rfl rfl ?_
                                      refine g_cmp_ne 185 198 (gd rfl) rfl rfl (fun c182 => ?_) (fun c182 => ?_)
                                      · skip
                                        have n198 : (z119).toInt ≤ (u_109_22).toInt := by have a0 := oa5 ro_109_22 i71 ((in_c 0 rfl)) i99x9 i119; have a5 := t_add e119 i71 (in_c 1 rfl) rfl; have a6 := in_u ((in_c 1 rfl)); omega
                                        have n198a : ((sF (sF (sF (sF sc0 109 29 w0_109_27) 109 30 z71) 109 28 (Int32.ofInt 1)) 109 27 z119).2.2.1 109 27).toInt ≤ ((sF (sF (sF (sF sc0 109 29 w0_109_27) 109 30 z71) 109 28 (Int32.ofInt 1)) 109 27 z119).2.2.1 109 22).toInt := by have b0 : z119 = (sF (sF (sF (sF sc0 109 29 w0_109_27) 109 30 z71) 109 28 (Int32.ofInt 1)) 109 27 z119).2.2.1 109 27 := sF_get; have b1 : u_109_22 = (sF (sF (sF (sF sc0 109 29 w0_109_27) 109 30 z71) 109 28 (Int32.ofInt 1)) 109 27 z119).2.2.1 109 22 := sF_ne rfl (sF_ne rfl (sF_ne rfl (sF_ne rfl (fr_F e_109_22 hFc0 rfl)))); rw [← b0, ← b1]; exact n198
                                        have n198b : (u_109_27).toInt ≤ (z119).toInt := by have a0 := oa5 ro_109_22 i71 ((in_c 0 rfl)) i99x9 i119; have a5 := t_add e119 i71 (in_c 1 rfl) rfl; have a6 := in_u ((in_c 1 rfl)); omega
                                        have n198c : (s.2.2.1 109 27).toInt ≤ ((sF (sF (sF (sF sc0 109 29 w0_109_27) 109 30 z71) 109 28 (Int32.ofInt 1)) 109 27 z119).2.2.1 109 27).toInt := by have b0 : z119 = (sF (sF (sF (sF sc0 109 29 w0_109_27) 109 30 z71) 109 28 (Int32.ofInt 1)) 109 27 z119).2.2.1 109 27 := sF_get; first | (rw [← b0, ← e_109_27]; exact n198b) | (rw [← b0]; exact n198b)
                                        have n198d : ((Int32.ofInt 1)).toInt ≠ 0 → (u_109_27).toInt + 1 ≤ (z119).toInt := by have a0 := oa5 ro_109_22 i71 ((in_c 0 rfl)) i99x9 i119; have a5 := t_add e119 i71 (in_c 1 rfl) rfl; have a6 := in_u ((in_c 1 rfl)); omega
                                        have n198e : ((sF (sF (sF (sF sc0 109 29 w0_109_27) 109 30 z71) 109 28 (Int32.ofInt 1)) 109 27 z119).2.2.1 109 28).toInt ≠ 0 → (s.2.2.1 109 27).toInt + 1 ≤ ((sF (sF (sF (sF sc0 109 29 w0_109_27) 109 30 z71) 109 28 (Int32.ofInt 1)) 109 27 z119).2.2.1 109 27).toInt := by have b0 : (Int32.ofInt 1) = (sF (sF (sF (sF sc0 109 29 w0_109_27) 109 30 z71) 109 28 (Int32.ofInt 1)) 109 27 z119).2.2.1 109 28 := sF_ne rfl (sF_get); have b1 : z119 = (sF (sF (sF (sF sc0 109 29 w0_109_27) 109 30 z71) 109 28 (Int32.ofInt 1)) 109 27 z119).2.2.1 109 27 := sF_get; first | (rw [← b0, ← b1, ← e_109_27]; exact n198d) | (rw [← b0, ← b1]; exact n198d)
                                        exact g_return (gd rfl) rfl (hP _ _ ⟨(sF (sF (sF (sF sc0 109 29 w0_109_27) 109 30 z71) 109 28 (Int32.ofInt 1)) 109 27 z119), hI120, (fr_sF rfl (fr_sF rfl (fr_sF rfl (fr_sF rfl hFc0)))), n198a, n198c, n198e, rfl, rfl⟩)
                                      · skip
                                        exact n_eq c182 (in_c 1 rfl) (in_c 3 rfl) rfl
                                    · skip
                                      exact n_eq c168 i99x9 (in_c 41 rfl) rfl
              · skip
                exact zn_ne c82 (in_c 0 rfl) rfl
            · skip
              have i79x9 := r_le1 48 57 c79x9 i79x3 (in_c 57 rfl) rfl
              refine g_iconst 1 13 (gd rfl) rfl rfl ?_
              refine g_goto 17 (gd rfl) rfl ?_
              refine g_ireturn (gd rfl) rfl (nb01 (in_w 0 1 (in_c 1 rfl) rfl)) (hp79 _ _ ?_)
              show GG _ _ _ _ _ _ _ _ [.int (Int32.ofInt 1)] _ _ _
              refine g_if_eq 85 97 (gd rfl) rfl rfl (fun c82 => ?_) (fun c82 => ?_)
              · skip
                exact zn_eq c82 (in_c 1 rfl) rfl
              · skip
                refine g_aload_n 86 (gd rfl) rfl rfl ?_
                refine g_iconst 2 87 (gd rfl) rfl rfl ?_
                refine g_putI 90 (gd rfl) rfl rfl rfl rfl ?_
                have hI87 := inv_sF (q := 109) (j := 28) hI75 rfl (in_w (-2147483648) 2147483647 (in_c 2 rfl) rfl)
                refine g_aload_n 91 (gd rfl) rfl rfl ?_
                refine g_bipush 6 93 (gd rfl) rfl rfl ?_
                have v93 : w0_109_27 = (sF (sF (sF sc0 109 29 w0_109_27) 109 30 z71) 109 28 (Int32.ofInt 2)).2.2.1 109 27 := sF_ne rfl (sF_ne rfl (sF_ne rfl (v0_109_27)))
                have v93a : u_109_22 = (sF (sF (sF sc0 109 29 w0_109_27) 109 30 z71) 109 28 (Int32.ofInt 2)).2.2.1 109 22 := sF_ne rfl (sF_ne rfl (sF_ne rfl (fr_F e_109_22 hFc0 rfl)))
                have n93 : (w0_109_27).toInt < (u_109_22).toInt := by have a0 := oa4 ro_109_22 i71 i79x9 ((in_c 2 rfl)); omega
                have p93 : 48 ≤ ((sF (sF (sF sc0 109 29 w0_109_27) 109 30 z71) 109 28 (Int32.ofInt 2)).1 125 ((sF (sF (sF sc0 109 29 w0_109_27) 109 30 z71) 109 28 (Int32.ofInt 2)).2.2.1 109 27).toNatClampNeg).toInt ∧ ((sF (sF (sF sc0 109 29 w0_109_27) 109 30 z71) 109 28 (Int32.ofInt 2)).1 125 ((sF (sF (sF sc0 109 29 w0_109_27) 109 30 z71) 109 28 (Int32.ofInt 2)).2.2.1 109 27).toNatClampNeg).toInt ≤ 57 := by first | (have hz : z19 = (sF (sF (sF sc0 109 29 w0_109_27) 109 30 z71) 109 28 (Int32.ofInt 2)).1 125 ((sF (sF (sF sc0 109 29 w0_109_27) 109 30 z71) 109 28 (Int32.ofInt 2)).2.2.1 109 27).toNatClampNeg := (by rw [← (show w0_109_27 = (sF (sF (sF sc0 109 29 w0_109_27) 109 30 z71) 109 28 (Int32.ofInt 2)).2.2.1 109 27 from sF_ne rfl (sF_ne rfl (sF_ne rfl (v0_109_27))))]; exact e19); rw [← hz]; exact i79x9) | (have hz : z71 = (sF (sF (sF sc0 109 29 w0_109_27) 109 30 z71) 109 28 (Int32.ofInt 2)).1 125 ((sF (sF (sF sc0 109 29 w0_109_27) 109 30 z71) 109 28 (Int32.ofInt 2)).2.2.1 109 27).toNatClampNeg := (by rw [← (show w0_109_27 = (sF (sF (sF sc0 109 29 w0_109_27) 109 30 z71) 109 28 (Int32.ofInt 2)).2.2.1 109 27 from sF_ne rfl (sF_ne rfl (sF_ne rfl (v0_109_27))))]; exact e71); rw [← hz]; exact i79x9)
                refine g_callv (X := _) (As := [.int (Int32.ofInt 6)]) (r := []) (b := A 109) (q := 109) 96 (gd rfl) rfl rfl rfl rfl rfl (ww_o rfl) (Nat.le_of_ble_eq_true rfl) (Nat.zero_le _) (Nat.zero_le _) (k_300 (by first | exact dq1 hd rfl | exact dq0 hd rfl | exact dq2 hd rfl | exact dq3 hd rfl | omega) hI87 (in_w 6 7 (in_c 6 rfl) rfl) v93 v93a n93 p93) (fun e u h => h) (fun v u h => ?_)
                obtain ⟨s93, hI93, hF93, n93a, n93b, rfl, rfl⟩ := h
                obtain ⟨z93a, e93⟩ : ∃ w, w = s93.2.2.1 109 27 := ⟨_, rfl⟩
                have i93a := inv_F hI93 0 1000 rfl e93
                rw [← (show z93a = s93.2.2.1 109 27 from e93)] at n93a
                rw [← (show u_109_22 = s93.2.2.1 109 22 from fr_F (s := (sF (sF (sF sc0 109 29 w0_109_27) 109 30 z71) 109 28 (Int32.ofInt 2))) (sF_ne rfl (sF_ne rfl (sF_ne rfl (fr_F e_109_22 hFc0 rfl)))) hF93 rfl)] at n93a
                rw [← (show w0_109_27 = (sF (sF (sF sc0 109 29 w0_109_27) 109 30 z71) 109 28 (Int32.ofInt 2)).2.2.1 109 27 from sF_ne rfl (sF_ne rfl (sF_ne rfl (v0_109_27))))] at n93b
                rw [← (show z93a = s93.2.2.1 109 27 from e93)] at n93b
                show GG _ _ _ _ _ _ _ _ [] _ _ _
                have n96 : (z93a).toInt ≤ (u_109_22).toInt := by have a0 := oa5 ro_109_22 i71 i79x9 i93a ((in_c 2 rfl)); omega
                have n96a : (s93.2.2.1 109 27).toInt ≤ (s93.2.2.1 109 22).toInt := by have b0 : z93a = s93.2.2.1 109 27 := e93; have b1 : u_109_22 = s93.2.2.1 109 22 := fr_F (s := (sF (sF (sF sc0 109 29 w0_109_27) 109 30 z71) 109 28 (Int32.ofInt 2))) (sF_ne rfl (sF_ne rfl (sF_ne rfl (fr_F e_109_22 hFc0 rfl)))) hF93 rfl; rw [← b0, ← b1]; exact n96
                have n96b : (u_109_27).toInt ≤ (z93a).toInt := by have a0 := oa5 ro_109_22 i71 i79x9 i93a ((in_c 2 rfl)); omega
                have n96c : (s.2.2.1 109 27).toInt ≤ (s93.2.2.1 109 27).toInt := by have b0 : z93a = s93.2.2.1 109 27 := e93; first | (rw [← b0, ← e_109_27]; exact n96b) | (rw [← b0]; exact n96b)
                have n96d : ((Int32.ofInt 2)).toInt ≠ 0 → (u_109_27).toInt + 1 ≤ (z93a).toInt := by have a0 := oa5 ro_109_22 i71 i79x9 i93a ((in_c 2 rfl)); omega
                have n96e : (s93.2.2.1 109 28).toInt ≠ 0 → (s.2.2.1 109 27).toInt + 1 ≤ (s93.2.2.1 109 27).toInt := by have b0 : (Int32.ofInt 2) = s93.2.2.1 109 28 := fr_F (s := (sF (sF (sF sc0 109 29 w0_109_27) 109 30 z71) 109 28 (Int32.ofInt 2))) (sF_get) hF93 rfl; have b1 : z93a = s93.2.2.1 109 27 := e93; first | (rw [← b0, ← b1, ← e_109_27]; exact n96d) | (rw [← b0, ← b1]; exact n96d)
                exact g_return (gd rfl) rfl (hP _ _ ⟨s93, hI93, (fr_tr rfl (fr_sF rfl (fr_sF rfl (fr_sF rfl hFc0))) hF93), n96a, n96c, n96e, rfl, rfl⟩)
        · skip
          refine g_aload_n 58 (gd rfl) rfl rfl ?_
          refine g_iconst 0 59 (gd rfl) rfl rfl ?_
          refine g_putI 62 (gd rfl) rfl rfl rfl rfl ?_
          have hI59 := inv_sF (q := 109) (j := 28) hI43 rfl (in_w (-2147483648) 2147483647 (in_c 0 rfl) rfl)
          have n62 : (w0_109_27).toInt ≤ (u_109_22).toInt := by first | exact n0_0 | (have a0 := oa3 ro_109_22 ((inv_F hIc0 0 1000 rfl v0_109_27)) ((in_c 0 rfl)); omega)
          have n62a : ((sF (sF sc0 109 29 w0_109_27) 109 28 (Int32.ofInt 0)).2.2.1 109 27).toInt ≤ ((sF (sF sc0 109 29 w0_109_27) 109 28 (Int32.ofInt 0)).2.2.1 109 22).toInt := by have b0 : w0_109_27 = (sF (sF sc0 109 29 w0_109_27) 109 28 (Int32.ofInt 0)).2.2.1 109 27 := sF_ne rfl (sF_ne rfl (v0_109_27)); have b1 : u_109_22 = (sF (sF sc0 109 29 w0_109_27) 109 28 (Int32.ofInt 0)).2.2.1 109 22 := sF_ne rfl (sF_ne rfl (fr_F e_109_22 hFc0 rfl)); rw [← b0, ← b1]; exact n62
          have n62b : (u_109_27).toInt ≤ (w0_109_27).toInt := by first | exact n0_1 | (have a0 := oa3 ro_109_22 ((inv_F hIc0 0 1000 rfl v0_109_27)) ((in_c 0 rfl)); omega)
          have n62c : (s.2.2.1 109 27).toInt ≤ ((sF (sF sc0 109 29 w0_109_27) 109 28 (Int32.ofInt 0)).2.2.1 109 27).toInt := by have b0 : w0_109_27 = (sF (sF sc0 109 29 w0_109_27) 109 28 (Int32.ofInt 0)).2.2.1 109 27 := sF_ne rfl (sF_ne rfl (v0_109_27)); first | (rw [← b0, ← e_109_27]; exact n62b) | (rw [← b0]; exact n62b)
          have n62d : ((Int32.ofInt 0)).toInt ≠ 0 → (u_109_27).toInt + 1 ≤ (w0_109_27).toInt := by exact fun h => absurd rfl h
          have n62e : ((sF (sF sc0 109 29 w0_109_27) 109 28 (Int32.ofInt 0)).2.2.1 109 28).toInt ≠ 0 → (s.2.2.1 109 27).toInt + 1 ≤ ((sF (sF sc0 109 29 w0_109_27) 109 28 (Int32.ofInt 0)).2.2.1 109 27).toInt := by have b0 : (Int32.ofInt 0) = (sF (sF sc0 109 29 w0_109_27) 109 28 (Int32.ofInt 0)).2.2.1 109 28 := sF_get; have b1 : w0_109_27 = (sF (sF sc0 109 29 w0_109_27) 109 28 (Int32.ofInt 0)).2.2.1 109 27 := sF_ne rfl (sF_ne rfl (v0_109_27)); first | (rw [← b0, ← b1, ← e_109_27]; exact n62d) | (rw [← b0, ← b1]; exact n62d)
          exact g_return (gd rfl) rfl (hP _ _ ⟨(sF (sF sc0 109 29 w0_109_27) 109 28 (Int32.ofInt 0)), hI59, (fr_sF rfl (fr_sF rfl hFc0)), n62a, n62c, n62e, rfl, rfl⟩)
      · skip
        have i8 := r_lt1 0 999 c8 (inv_F hIc0 0 1000 rfl v0_109_27) ro_109_22 rfl
        have i8a := r_lt2 1 1000 c8 (inv_F hIc0 0 1000 rfl v0_109_27) ro_109_22 rfl
        refine g_aload_n 12 (gd rfl) rfl rfl ?_
        refine g_getA (q2 := 125) 15 (gd rfl) rfl rfl rfl rfl ?_
        refine g_aload_n 16 (gd rfl) rfl rfl ?_
        refine g_getI 19 (gd rfl) rfl rfl rfl (fun z16 e16 => ?_)
        have q16 : w0_109_27 = z16 := (v0_109_27).trans e16.symm
        subst q16
        refine g_iaload 20 (gd rfl) rfl (n := 1000) rfl (in_ix i8 rfl) (fun z19 e19 => ?_)
        have i19 := inv_I hIc0 (n := 1000) (t := 0) 0 126 rfl (in_ix i8 rfl) rfl e19
        refine g_bipush 32 22 (gd rfl) rfl rfl ?_
        refine g_cmp_ne 25 38 (gd rfl) rfl rfl (fun c22 => ?_) (fun c22 => ?_)
        · skip
          refine g_aload_n 39 (gd rfl) rfl rfl ?_
          refine g_aload_n 40 (gd rfl) rfl rfl ?_
          refine g_getI 43 (gd rfl) rfl rfl rfl (fun z40 e40 => ?_)
          have q40 : w0_109_27 = z40 := (v0_109_27).trans e40.symm
          subst q40
          refine g_putI 46 (gd rfl) rfl rfl rfl rfl ?_
          have hI43 := inv_sF (q := 109) (j := 29) hIc0 rfl (in_w 0 1000 i8 rfl)
          refine g_aload_n 47 (gd rfl) rfl rfl ?_
          refine g_getI 50 (gd rfl) rfl rfl rfl (fun z47 e47 => ?_)
          have q47 : w0_109_27 = z47 := (sF_ne rfl (v0_109_27)).trans e47.symm
          subst q47
          refine g_aload_n 51 (gd rfl) rfl rfl ?_
          refine g_getI 54 (gd rfl) rfl rfl rfl (fun z51 e51 => ?_)
          have q51 : u_109_22 = z51 := (sF_ne rfl (fr_F e_109_22 hFc0 rfl)).trans e51.symm
          subst q51
          refine g_cmp_ne 57 63 (gd rfl) rfl rfl (fun c54 => ?_) (fun c54 => ?_)
          · skip
            refine g_aload_n 64 (gd rfl) rfl rfl ?_
            refine g_getA (q2 := 125) 67 (gd rfl) rfl rfl rfl rfl ?_
            refine g_aload_n 68 (gd rfl) rfl rfl ?_
            refine g_getI 71 (gd rfl) rfl rfl rfl (fun z68 e68 => ?_)
            have q68 : w0_109_27 = z68 := (sF_ne rfl (v0_109_27)).trans e68.symm
            subst q68
            refine g_iaload 72 (gd rfl) rfl (n := 1000) rfl (in_ix i8 rfl) (fun z71 e71 => ?_)
            have q71 : z19 = z71 := (sF_I (e19)).trans e71.symm
            subst q71
            refine g_istore_n 73 (gd rfl) rfl (Nat.le_of_ble_eq_true rfl) ?_
            refine g_aload_n 74 (gd rfl) rfl rfl ?_
            refine g_iload_n 75 (gd rfl) rfl rfl ?_
            refine g_putI 78 (gd rfl) rfl rfl rfl rfl ?_
            have hI75 := inv_sF (q := 109) (j := 30) hI43 rfl (in_w (-2147483648) 2147483647 i19 rfl)
            refine g_iload_n 79 (gd rfl) rfl rfl ?_
            refine g_calls (As := [.int z19]) (r := []) 82 (gd rfl) rfl rfl rfl rfl rfl (Nat.le_of_ble_eq_true rfl) (mc := 0) (ms := 0) (Nat.zero_le _) (Nat.zero_le _) (P := fun v u => _) ?_ (fun v u h => h)
            intro po79 xx79 hp79 hx79
            refine g_enter2 (k := 297) (N := 300) (by first | exact dq1 hd rfl | exact dq0 hd rfl | exact dq2 hd rfl | exact dq3 hd rfl | omega) rfl (Nat.le_of_ble_eq_true rfl) ?_
            refine g_iload_n 1 (gd rfl) rfl rfl ?_
            refine g_bipush 48 3 (gd rfl) rfl rfl ?_
            refine g_cmp_lt 6 16 (gd rfl) rfl rfl (fun c79x3 => ?_) (fun c79x3 => ?_)
            · skip
              have i79x3 := r_lt1 0 47 c79x3 i19 (in_c 48 rfl) rfl
              refine g_iconst 0 17 (gd rfl) rfl rfl ?_
              refine g_ireturn (gd rfl) rfl (nb01 (in_w 0 1 (in_c 0 rfl) rfl)) (hp79 _ _ ?_)
              show GG _ _ _ _ _ _ _ _ [.int (Int32.ofInt 0)] _ _ _
              refine g_if_eq 85 97 (gd rfl) rfl rfl (fun c82 => ?_) (fun c82 => ?_)
              · skip
                refine g_aload_n 98 (gd rfl) rfl rfl ?_
                refine g_iload_n 99 (gd rfl) rfl rfl ?_
                refine g_calls (As := [.int z19]) (r := [.ref (A 109)]) 102 (gd rfl) rfl rfl rfl rfl rfl (Nat.le_of_ble_eq_true rfl) (mc := 0) (ms := 0) (Nat.zero_le _) (Nat.zero_le _) (P := fun v u => _) ?_ (fun v u h => h)
                intro po99 xx99 hp99 hx99
                refine g_enter2 (k := 296) (N := 300) (by first | exact dq1 hd rfl | exact dq0 hd rfl | exact dq2 hd rfl | exact dq3 hd rfl | omega) rfl (Nat.le_of_ble_eq_true rfl) ?_
                refine g_iload_n 1 (gd rfl) rfl rfl ?_
                refine g_bipush 97 3 (gd rfl) rfl rfl ?_
                refine g_cmp_lt 6 16 (gd rfl) rfl rfl (fun c99x3 => ?_) (fun c99x3 => ?_)
                · skip
                  refine g_iconst 0 17 (gd rfl) rfl rfl ?_
                  refine g_ireturn (gd rfl) rfl (nb01 (in_w 0 1 (in_c 0 rfl) rfl)) (hp99 _ _ ?_)
                  show GG _ _ _ _ _ _ _ _ [.int (Int32.ofInt 0), .ref (A 109)] _ _ _
                  refine g_if_eq 105 109 (gd rfl) rfl rfl (fun c102 => ?_) (fun c102 => ?_)
                  · skip
                    refine g_iconst 3 110 (gd rfl) rfl rfl ?_
                    refine g_putI 113 (gd rfl) rfl rfl rfl rfl ?_
                    have hI110 := inv_sF (q := 109) (j := 28) hI75 rfl (in_w (-2147483648) 2147483647 (in_c 3 rfl) rfl)
                    refine g_aload_n 114 (gd rfl) rfl rfl ?_
                    refine g_dup 115 (gd rfl) rfl rfl ?_
                    refine g_getI 118 (gd rfl) rfl rfl rfl (fun z115 e115 => ?_)
                    have q115 : w0_109_27 = z115 := (sF_ne rfl (sF_ne rfl (sF_ne rfl (v0_109_27)))).trans e115.symm
                    subst q115
                    refine g_iconst 1 119 (gd rfl) rfl rfl ?_
                    refine g_iadd 120 (gd rfl) rfl (fun z119 e119 => ?_)
                    have i119 := in_add 1 1000 e119 i8 (in_c 1 rfl) rfl rfl
                    refine g_putI 123 (gd rfl) rfl rfl rfl rfl ?_
                    have hI120 := inv_sF (q := 109) (j := 27) hI110 rfl (in_w 0 1000 i119 rfl)
                    refine g_iload_n 124 (gd rfl) rfl rfl ?_
                    refine g_bipush 59 126 (gd rfl) rfl rfl ?_
                    refine g_cmp_eq 129 171 (gd rfl) rfl rfl (fun c126 => ?_) (fun c126 => ?_)
                    · skip
                      exact n_eq c126 i79x3 (in_c 59 rfl) rfl
                    · skip
                      refine g_iload_n 130 (gd rfl) rfl rfl ?_
                      refine g_bipush 60 132 (gd rfl) rfl rfl ?_
                      refine g_cmp_eq 135 171 (gd rfl) rfl rfl (fun c132 => ?_) (fun c132 => ?_)
                      · skip
                        exact n_eq c132 i79x3 (in_c 60 rfl) rfl
                      · skip
                        refine g_iload_n 136 (gd rfl) rfl rfl ?_
                        refine g_bipush 61 138 (gd rfl) rfl rfl ?_
                        refine g_cmp_eq 141 171 (gd rfl) rfl rfl (fun c138 => ?_) (fun c138 => ?_)
                        · skip
                          exact n_eq c138 i79x3 (in_c 61 rfl) rfl
                        · skip
                          refine g_iload_n 142 (gd rfl) rfl rfl ?_
                          refine g_bipush 43 144 (gd rfl) rfl rfl ?_
                          refine g_cmp_eq 147 171 (gd rfl) rfl rfl (fun c144 => ?_) (fun c144 => ?_)
                          · skip
                            have i144 := r_eq1 43 43 c144 i79x3 (in_c 43 rfl) rfl
                            refine g_iconst 1 172 (gd rfl) rfl rfl ?_
                            refine g_goto 176 (gd rfl) rfl ?_
                            refine g_istore_n 177 (gd rfl) rfl (Nat.le_of_ble_eq_true rfl) ?_
                            refine g_aload_n 178 (gd rfl) rfl rfl ?_
                            refine g_getI 181 (gd rfl) rfl rfl rfl (fun z178 e178 => ?_)
                            have q178 : (Int32.ofInt 3) = z178 := (sF_ne rfl (sF_get)).trans e178.symm
                            subst q178
                            refine g_iconst 3 182 (gd rfl) rfl rfl ?_
                            refine g_cmp_ne 185 198 (gd rfl) rfl rfl (fun c182 => ?_) (fun c182 => ?_)
                            · skip
                              exact n_ne c182 (in_c 3 rfl) (in_c 3 rfl) rfl
                            · skip
                              refine g_iload_n 186 (gd rfl) rfl rfl ?_
                              refine g_if_ne 189 198 (gd rfl) rfl rfl (fun c186 => ?_) (fun c186 => ?_)
                              · skip
                                have n198 : (z119).toInt ≤ (u_109_22).toInt := by have a0 := oa5 i8a i8 ((in_c 1 rfl)) i144 i119; have a5 := t_add e119 i8 (in_c 1 rfl) rfl; have a6 := in_u ((in_c 3 rfl)); omega
                                have n198a : ((sF (sF (sF (sF sc0 109 29 w0_109_27) 109 30 z19) 109 28 (Int32.ofInt 3)) 109 27 z119).2.2.1 109 27).toInt ≤ ((sF (sF (sF (sF sc0 109 29 w0_109_27) 109 30 z19) 109 28 (Int32.ofInt 3)) 109 27 z119).2.2.1 109 22).toInt := by have b0 : z119 = (sF (sF (sF (sF sc0 109 29 w0_109_27) 109 30 z19) 109 28 (Int32.ofInt 3)) 109 27 z119).2.2.1 109 27 := sF_get; have b1 : u_109_22 = (sF (sF (sF (sF sc0 109 29 w0_109_27) 109 30 z19) 109 28 (Int32.ofInt 3)) 109 27 z119).2.2.1 109 22 := sF_ne rfl (sF_ne rfl (sF_ne rfl (sF_ne rfl (fr_F e_109_22 hFc0 rfl)))); rw [← b0, ← b1]; exact n198
                                have n198b : (u_109_27).toInt ≤ (z119).toInt := by have a0 := oa5 i8a i8 ((in_c 1 rfl)) i144 i119; have a5 := t_add e119 i8 (in_c 1 rfl) rfl; have a6 := in_u ((in_c 3 rfl)); omega
                                have n198c : (s.2.2.1 109 27).toInt ≤ ((sF (sF (sF (sF sc0 109 29 w0_109_27) 109 30 z19) 109 28 (Int32.ofInt 3)) 109 27 z119).2.2.1 109 27).toInt := by have b0 : z119 = (sF (sF (sF (sF sc0 109 29 w0_109_27) 109 30 z19) 109 28 (Int32.ofInt 3)) 109 27 z119).2.2.1 109 27 := sF_get; first | (rw [← b0, ← e_109_27]; exact n198b) | (rw [← b0]; exact n198b)
                                have n198d : ((Int32.ofInt 3)).toInt ≠ 0 → (u_109_27).toInt + 1 ≤ (z119).toInt := by have a0 := oa5 i8a i8 ((in_c 1 rfl)) i144 i119; have a5 := t_add e119 i8 (in_c 1 rfl) rfl; have a6 := in_u ((in_c 3 rfl)); omega
                                have n198e : ((sF (sF (sF (sF sc0 109 29 w0_109_27) 109 30 z19) 109 28 (Int32.ofInt 3)) 109 27 z119).2.2.1 109 28).toInt ≠ 0 → (s.2.2.1 109 27).toInt + 1 ≤ ((sF (sF (sF (sF sc0 109 29 w0_109_27) 109 30 z19) 109 28 (Int32.ofInt 3)) 109 27 z119).2.2.1 109 27).toInt := by have b0 : (Int32.ofInt 3) = (sF (sF (sF (sF sc0 109 29 w0_109_27) 109 30 z19) 109 28 (Int32.ofInt 3)) 109 27 z119).2.2.1 109 28 := sF_ne rfl (sF_get); have b1 : z119 = (sF (sF (sF (sF sc0 109 29 w0_109_27) 109 30 z19) 109 28 (Int32.ofInt 3)) 109 27 z119).2.2.1 109 27 := sF_get; first | (rw [← b0, ← b1, ← e_109_27]; exact n198d) | (rw [← b0, ← b1]; exact n198d)
                                exact g_return (gd rfl) rfl (hP _ _ ⟨(sF (sF (sF (sF sc0 109 29 w0_109_27) 109 30 z19) 109 28 (Int32.ofInt 3)) 109 27 z119), hI120, (fr_sF rfl (fr_sF rfl (fr_sF rfl (fr_sF rfl hFc0)))), n198a, n198c, n198e, rfl, rfl⟩)
                              · skip
                                exact zn_eq c186 (in_c 1 rfl) rfl
                          · skip
                            refine g_iload_n 148 (gd rfl) rfl rfl ?_
                            refine g_bipush 45 150 (gd rfl) rfl rfl ?_
                            refine g_cmp_eq 153 171 (gd rfl) rfl rfl (fun c150 => ?_) (fun c150 => ?_)
                            · skip
                              have i150 := r_eq1 45 45 c150 i79x3 (in_c 45 rfl) rfl
                              refine g_iconst 1 172 (gd rfl) rfl rfl ?_
                              refine g_goto 176 (gd rfl) rfl ?_
                              refine g_istore_n 177 (gd rfl) rfl (Nat.le_of_ble_eq_true rfl) ?_
                              refine g_aload_n 178 (gd rfl) rfl rfl ?_
                              refine g_getI 181 (gd rfl) rfl rfl rfl (fun z178 e178 => ?_)
                              have q178 : (Int32.ofInt 3) = z178 := (sF_ne rfl (sF_get)).trans e178.symm
                              subst q178
                              refine g_iconst 3 182 (gd rfl) rfl rfl ?_
                              refine g_cmp_ne 185 198 (gd rfl) rfl rfl (fun c182 => ?_) (fun c182 => ?_)
                              · skip
                                exact n_ne c182 (in_c 3 rfl) (in_c 3 rfl) rfl
                              · skip
                                refine g_iload_n 186 (gd rfl) rfl rfl ?_
                                refine g_if_ne 189 198 (gd rfl) rfl rfl (fun c186 => ?_) (fun c186 => ?_)
                                · skip
                                  have n198 : (z119).toInt ≤ (u_109_22).toInt := by have a0 := oa5 i8a i8 ((in_c 1 rfl)) i150 i119; have a5 := t_add e119 i8 (in_c 1 rfl) rfl; have a6 := in_u ((in_c 3 rfl)); omega
                                  have n198a : ((sF (sF (sF (sF sc0 109 29 w0_109_27) 109 30 z19) 109 28 (Int32.ofInt 3)) 109 27 z119).2.2.1 109 27).toInt ≤ ((sF (sF (sF (sF sc0 109 29 w0_109_27) 109 30 z19) 109 28 (Int32.ofInt 3)) 109 27 z119).2.2.1 109 22).toInt := by have b0 : z119 = (sF (sF (sF (sF sc0 109 29 w0_109_27) 109 30 z19) 109 28 (Int32.ofInt 3)) 109 27 z119).2.2.1 109 27 := sF_get; have b1 : u_109_22 = (sF (sF (sF (sF sc0 109 29 w0_109_27) 109 30 z19) 109 28 (Int32.ofInt 3)) 109 27 z119).2.2.1 109 22 := sF_ne rfl (sF_ne rfl (sF_ne rfl (sF_ne rfl (fr_F e_109_22 hFc0 rfl)))); rw [← b0, ← b1]; exact n198
                                  have n198b : (u_109_27).toInt ≤ (z119).toInt := by have a0 := oa5 i8a i8 ((in_c 1 rfl)) i150 i119; have a5 := t_add e119 i8 (in_c 1 rfl) rfl; have a6 := in_u ((in_c 3 rfl)); omega
                                  have n198c : (s.2.2.1 109 27).toInt ≤ ((sF (sF (sF (sF sc0 109 29 w0_109_27) 109 30 z19) 109 28 (Int32.ofInt 3)) 109 27 z119).2.2.1 109 27).toInt := by have b0 : z119 = (sF (sF (sF (sF sc0 109 29 w0_109_27) 109 30 z19) 109 28 (Int32.ofInt 3)) 109 27 z119).2.2.1 109 27 := sF_get; first | (rw [← b0, ← e_109_27]; exact n198b) | (rw [← b0]; exact n198b)
                                  have n198d : ((Int32.ofInt 3)).toInt ≠ 0 → (u_109_27).toInt + 1 ≤ (z119).toInt := by have a0 := oa5 i8a i8 ((in_c 1 rfl)) i150 i119; have a5 := t_add e119 i8 (in_c 1 rfl) rfl; have a6 := in_u ((in_c 3 rfl)); omega
                                  have n198e : ((sF (sF (sF (sF sc0 109 29 w0_109_27) 109 30 z19) 109 28 (Int32.ofInt 3)) 109 27 z119).2.2.1 109 28).toInt ≠ 0 → (s.2.2.1 109 27).toInt + 1 ≤ ((sF (sF (sF (sF sc0 109 29 w0_109_27) 109 30 z19) 109 28 (Int32.ofInt 3)) 109 27 z119).2.2.1 109 27).toInt := by have b0 : (Int32.ofInt 3) = (sF (sF (sF (sF sc0 109 29 w0_109_27) 109 30 z19) 109 28 (Int32.ofInt 3)) 109 27 z119).2.2.1 109 28 := sF_ne rfl (sF_get); have b1 : z119 = (sF (sF (sF (sF sc0 109 29 w0_109_27) 109 30 z19) 109 28 (Int32.ofInt 3)) 109 27 z119).2.2.1 109 27 := sF_get; first | (rw [← b0, ← b1, ← e_109_27]; exact n198d) | (rw [← b0, ← b1]; exact n198d)
                                  exact g_return (gd rfl) rfl (hP _ _ ⟨(sF (sF (sF (sF sc0 109 29 w0_109_27) 109 30 z19) 109 28 (Int32.ofInt 3)) 109 27 z119), hI120, (fr_sF rfl (fr_sF rfl (fr_sF rfl (fr_sF rfl hFc0)))), n198a, n198c, n198e, rfl, rfl⟩)
                                · skip
                                  exact zn_eq c186 (in_c 1 rfl) rfl
                            · skip
                              refine g_iload_n 154 (gd rfl) rfl rfl ?_
                              refine g_bipush 42 156 (gd rfl) rfl rfl ?_
                              refine g_cmp_eq 159 171 (gd rfl) rfl rfl (fun c156 => ?_) (fun c156 => ?_)
                              · skip
                                have i156 := r_eq1 42 42 c156 i79x3 (in_c 42 rfl) rfl
                                refine g_iconst 1 172 (gd rfl) rfl rfl ?_
                                refine g_goto 176 (gd rfl) rfl ?_
                                refine g_istore_n 177 (gd rfl) rfl (Nat.le_of_ble_eq_true rfl) ?_
                                refine g_aload_n 178 (gd rfl) rfl rfl ?_
                                refine g_getI 181 (gd rfl) rfl rfl rfl (fun z178 e178 => ?_)
                                have q178 : (Int32.ofInt 3) = z178 := (sF_ne rfl (sF_get)).trans e178.symm
                                subst q178
                                refine g_iconst 3 182 (gd rfl) rfl rfl ?_
                                refine g_cmp_ne 185 198 (gd rfl) rfl rfl (fun c182 => ?_) (fun c182 => ?_)
                                · skip
                                  exact n_ne c182 (in_c 3 rfl) (in_c 3 rfl) rfl
                                · skip
                                  refine g_iload_n 186 (gd rfl) rfl rfl ?_
                                  refine g_if_ne 189 198 (gd rfl) rfl rfl (fun c186 => ?_) (fun c186 => ?_)
                                  · skip
                                    have n198 : (z119).toInt ≤ (u_109_22).toInt := by have a0 := oa5 i8a i8 ((in_c 1 rfl)) i156 i119; have a5 := t_add e119 i8 (in_c 1 rfl) rfl; have a6 := in_u ((in_c 3 rfl)); omega
                                    have n198a : ((sF (sF (sF (sF sc0 109 29 w0_109_27) 109 30 z19) 109 28 (Int32.ofInt 3)) 109 27 z119).2.2.1 109 27).toInt ≤ ((sF (sF (sF (sF sc0 109 29 w0_109_27) 109 30 z19) 109 28 (Int32.ofInt 3)) 109 27 z119).2.2.1 109 22).toInt := by have b0 : z119 = (sF (sF (sF (sF sc0 109 29 w0_109_27) 109 30 z19) 109 28 (Int32.ofInt 3)) 109 27 z119).2.2.1 109 27 := sF_get; have b1 : u_109_22 = (sF (sF (sF (sF sc0 109 29 w0_109_27) 109 30 z19) 109 28 (Int32.ofInt 3)) 109 27 z119).2.2.1 109 22 := sF_ne rfl (sF_ne rfl (sF_ne rfl (sF_ne rfl (fr_F e_109_22 hFc0 rfl)))); rw [← b0, ← b1]; exact n198
                                    have n198b : (u_109_27).toInt ≤ (z119).toInt := by have a0 := oa5 i8a i8 ((in_c 1 rfl)) i156 i119; have a5 := t_add e119 i8 (in_c 1 rfl) rfl; have a6 := in_u ((in_c 3 rfl)); omega
                                    have n198c : (s.2.2.1 109 27).toInt ≤ ((sF (sF (sF (sF sc0 109 29 w0_109_27) 109 30 z19) 109 28 (Int32.ofInt 3)) 109 27 z119).2.2.1 109 27).toInt := by have b0 : z119 = (sF (sF (sF (sF sc0 109 29 w0_109_27) 109 30 z19) 109 28 (Int32.ofInt 3)) 109 27 z119).2.2.1 109 27 := sF_get; first | (rw [← b0, ← e_109_27]; exact n198b) | (rw [← b0]; exact n198b)
                                    have n198d : ((Int32.ofInt 3)).toInt ≠ 0 → (u_109_27).toInt + 1 ≤ (z119).toInt := by have a0 := oa5 i8a i8 ((in_c 1 rfl)) i156 i119; have a5 := t_add e119 i8 (in_c 1 rfl) rfl; have a6 := in_u ((in_c 3 rfl)); omega
                                    have n198e : ((sF (sF (sF (sF sc0 109 29 w0_109_27) 109 30 z19) 109 28 (Int32.ofInt 3)) 109 27 z119).2.2.1 109 28).toInt ≠ 0 → (s.2.2.1 109 27).toInt + 1 ≤ ((sF (sF (sF (sF sc0 109 29 w0_109_27) 109 30 z19) 109 28 (Int32.ofInt 3)) 109 27 z119).2.2.1 109 27).toInt := by have b0 : (Int32.ofInt 3) = (sF (sF (sF (sF sc0 109 29 w0_109_27) 109 30 z19) 109 28 (Int32.ofInt 3)) 109 27 z119).2.2.1 109 28 := sF_ne rfl (sF_get); have b1 : z119 = (sF (sF (sF (sF sc0 109 29 w0_109_27) 109 30 z19) 109 28 (Int32.ofInt 3)) 109 27 z119).2.2.1 109 27 := sF_get; first | (rw [← b0, ← b1, ← e_109_27]; exact n198d) | (rw [← b0, ← b1]; exact n198d)
                                    exact g_return (gd rfl) rfl (hP _ _ ⟨(sF (sF (sF (sF sc0 109 29 w0_109_27) 109 30 z19) 109 28 (Int32.ofInt 3)) 109 27 z119), hI120, (fr_sF rfl (fr_sF rfl (fr_sF rfl (fr_sF rfl hFc0)))), n198a, n198c, n198e, rfl, rfl⟩)
                                  · skip
                                    exact zn_eq c186 (in_c 1 rfl) rfl
                              · skip
                                refine g_iload_n 160 (gd rfl) rfl rfl ?_
                                refine g_bipush 40 162 (gd rfl) rfl rfl ?_
                                refine g_cmp_eq 165 171 (gd rfl) rfl rfl (fun c162 => ?_) (fun c162 => ?_)
                                · skip
                                  have i162 := r_eq1 40 40 c162 i79x3 (in_c 40 rfl) rfl
                                  refine g_iconst 1 172 (gd rfl) rfl rfl ?_
                                  refine g_goto 176 (gd rfl) rfl ?_
                                  refine g_istore_n 177 (gd rfl) rfl (Nat.le_of_ble_eq_true rfl) ?_
                                  refine g_aload_n 178 (gd rfl) rfl rfl ?_
                                  refine g_getI 181 (gd rfl) rfl rfl rfl (fun z178 e178 => ?_)
                                  have q178 : (Int32.ofInt 3) = z178 := (sF_ne rfl (sF_get)).trans e178.symm
                                  subst q178
                                  refine g_iconst 3 182 (gd rfl) rfl rfl ?_
                                  refine g_cmp_ne 185 198 (gd rfl) rfl rfl (fun c182 => ?_) (fun c182 => ?_)
                                  · skip
                                    exact n_ne c182 (in_c 3 rfl) (in_c 3 rfl) rfl
                                  · skip
                                    refine g_iload_n 186 (gd rfl) rfl rfl ?_
                                    refine g_if_ne 189 198 (gd rfl) rfl rfl (fun c186 => ?_) (fun c186 => ?_)
                                    · skip
                                      have n198 : (z119).toInt ≤ (u_109_22).toInt := by have a0 := oa5 i8a i8 ((in_c 1 rfl)) i162 i119; have a5 := t_add e119 i8 (in_c 1 rfl) rfl; have a6 := in_u ((in_c 3 rfl)); omega
                                      have n198a : ((sF (sF (sF (sF sc0 109 29 w0_109_27) 109 30 z19) 109 28 (Int32.ofInt 3)) 109 27 z119).2.2.1 109 27).toInt ≤ ((sF (sF (sF (sF sc0 109 29 w0_109_27) 109 30 z19) 109 28 (Int32.ofInt 3)) 109 27 z119).2.2.1 109 22).toInt := by have b0 : z119 = (sF (sF (sF (sF sc0 109 29 w0_109_27) 109 30 z19) 109 28 (Int32.ofInt 3)) 109 27 z119).2.2.1 109 27 := sF_get; have b1 : u_109_22 = (sF (sF (sF (sF sc0 109 29 w0_109_27) 109 30 z19) 109 28 (Int32.ofInt 3)) 109 27 z119).2.2.1 109 22 := sF_ne rfl (sF_ne rfl (sF_ne rfl (sF_ne rfl (fr_F e_109_22 hFc0 rfl)))); rw [← b0, ← b1]; exact n198
                                      have n198b : (u_109_27).toInt ≤ (z119).toInt := by have a0 := oa5 i8a i8 ((in_c 1 rfl)) i162 i119; have a5 := t_add e119 i8 (in_c 1 rfl) rfl; have a6 := in_u ((in_c 3 rfl)); omega
                                      have n198c : (s.2.2.1 109 27).toInt ≤ ((sF (sF (sF (sF sc0 109 29 w0_109_27) 109 30 z19) 109 28 (Int32.ofInt 3)) 109 27 z119).2.2.1 109 27).toInt := by have b0 : z119 = (sF (sF (sF (sF sc0 109 29 w0_109_27) 109 30 z19) 109 28 (Int32.ofInt 3)) 109 27 z119).2.2.1 109 27 := sF_get; first | (rw [← b0, ← e_109_27]; exact n198b) | (rw [← b0]; exact n198b)
                                      have n198d : ((Int32.ofInt 3)).toInt ≠ 0 → (u_109_27).toInt + 1 ≤ (z119).toInt := by have a0 := oa5 i8a i8 ((in_c 1 rfl)) i162 i119; have a5 := t_add e119 i8 (in_c 1 rfl) rfl; have a6 := in_u ((in_c 3 rfl)); omega
                                      have n198e : ((sF (sF (sF (sF sc0 109 29 w0_109_27) 109 30 z19) 109 28 (Int32.ofInt 3)) 109 27 z119).2.2.1 109 28).toInt ≠ 0 → (s.2.2.1 109 27).toInt + 1 ≤ ((sF (sF (sF (sF sc0 109 29 w0_109_27) 109 30 z19) 109 28 (Int32.ofInt 3)) 109 27 z119).2.2.1 109 27).toInt := by have b0 : (Int32.ofInt 3) = (sF (sF (sF (sF sc0 109 29 w0_109_27) 109 30 z19) 109 28 (Int32.ofInt 3)) 109 27 z119).2.2.1 109 28 := sF_ne rfl (sF_get); have b1 : z119 = (sF (sF (sF (sF sc0 109 29 w0_109_27) 109 30 z19) 109 28 (Int32.ofInt 3)) 109 27 z119).2.2.1 109 27 := sF_get; first | (rw [← b0, ← b1, ← e_109_27]; exact n198d) | (rw [← b0, ← b1]; exact n198d)
                                      exact g_return (gd rfl) rfl (hP _ _ ⟨(sF (sF (sF (sF sc0 109 29 w0_109_27) 109 30 z19) 109 28 (Int32.ofInt 3)) 109 27 z119), hI120, (fr_sF rfl (fr_sF rfl (fr_sF rfl (fr_sF rfl hFc0)))), n198a, n198c, n198e, rfl, rfl⟩)
                                    · skip
                                      exact zn_eq c186 (in_c 1 rfl) rfl
                                · skip
                                  refine g_iload_n 166 (gd rfl) rfl rfl ?_
                                  refine g_bipush 41 168 (gd rfl) rfl rfl ?_
                                  refine g_cmp_ne 171 175 (gd rfl) rfl rfl (fun c168 => ?_) (fun c168 => ?_)
                                  · skip
                                    refine g_iconst 0 176 (gd rfl) rfl rfl ?_
                                    refine g_istore_n 177 (gd rfl) rfl (Nat.le_of_ble_eq_true rfl) ?_
                                    refine g_aload_n 178 (gd rfl) rfl rfl ?_
                                    refine g_getI 181 (gd rfl) rfl rfl rfl (fun z178 e178 => ?_)
                                    have q178 : (Int32.ofInt 3) = z178 := (sF_ne rfl (sF_get)).trans e178.symm
                                    subst q178
                                    refine g_iconst 3 182 (gd rfl) rfl rfl ?_
                                    refine g_cmp_ne 185 198 (gd rfl) rfl rfl (fun c182 => ?_) (fun c182 => ?_)
                                    · skip
                                      exact n_ne c182 (in_c 3 rfl) (in_c 3 rfl) rfl
                                    · skip
                                      refine g_iload_n 186 (gd rfl) rfl rfl ?_
                                      refine g_if_ne 189 198 (gd rfl) rfl rfl (fun c186 => ?_) (fun c186 => ?_)
                                      · skip
                                        exact zn_ne c186 (in_c 0 rfl) rfl
                                      · skip
                                        refine g_aload_n 190 (gd rfl) rfl rfl ?_
                                        refine g_iconst 1 191 (gd rfl) rfl rfl ?_
                                        refine g_aload_n 192 (gd rfl) rfl rfl ?_
                                        refine g_getI 195 (gd rfl) rfl rfl rfl (fun z192 e192 => ?_)
                                        have q192 : w0_109_27 = z192 := (sF_ne rfl (sF_ne rfl (sF_ne rfl (sF_get)))).trans e192.symm
                                        subst q192
                                        refine g_callv (X := _) (As := [.int (Int32.ofInt 1), .int w0_109_27]) (r := []) (b := A 109) (q := 109) 198 (gd rfl) rfl rfl rfl rfl rfl (ww_o rfl) (Nat.le_of_ble_eq_true rfl) (Nat.zero_le _) (Nat.zero_le _) (k_298 (by first | exact dq1 hd rfl | exact dq0 hd rfl | exact dq2 hd rfl | exact dq3 hd rfl | omega) hI120 (in_w 1 5 (in_c 1 rfl) rfl)) (fun e u h => h) (fun v u h => ?_)
                                        obtain ⟨s195, hI195, hF195, n195, rfl, rfl⟩ := h
                                        obtain ⟨z195a, e195⟩ : ∃ w, w = s195.2.2.1 109 23 := ⟨_, rfl⟩
                                        have i195a := inv_F hI195 0 9 rfl e195
                                        rw [← (show z195a = s195.2.2.1 109 23 from e195)] at n195
                                        show GG _ _ _ _ _ _ _ _ [] _ _ _
                                        have n198 : (z119).toInt ≤ (u_109_22).toInt := by have a0 := oa6 i8a i8 ((in_c 0 rfl)) i79x3 i195a i119; have a6 := t_add e119 i8 (in_c 1 rfl) rfl; have a7 := oa2 ((in_c 1 rfl)) ((in_c 3 rfl)); omega
                                        have n198a : (s195.2.2.1 109 27).toInt ≤ (s195.2.2.1 109 22).toInt := by have b0 : z119 = s195.2.2.1 109 27 := fr_F (s := (sF (sF (sF (sF sc0 109 29 w0_109_27) 109 30 z19) 109 28 (Int32.ofInt 3)) 109 27 z119)) (sF_get) hF195 rfl; have b1 : u_109_22 = s195.2.2.1 109 22 := fr_F (s := (sF (sF (sF (sF sc0 109 29 w0_109_27) 109 30 z19) 109 28 (Int32.ofInt 3)) 109 27 z119)) (sF_ne rfl (sF_ne rfl (sF_ne rfl (sF_ne rfl (fr_F e_109_22 hFc0 rfl))))) hF195 rfl; rw [← b0, ← b1]; exact n198
                                        have n198b : (u_109_27).toInt ≤ (z119).toInt := by have a0 := oa6 i8a i8 ((in_c 0 rfl)) i79x3 i195a i119; have a6 := t_add e119 i8 (in_c 1 rfl) rfl; have a7 := oa2 ((in_c 1 rfl)) ((in_c 3 rfl)); omega
                                        have n198c : (s.2.2.1 109 27).toInt ≤ (s195.2.2.1 109 27).toInt := by have b0 : z119 = s195.2.2.1 109 27 := fr_F (s := (sF (sF (sF (sF sc0 109 29 w0_109_27) 109 30 z19) 109 28 (Int32.ofInt 3)) 109 27 z119)) (sF_get) hF195 rfl; first | (rw [← b0, ← e_109_27]; exact n198b) | (rw [← b0]; exact n198b)
                                        have n198d : ((Int32.ofInt 3)).toInt ≠ 0 → (u_109_27).toInt + 1 ≤ (z119).toInt := by have a0 := oa6 i8a i8 ((in_c 0 rfl)) i79x3 i195a i119; have a6 := t_add e119 i8 (in_c 1 rfl) rfl; have a7 := oa2 ((in_c 1 rfl)) ((in_c 3 rfl)); omega
                                        have n198e : (s195.2.2.1 109 28).toInt ≠ 0 → (s.2.2.1 109 27).toInt + 1 ≤ (s195.2.2.1 109 27).toInt := by have b0 : (Int32.ofInt 3) = s195.2.2.1 109 28 := fr_F (s := (sF (sF (sF (sF sc0 109 29 w0_109_27) 109 30 z19) 109 28 (Int32.ofInt 3)) 109 27 z119)) (sF_ne rfl (sF_get)) hF195 rfl; have b1 : z119 = s195.2.2.1 109 27 := fr_F (s := (sF (sF (sF (sF sc0 109 29 w0_109_27) 109 30 z19) 109 28 (Int32.ofInt 3)) 109 27 z119)) (sF_get) hF195 rfl; first | (rw [← b0, ← b1, ← e_109_27]; exact n198d) | (rw [← b0, ← b1]; exact n198d)
                                        exact g_return (gd rfl) rfl (hP _ _ ⟨s195, hI195, (fr_tr rfl (fr_sF rfl (fr_sF rfl (fr_sF rfl (fr_sF rfl hFc0)))) hF195), n198a, n198c, n198e, rfl, rfl⟩)
                                  · skip
                                    have i168 := r_eq1 41 41 c168 i79x3 (in_c 41 rfl) rfl
                                    refine g_iconst 1 172 (gd rfl) rfl rfl ?_
                                    refine g_goto 176 (gd rfl) rfl ?_
                                    refine g_istore_n 177 (gd rfl) rfl (Nat.le_of_ble_eq_true rfl) ?_
                                    refine g_aload_n 178 (gd rfl) rfl rfl ?_
                                    refine g_getI 181 (gd rfl) rfl rfl rfl (fun z178 e178 => ?_)
                                    have q178 : (Int32.ofInt 3) = z178 := (sF_ne rfl (sF_get)).trans e178.symm
                                    subst q178
                                    refine g_iconst 3 182 (gd rfl) rfl rfl ?_
                                    refine g_cmp_ne 185 198 (gd rfl) rfl rfl (fun c182 => ?_) (fun c182 => ?_)
                                    · skip
                                      exact n_ne c182 (in_c 3 rfl) (in_c 3 rfl) rfl
                                    · skip
                                      refine g_iload_n 186 (gd rfl) rfl rfl ?_
                                      refine g_if_ne 189 198 (gd rfl) rfl rfl (fun c186 => ?_) (fun c186 => ?_)
                                      · skip
                                        have n198 : (z119).toInt ≤ (u_109_22).toInt := by have a0 := oa5 i8a i8 ((in_c 1 rfl)) i168 i119; have a5 := t_add e119 i8 (in_c 1 rfl) rfl; have a6 := in_u ((in_c 3 rfl)); omega
                                        have n198a : ((sF (sF (sF (sF sc0 109 29 w0_109_27) 109 30 z19) 109 28 (Int32.ofInt 3)) 109 27 z119).2.2.1 109 27).toInt ≤ ((sF (sF (sF (sF sc0 109 29 w0_109_27) 109 30 z19) 109 28 (Int32.ofInt 3)) 109 27 z119).2.2.1 109 22).toInt := by have b0 : z119 = (sF (sF (sF (sF sc0 109 29 w0_109_27) 109 30 z19) 109 28 (Int32.ofInt 3)) 109 27 z119).2.2.1 109 27 := sF_get; have b1 : u_109_22 = (sF (sF (sF (sF sc0 109 29 w0_109_27) 109 30 z19) 109 28 (Int32.ofInt 3)) 109 27 z119).2.2.1 109 22 := sF_ne rfl (sF_ne rfl (sF_ne rfl (sF_ne rfl (fr_F e_109_22 hFc0 rfl)))); rw [← b0, ← b1]; exact n198
                                        have n198b : (u_109_27).toInt ≤ (z119).toInt := by have a0 := oa5 i8a i8 ((in_c 1 rfl)) i168 i119; have a5 := t_add e119 i8 (in_c 1 rfl) rfl; have a6 := in_u ((in_c 3 rfl)); omega
                                        have n198c : (s.2.2.1 109 27).toInt ≤ ((sF (sF (sF (sF sc0 109 29 w0_109_27) 109 30 z19) 109 28 (Int32.ofInt 3)) 109 27 z119).2.2.1 109 27).toInt := by have b0 : z119 = (sF (sF (sF (sF sc0 109 29 w0_109_27) 109 30 z19) 109 28 (Int32.ofInt 3)) 109 27 z119).2.2.1 109 27 := sF_get; first | (rw [← b0, ← e_109_27]; exact n198b) | (rw [← b0]; exact n198b)
                                        have n198d : ((Int32.ofInt 3)).toInt ≠ 0 → (u_109_27).toInt + 1 ≤ (z119).toInt := by have a0 := oa5 i8a i8 ((in_c 1 rfl)) i168 i119; have a5 := t_add e119 i8 (in_c 1 rfl) rfl; have a6 := in_u ((in_c 3 rfl)); omega
                                        have n198e : ((sF (sF (sF (sF sc0 109 29 w0_109_27) 109 30 z19) 109 28 (Int32.ofInt 3)) 109 27 z119).2.2.1 109 28).toInt ≠ 0 → (s.2.2.1 109 27).toInt + 1 ≤ ((sF (sF (sF (sF sc0 109 29 w0_109_27) 109 30 z19) 109 28 (Int32.ofInt 3)) 109 27 z119).2.2.1 109 27).toInt := by have b0 : (Int32.ofInt 3) = (sF (sF (sF (sF sc0 109 29 w0_109_27) 109 30 z19) 109 28 (Int32.ofInt 3)) 109 27 z119).2.2.1 109 28 := sF_ne rfl (sF_get); have b1 : z119 = (sF (sF (sF (sF sc0 109 29 w0_109_27) 109 30 z19) 109 28 (Int32.ofInt 3)) 109 27 z119).2.2.1 109 27 := sF_get; first | (rw [← b0, ← b1, ← e_109_27]; exact n198d) | (rw [← b0, ← b1]; exact n198d)
                                        exact g_return (gd rfl) rfl (hP _ _ ⟨(sF (sF (sF (sF sc0 109 29 w0_109_27) 109 30 z19) 109 28 (Int32.ofInt 3)) 109 27 z119), hI120, (fr_sF rfl (fr_sF rfl (fr_sF rfl (fr_sF rfl hFc0)))), n198a, n198c, n198e, rfl, rfl⟩)
                                      · skip
                                        exact zn_eq c186 (in_c 1 rfl) rfl
                  · skip
                    exact zn_ne c102 (in_c 0 rfl) rfl
                · skip
                  exact n_le c99x3 (in_c 97 rfl) i79x3 rfl
              · skip
                exact zn_ne c82 (in_c 0 rfl) rfl
            · skip
              have i79x3 := r_le2 48 126 c79x3 (in_c 48 rfl) i19 rfl
              refine g_iload_n 7 (gd rfl) rfl rfl ?_
              refine g_bipush 57 9 (gd rfl) rfl rfl ?_
              refine g_cmp_gt 12 16 (gd rfl) rfl rfl (fun c79x9 => ?_) (fun c79x9 => ?_)
              · skip
                have i79x9 := r_lt2 58 126 c79x9 (in_c 57 rfl) i79x3 rfl
                refine g_iconst 0 17 (gd rfl) rfl rfl ?_
                refine g_ireturn (gd rfl) rfl (nb01 (in_w 0 1 (in_c 0 rfl) rfl)) (hp79 _ _ ?_)
                show GG _ _ _ _ _ _ _ _ [.int (Int32.ofInt 0)] _ _ _
                refine g_if_eq 85 97 (gd rfl) rfl rfl (fun c82 => ?_) (fun c82 => ?_)
                · skip
                  refine g_aload_n 98 (gd rfl) rfl rfl ?_
                  refine g_iload_n 99 (gd rfl) rfl rfl ?_
                  refine g_calls (As := [.int z19]) (r := [.ref (A 109)]) 102 (gd rfl) rfl rfl rfl rfl rfl (Nat.le_of_ble_eq_true rfl) (mc := 0) (ms := 0) (Nat.zero_le _) (Nat.zero_le _) (P := fun v u => _) ?_ (fun v u h => h)
                  intro po99 xx99 hp99 hx99
                  refine g_enter2 (k := 296) (N := 300) (by first | exact dq1 hd rfl | exact dq0 hd rfl | exact dq2 hd rfl | exact dq3 hd rfl | omega) rfl (Nat.le_of_ble_eq_true rfl) ?_
                  refine g_iload_n 1 (gd rfl) rfl rfl ?_
                  refine g_bipush 97 3 (gd rfl) rfl rfl ?_
                  refine g_cmp_lt 6 16 (gd rfl) rfl rfl (fun c99x3 => ?_) (fun c99x3 => ?_)
                  · skip
                    have i99x3 := r_lt1 58 96 c99x3 i79x9 (in_c 97 rfl) rfl
                    refine g_iconst 0 17 (gd rfl) rfl rfl ?_
                    refine g_ireturn (gd rfl) rfl (nb01 (in_w 0 1 (in_c 0 rfl) rfl)) (hp99 _ _ ?_)
                    show GG _ _ _ _ _ _ _ _ [.int (Int32.ofInt 0), .ref (A 109)] _ _ _
                    refine g_if_eq 105 109 (gd rfl) rfl rfl (fun c102 => ?_) (fun c102 => ?_)
                    · skip
                      refine g_iconst 3 110 (gd rfl) rfl rfl ?_
                      refine g_putI 113 (gd rfl) rfl rfl rfl rfl ?_
                      have hI110 := inv_sF (q := 109) (j := 28) hI75 rfl (in_w (-2147483648) 2147483647 (in_c 3 rfl) rfl)
                      refine g_aload_n 114 (gd rfl) rfl rfl ?_
                      refine g_dup 115 (gd rfl) rfl rfl ?_
                      refine g_getI 118 (gd rfl) rfl rfl rfl (fun z115 e115 => ?_)
                      have q115 : w0_109_27 = z115 := (sF_ne rfl (sF_ne rfl (sF_ne rfl (v0_109_27)))).trans e115.symm
                      subst q115
                      refine g_iconst 1 119 (gd rfl) rfl rfl ?_
                      refine g_iadd 120 (gd rfl) rfl (fun z119 e119 => ?_)
                      have i119 := in_add 1 1000 e119 i8 (in_c 1 rfl) rfl rfl
                      refine g_putI 123 (gd rfl) rfl rfl rfl rfl ?_
                      have hI120 := inv_sF (q := 109) (j := 27) hI110 rfl (in_w 0 1000 i119 rfl)
                      refine g_iload_n 124 (gd rfl) rfl rfl ?_
                      refine g_bipush 59 126 (gd rfl) rfl rfl ?_
                      refine g_cmp_eq 129 171 (gd rfl) rfl rfl (fun c126 => ?_) (fun c126 => ?_)
                      · skip
                        have i126 := r_eq1 59 59 c126 i99x3 (in_c 59 rfl) rfl
                        refine g_iconst 1 172 (gd rfl) rfl rfl ?_
                        refine g_goto 176 (gd rfl) rfl ?_
                        refine g_istore_n 177 (gd rfl) rfl (Nat.le_of_ble_eq_true rfl) ?_
                        refine g_aload_n 178 (gd rfl) rfl rfl ?_
                        refine g_getI 181 (gd rfl) rfl rfl rfl (fun z178 e178 => ?_)
                        have q178 : (Int32.ofInt 3) = z178 := (sF_ne rfl (sF_get)).trans e178.symm
                        subst q178
                        refine g_iconst 3 182 (gd rfl) rfl rfl ?_
                        refine g_cmp_ne 185 198 (gd rfl) rfl rfl (fun c182 => ?_) (fun c182 => ?_)
                        · skip
                          exact n_ne c182 (in_c 3 rfl) (in_c 3 rfl) rfl
                        · skip
                          refine g_iload_n 186 (gd rfl) rfl rfl ?_
                          refine g_if_ne 189 198 (gd rfl) rfl rfl (fun c186 => ?_) (fun c186 => ?_)
                          · skip
                            have n198 : (z119).toInt ≤ (u_109_22).toInt := by have a0 := oa5 i8a i8 ((in_c 1 rfl)) i126 i119; have a5 := t_add e119 i8 (in_c 1 rfl) rfl; have a6 := in_u ((in_c 3 rfl)); omega
                            have n198a : ((sF (sF (sF (sF sc0 109 29 w0_109_27) 109 30 z19) 109 28 (Int32.ofInt 3)) 109 27 z119).2.2.1 109 27).toInt ≤ ((sF (sF (sF (sF sc0 109 29 w0_109_27) 109 30 z19) 109 28 (Int32.ofInt 3)) 109 27 z119).2.2.1 109 22).toInt := by have b0 : z119 = (sF (sF (sF (sF sc0 109 29 w0_109_27) 109 30 z19) 109 28 (Int32.ofInt 3)) 109 27 z119).2.2.1 109 27 := sF_get; have b1 : u_109_22 = (sF (sF (sF (sF sc0 109 29 w0_109_27) 109 30 z19) 109 28 (Int32.ofInt 3)) 109 27 z119).2.2.1 109 22 := sF_ne rfl (sF_ne rfl (sF_ne rfl (sF_ne rfl (fr_F e_109_22 hFc0 rfl)))); rw [← b0, ← b1]; exact n198
                            have n198b : (u_109_27).toInt ≤ (z119).toInt := by have a0 := oa5 i8a i8 ((in_c 1 rfl)) i126 i119; have a5 := t_add e119 i8 (in_c 1 rfl) rfl; have a6 := in_u ((in_c 3 rfl)); omega
                            have n198c : (s.2.2.1 109 27).toInt ≤ ((sF (sF (sF (sF sc0 109 29 w0_109_27) 109 30 z19) 109 28 (Int32.ofInt 3)) 109 27 z119).2.2.1 109 27).toInt := by have b0 : z119 = (sF (sF (sF (sF sc0 109 29 w0_109_27) 109 30 z19) 109 28 (Int32.ofInt 3)) 109 27 z119).2.2.1 109 27 := sF_get; first | (rw [← b0, ← e_109_27]; exact n198b) | (rw [← b0]; exact n198b)
                            have n198d : ((Int32.ofInt 3)).toInt ≠ 0 → (u_109_27).toInt + 1 ≤ (z119).toInt := by have a0 := oa5 i8a i8 ((in_c 1 rfl)) i126 i119; have a5 := t_add e119 i8 (in_c 1 rfl) rfl; have a6 := in_u ((in_c 3 rfl)); omega
                            have n198e : ((sF (sF (sF (sF sc0 109 29 w0_109_27) 109 30 z19) 109 28 (Int32.ofInt 3)) 109 27 z119).2.2.1 109 28).toInt ≠ 0 → (s.2.2.1 109 27).toInt + 1 ≤ ((sF (sF (sF (sF sc0 109 29 w0_109_27) 109 30 z19) 109 28 (Int32.ofInt 3)) 109 27 z119).2.2.1 109 27).toInt := by have b0 : (Int32.ofInt 3) = (sF (sF (sF (sF sc0 109 29 w0_109_27) 109 30 z19) 109 28 (Int32.ofInt 3)) 109 27 z119).2.2.1 109 28 := sF_ne rfl (sF_get); have b1 : z119 = (sF (sF (sF (sF sc0 109 29 w0_109_27) 109 30 z19) 109 28 (Int32.ofInt 3)) 109 27 z119).2.2.1 109 27 := sF_get; first | (rw [← b0, ← b1, ← e_109_27]; exact n198d) | (rw [← b0, ← b1]; exact n198d)
                            exact g_return (gd rfl) rfl (hP _ _ ⟨(sF (sF (sF (sF sc0 109 29 w0_109_27) 109 30 z19) 109 28 (Int32.ofInt 3)) 109 27 z119), hI120, (fr_sF rfl (fr_sF rfl (fr_sF rfl (fr_sF rfl hFc0)))), n198a, n198c, n198e, rfl, rfl⟩)
                          · skip
                            exact zn_eq c186 (in_c 1 rfl) rfl
                      · skip
                        refine g_iload_n 130 (gd rfl) rfl rfl ?_
                        refine g_bipush 60 132 (gd rfl) rfl rfl ?_
                        refine g_cmp_eq 135 171 (gd rfl) rfl rfl (fun c132 => ?_) (fun c132 => ?_)
                        · skip
                          have i132 := r_eq1 60 60 c132 i99x3 (in_c 60 rfl) rfl
                          refine g_iconst 1 172 (gd rfl) rfl rfl ?_
                          refine g_goto 176 (gd rfl) rfl ?_
                          refine g_istore_n 177 (gd rfl) rfl (Nat.le_of_ble_eq_true rfl) ?_
                          refine g_aload_n 178 (gd rfl) rfl rfl ?_
                          refine g_getI 181 (gd rfl) rfl rfl rfl (fun z178 e178 => ?_)
                          have q178 : (Int32.ofInt 3) = z178 := (sF_ne rfl (sF_get)).trans e178.symm
                          subst q178
                          refine g_iconst 3 182 (gd rfl) rfl rfl ?_
                          refine g_cmp_ne 185 198 (gd rfl) rfl rfl (fun c182 => ?_) (fun c182 => ?_)
                          · skip
                            exact n_ne c182 (in_c 3 rfl) (in_c 3 rfl) rfl
                          · skip
                            refine g_iload_n 186 (gd rfl) rfl rfl ?_
                            refine g_if_ne 189 198 (gd rfl) rfl rfl (fun c186 => ?_) (fun c186 => ?_)
                            · skip
                              have n198 : (z119).toInt ≤ (u_109_22).toInt := by have a0 := oa5 i8a i8 ((in_c 1 rfl)) i132 i119; have a5 := t_add e119 i8 (in_c 1 rfl) rfl; have a6 := in_u ((in_c 3 rfl)); omega
                              have n198a : ((sF (sF (sF (sF sc0 109 29 w0_109_27) 109 30 z19) 109 28 (Int32.ofInt 3)) 109 27 z119).2.2.1 109 27).toInt ≤ ((sF (sF (sF (sF sc0 109 29 w0_109_27) 109 30 z19) 109 28 (Int32.ofInt 3)) 109 27 z119).2.2.1 109 22).toInt := by have b0 : z119 = (sF (sF (sF (sF sc0 109 29 w0_109_27) 109 30 z19) 109 28 (Int32.ofInt 3)) 109 27 z119).2.2.1 109 27 := sF_get; have b1 : u_109_22 = (sF (sF (sF (sF sc0 109 29 w0_109_27) 109 30 z19) 109 28 (Int32.ofInt 3)) 109 27 z119).2.2.1 109 22 := sF_ne rfl (sF_ne rfl (sF_ne rfl (sF_ne rfl (fr_F e_109_22 hFc0 rfl)))); rw [← b0, ← b1]; exact n198
                              have n198b : (u_109_27).toInt ≤ (z119).toInt := by have a0 := oa5 i8a i8 ((in_c 1 rfl)) i132 i119; have a5 := t_add e119 i8 (in_c 1 rfl) rfl; have a6 := in_u ((in_c 3 rfl)); omega
                              have n198c : (s.2.2.1 109 27).toInt ≤ ((sF (sF (sF (sF sc0 109 29 w0_109_27) 109 30 z19) 109 28 (Int32.ofInt 3)) 109 27 z119).2.2.1 109 27).toInt := by have b0 : z119 = (sF (sF (sF (sF sc0 109 29 w0_109_27) 109 30 z19) 109 28 (Int32.ofInt 3)) 109 27 z119).2.2.1 109 27 := sF_get; first | (rw [← b0, ← e_109_27]; exact n198b) | (rw [← b0]; exact n198b)
                              have n198d : ((Int32.ofInt 3)).toInt ≠ 0 → (u_109_27).toInt + 1 ≤ (z119).toInt := by have a0 := oa5 i8a i8 ((in_c 1 rfl)) i132 i119; have a5 := t_add e119 i8 (in_c 1 rfl) rfl; have a6 := in_u ((in_c 3 rfl)); omega
                              have n198e : ((sF (sF (sF (sF sc0 109 29 w0_109_27) 109 30 z19) 109 28 (Int32.ofInt 3)) 109 27 z119).2.2.1 109 28).toInt ≠ 0 → (s.2.2.1 109 27).toInt + 1 ≤ ((sF (sF (sF (sF sc0 109 29 w0_109_27) 109 30 z19) 109 28 (Int32.ofInt 3)) 109 27 z119).2.2.1 109 27).toInt := by have b0 : (Int32.ofInt 3) = (sF (sF (sF (sF sc0 109 29 w0_109_27) 109 30 z19) 109 28 (Int32.ofInt 3)) 109 27 z119).2.2.1 109 28 := sF_ne rfl (sF_get); have b1 : z119 = (sF (sF (sF (sF sc0 109 29 w0_109_27) 109 30 z19) 109 28 (Int32.ofInt 3)) 109 27 z119).2.2.1 109 27 := sF_get; first | (rw [← b0, ← b1, ← e_109_27]; exact n198d) | (rw [← b0, ← b1]; exact n198d)
                              exact g_return (gd rfl) rfl (hP _ _ ⟨(sF (sF (sF (sF sc0 109 29 w0_109_27) 109 30 z19) 109 28 (Int32.ofInt 3)) 109 27 z119), hI120, (fr_sF rfl (fr_sF rfl (fr_sF rfl (fr_sF rfl hFc0)))), n198a, n198c, n198e, rfl, rfl⟩)
                            · skip
                              exact zn_eq c186 (in_c 1 rfl) rfl
                        · skip
                          refine g_iload_n 136 (gd rfl) rfl rfl ?_
                          refine g_bipush 61 138 (gd rfl) rfl rfl ?_
                          refine g_cmp_eq 141 171 (gd rfl) rfl rfl (fun c138 => ?_) (fun c138 => ?_)
                          · skip
                            have i138 := r_eq1 61 61 c138 i99x3 (in_c 61 rfl) rfl
                            refine g_iconst 1 172 (gd rfl) rfl rfl ?_
                            refine g_goto 176 (gd rfl) rfl ?_
                            refine g_istore_n 177 (gd rfl) rfl (Nat.le_of_ble_eq_true rfl) ?_
                            refine g_aload_n 178 (gd rfl) rfl rfl ?_
                            refine g_getI 181 (gd rfl) rfl rfl rfl (fun z178 e178 => ?_)
                            have q178 : (Int32.ofInt 3) = z178 := (sF_ne rfl (sF_get)).trans e178.symm
                            subst q178
                            refine g_iconst 3 182 (gd rfl) rfl rfl ?_
                            refine g_cmp_ne 185 198 (gd rfl) rfl rfl (fun c182 => ?_) (fun c182 => ?_)
                            · skip
                              exact n_ne c182 (in_c 3 rfl) (in_c 3 rfl) rfl
                            · skip
                              refine g_iload_n 186 (gd rfl) rfl rfl ?_
                              refine g_if_ne 189 198 (gd rfl) rfl rfl (fun c186 => ?_) (fun c186 => ?_)
                              · skip
                                have n198 : (z119).toInt ≤ (u_109_22).toInt := by have a0 := oa5 i8a i8 ((in_c 1 rfl)) i138 i119; have a5 := t_add e119 i8 (in_c 1 rfl) rfl; have a6 := in_u ((in_c 3 rfl)); omega
                                have n198a : ((sF (sF (sF (sF sc0 109 29 w0_109_27) 109 30 z19) 109 28 (Int32.ofInt 3)) 109 27 z119).2.2.1 109 27).toInt ≤ ((sF (sF (sF (sF sc0 109 29 w0_109_27) 109 30 z19) 109 28 (Int32.ofInt 3)) 109 27 z119).2.2.1 109 22).toInt := by have b0 : z119 = (sF (sF (sF (sF sc0 109 29 w0_109_27) 109 30 z19) 109 28 (Int32.ofInt 3)) 109 27 z119).2.2.1 109 27 := sF_get; have b1 : u_109_22 = (sF (sF (sF (sF sc0 109 29 w0_109_27) 109 30 z19) 109 28 (Int32.ofInt 3)) 109 27 z119).2.2.1 109 22 := sF_ne rfl (sF_ne rfl (sF_ne rfl (sF_ne rfl (fr_F e_109_22 hFc0 rfl)))); rw [← b0, ← b1]; exact n198
                                have n198b : (u_109_27).toInt ≤ (z119).toInt := by have a0 := oa5 i8a i8 ((in_c 1 rfl)) i138 i119; have a5 := t_add e119 i8 (in_c 1 rfl) rfl; have a6 := in_u ((in_c 3 rfl)); omega
                                have n198c : (s.2.2.1 109 27).toInt ≤ ((sF (sF (sF (sF sc0 109 29 w0_109_27) 109 30 z19) 109 28 (Int32.ofInt 3)) 109 27 z119).2.2.1 109 27).toInt := by have b0 : z119 = (sF (sF (sF (sF sc0 109 29 w0_109_27) 109 30 z19) 109 28 (Int32.ofInt 3)) 109 27 z119).2.2.1 109 27 := sF_get; first | (rw [← b0, ← e_109_27]; exact n198b) | (rw [← b0]; exact n198b)
                                have n198d : ((Int32.ofInt 3)).toInt ≠ 0 → (u_109_27).toInt + 1 ≤ (z119).toInt := by have a0 := oa5 i8a i8 ((in_c 1 rfl)) i138 i119; have a5 := t_add e119 i8 (in_c 1 rfl) rfl; have a6 := in_u ((in_c 3 rfl)); omega
                                have n198e : ((sF (sF (sF (sF sc0 109 29 w0_109_27) 109 30 z19) 109 28 (Int32.ofInt 3)) 109 27 z119).2.2.1 109 28).toInt ≠ 0 → (s.2.2.1 109 27).toInt + 1 ≤ ((sF (sF (sF (sF sc0 109 29 w0_109_27) 109 30 z19) 109 28 (Int32.ofInt 3)) 109 27 z119).2.2.1 109 27).toInt := by have b0 : (Int32.ofInt 3) = (sF (sF (sF (sF sc0 109 29 w0_109_27) 109 30 z19) 109 28 (Int32.ofInt 3)) 109 27 z119).2.2.1 109 28 := sF_ne rfl (sF_get); have b1 : z119 = (sF (sF (sF (sF sc0 109 29 w0_109_27) 109 30 z19) 109 28 (Int32.ofInt 3)) 109 27 z119).2.2.1 109 27 := sF_get; first | (rw [← b0, ← b1, ← e_109_27]; exact n198d) | (rw [← b0, ← b1]; exact n198d)
                                exact g_return (gd rfl) rfl (hP _ _ ⟨(sF (sF (sF (sF sc0 109 29 w0_109_27) 109 30 z19) 109 28 (Int32.ofInt 3)) 109 27 z119), hI120, (fr_sF rfl (fr_sF rfl (fr_sF rfl (fr_sF rfl hFc0)))), n198a, n198c, n198e, rfl, rfl⟩)
                              · skip
                                exact zn_eq c186 (in_c 1 rfl) rfl
                          · skip
                            refine g_iload_n 142 (gd rfl) rfl rfl ?_
                            refine g_bipush 43 144 (gd rfl) rfl rfl ?_
                            refine g_cmp_eq 147 171 (gd rfl) rfl rfl (fun c144 => ?_) (fun c144 => ?_)
                            · skip
                              exact n_eq c144 i99x3 (in_c 43 rfl) rfl
                            · skip
                              refine g_iload_n 148 (gd rfl) rfl rfl ?_
                              refine g_bipush 45 150 (gd rfl) rfl rfl ?_
                              refine g_cmp_eq 153 171 (gd rfl) rfl rfl (fun c150 => ?_) (fun c150 => ?_)
                              · skip
                                exact n_eq c150 i99x3 (in_c 45 rfl) rfl
                              · skip
                                refine g_iload_n 154 (gd rfl) rfl rfl ?_
                                refine g_bipush 42 156 (gd rfl) rfl rfl ?_
                                refine g_cmp_eq 159 171 (gd rfl) rfl rfl (fun c156 => ?_) (fun c156 => ?_)
                                · skip
                                  exact n_eq c156 i99x3 (in_c 42 rfl) rfl
                                · skip
                                  refine g_iload_n 160 (gd rfl) rfl rfl ?_
                                  refine g_bipush 40 162 (gd rfl) rfl rfl ?_
                                  refine g_cmp_eq 165 171 (gd rfl) rfl rfl (fun c162 => ?_) (fun c162 => ?_)
                                  · skip
                                    exact n_eq c162 i99x3 (in_c 40 rfl) rfl
                                  · skip
                                    refine g_iload_n 166 (gd rfl) rfl rfl ?_
                                    refine g_bipush 41 168 (gd rfl) rfl rfl ?_
                                    refine g_cmp_ne 171 175 (gd rfl) rfl rfl (fun c168 => ?_) (fun c168 => ?_)
                                    · skip
                                      refine g_iconst 0 176 (gd rfl) rfl rfl ?_
                                      refine g_istore_n 177 (gd rfl) rfl (Nat.le_of_ble_eq_true rfl) ?_
                                      refine g_aload_n 178 (gd rfl) rfl rfl ?_
                                      refine g_getI 181 (gd rfl) rfl rfl rfl (fun z178 e178 => ?_)
                                      have q178 : (Int32.ofInt 3) = z178 := (sF_ne rfl (sF_get)).trans e178.symm
                                      subst q178
                                      refine g_iconst 3 182 (gd rfl) rfl rfl ?_
                                      refine g_cmp_ne 185 198 (gd rfl) rfl rfl (fun c182 => ?_) (fun c182 => ?_)
                                      · skip
                                        exact n_ne c182 (in_c 3 rfl) (in_c 3 rfl) rfl
                                      · skip
                                        refine g_iload_n 186 (gd rfl) rfl rfl ?_
                                        refine g_if_ne 189 198 (gd rfl) rfl rfl (fun c186 => ?_) (fun c186 => ?_)
                                        · skip
                                          exact zn_ne c186 (in_c 0 rfl) rfl
                                        · skip
                                          refine g_aload_n 190 (gd rfl) rfl rfl ?_
                                          refine g_iconst 1 191 (gd rfl) rfl rfl ?_
                                          refine g_aload_n 192 (gd rfl) rfl rfl ?_
                                          refine g_getI 195 (gd rfl) rfl rfl rfl (fun z192 e192 => ?_)
                                          have q192 : w0_109_27 = z192 := (sF_ne rfl (sF_ne rfl (sF_ne rfl (sF_get)))).trans e192.symm
                                          subst q192
                                          refine g_callv (X := _) (As := [.int (Int32.ofInt 1), .int w0_109_27]) (r := []) (b := A 109) (q := 109) 198 (gd rfl) rfl rfl rfl rfl rfl (ww_o rfl) (Nat.le_of_ble_eq_true rfl) (Nat.zero_le _) (Nat.zero_le _) (k_298 (by first | exact dq1 hd rfl | exact dq0 hd rfl | exact dq2 hd rfl | exact dq3 hd rfl | omega) hI120 (in_w 1 5 (in_c 1 rfl) rfl)) (fun e u h => h) (fun v u h => ?_)
                                          obtain ⟨s195, hI195, hF195, n195, rfl, rfl⟩ := h
                                          obtain ⟨z195a, e195⟩ : ∃ w, w = s195.2.2.1 109 23 := ⟨_, rfl⟩
                                          have i195a := inv_F hI195 0 9 rfl e195
                                          rw [← (show z195a = s195.2.2.1 109 23 from e195)] at n195
                                          show GG _ _ _ _ _ _ _ _ [] _ _ _
                                          have n198 : (z119).toInt ≤ (u_109_22).toInt := by have a0 := oa6 i8a i8 ((in_c 0 rfl)) i99x3 i195a i119; have a6 := t_add e119 i8 (in_c 1 rfl) rfl; have a7 := oa2 ((in_c 1 rfl)) ((in_c 3 rfl)); omega
                                          have n198a : (s195.2.2.1 109 27).toInt ≤ (s195.2.2.1 109 22).toInt := by have b0 : z119 = s195.2.2.1 109 27 := fr_F (s := (sF (sF (sF (sF sc0 109 29 w0_109_27) 109 30 z19) 109 28 (Int32.ofInt 3)) 109 27 z119)) (sF_get) hF195 rfl; have b1 : u_109_22 = s195.2.2.1 109 22 := fr_F (s := (sF (sF (sF (sF sc0 109 29 w0_109_27) 109 30 z19) 109 28 (Int32.ofInt 3)) 109 27 z119)) (sF_ne rfl (sF_ne rfl (sF_ne rfl (sF_ne rfl (fr_F e_109_22 hFc0 rfl))))) hF195 rfl; rw [← b0, ← b1]; exact n198
                                          have n198b : (u_109_27).toInt ≤ (z119).toInt := by have a0 := oa6 i8a i8 ((in_c 0 rfl)) i99x3 i195a i119; have a6 := t_add e119 i8 (in_c 1 rfl) rfl; have a7 := oa2 ((in_c 1 rfl)) ((in_c 3 rfl)); omega
                                          have n198c : (s.2.2.1 109 27).toInt ≤ (s195.2.2.1 109 27).toInt := by have b0 : z119 = s195.2.2.1 109 27 := fr_F (s := (sF (sF (sF (sF sc0 109 29 w0_109_27) 109 30 z19) 109 28 (Int32.ofInt 3)) 109 27 z119)) (sF_get) hF195 rfl; first | (rw [← b0, ← e_109_27]; exact n198b) | (rw [← b0]; exact n198b)
                                          have n198d : ((Int32.ofInt 3)).toInt ≠ 0 → (u_109_27).toInt + 1 ≤ (z119).toInt := by have a0 := oa6 i8a i8 ((in_c 0 rfl)) i99x3 i195a i119; have a6 := t_add e119 i8 (in_c 1 rfl) rfl; have a7 := oa2 ((in_c 1 rfl)) ((in_c 3 rfl)); omega
                                          have n198e : (s195.2.2.1 109 28).toInt ≠ 0 → (s.2.2.1 109 27).toInt + 1 ≤ (s195.2.2.1 109 27).toInt := by have b0 : (Int32.ofInt 3) = s195.2.2.1 109 28 := fr_F (s := (sF (sF (sF (sF sc0 109 29 w0_109_27) 109 30 z19) 109 28 (Int32.ofInt 3)) 109 27 z119)) (sF_ne rfl (sF_get)) hF195 rfl; have b1 : z119 = s195.2.2.1 109 27 := fr_F (s := (sF (sF (sF (sF sc0 109 29 w0_109_27) 109 30 z19) 109 28 (Int32.ofInt 3)) 109 27 z119)) (sF_get) hF195 rfl; first | (rw [← b0, ← b1, ← e_109_27]; exact n198d) | (rw [← b0, ← b1]; exact n198d)
                                          exact g_return (gd rfl) rfl (hP _ _ ⟨s195, hI195, (fr_tr rfl (fr_sF rfl (fr_sF rfl (fr_sF rfl (fr_sF rfl hFc0)))) hF195), n198a, n198c, n198e, rfl, rfl⟩)
                                    · skip
                                      exact n_eq c168 i99x3 (in_c 41 rfl) rfl
                    · skip
                      exact zn_ne c102 (in_c 0 rfl) rfl
                  · skip
                    have i99x3 := r_le2 97 126 c99x3 (in_c 97 rfl) i79x9 rfl
                    refine g_iload_n 7 (gd rfl) rfl rfl ?_
                    refine g_bipush 122 9 (gd rfl) rfl rfl ?_
                    refine g_cmp_gt 12 16 (gd rfl) rfl rfl (fun c99x9 => ?_) (fun c99x9 => ?_)
                    · skip
                      have i99x9 := r_lt2 123 126 c99x9 (in_c 122 rfl) i99x3 rfl
                      refine g_iconst 0 17 (gd rfl) rfl rfl ?_
                      refine g_ireturn (gd rfl) rfl (nb01 (in_w 0 1 (in_c 0 rfl) rfl)) (hp99 _ _ ?_)
                      show GG _ _ _ _ _ _ _ _ [.int (Int32.ofInt 0), .ref (A 109)] _ _ _
                      refine g_if_eq 105 109 (gd rfl) rfl rfl (fun c102 => ?_) (fun c102 => ?_)
                      · skip
                        refine g_iconst 3 110 (gd rfl) rfl rfl ?_
                        refine g_putI 113 (gd rfl) rfl rfl rfl rfl ?_
                        have hI110 := inv_sF (q := 109) (j := 28) hI75 rfl (in_w (-2147483648) 2147483647 (in_c 3 rfl) rfl)
                        refine g_aload_n 114 (gd rfl) rfl rfl ?_
                        refine g_dup 115 (gd rfl) rfl rfl ?_
                        refine g_getI 118 (gd rfl) rfl rfl rfl (fun z115 e115 => ?_)
                        have q115 : w0_109_27 = z115 := (sF_ne rfl (sF_ne rfl (sF_ne rfl (v0_109_27)))).trans e115.symm
                        subst q115
                        refine g_iconst 1 119 (gd rfl) rfl rfl ?_
                        refine g_iadd 120 (gd rfl) rfl (fun z119 e119 => ?_)
                        have i119 := in_add 1 1000 e119 i8 (in_c 1 rfl) rfl rfl
                        refine g_putI 123 (gd rfl) rfl rfl rfl rfl ?_
                        have hI120 := inv_sF (q := 109) (j := 27) hI110 rfl (in_w 0 1000 i119 rfl)
                        refine g_iload_n 124 (gd rfl) rfl rfl ?_
                        refine g_bipush 59 126 (gd rfl) rfl rfl ?_
                        refine g_cmp_eq 129 171 (gd rfl) rfl rfl (fun c126 => ?_) (fun c126 => ?_)
                        · skip
                          exact n_eq c126 i99x9 (in_c 59 rfl) rfl
                        · skip
                          refine g_iload_n 130 (gd rfl) rfl rfl ?_
                          refine g_bipush 60 132 (gd rfl) rfl rfl ?_
                          refine g_cmp_eq 135 171 (gd rfl) rfl rfl (fun c132 => ?_) (fun c132 => ?_)
                          · skip
                            exact n_eq c132 i99x9 (in_c 60 rfl) rfl
                          · skip
                            refine g_iload_n 136 (gd rfl) rfl rfl ?_
                            refine g_bipush 61 138 (gd rfl) rfl rfl ?_
                            refine g_cmp_eq 141 171 (gd rfl) rfl rfl (fun c138 => ?_) (fun c138 => ?_)
                            · skip
                              exact n_eq c138 i99x9 (in_c 61 rfl) rfl
                            · skip
                              refine g_iload_n 142 (gd rfl) rfl rfl ?_
                              refine g_bipush 43 144 (gd rfl) rfl rfl ?_
                              refine g_cmp_eq 147 171 (gd rfl) rfl rfl (fun c144 => ?_) (fun c144 => ?_)
                              · skip
                                exact n_eq c144 i99x9 (in_c 43 rfl) rfl
                              · skip
                                refine g_iload_n 148 (gd rfl) rfl rfl ?_
                                refine g_bipush 45 150 (gd rfl) rfl rfl ?_
                                refine g_cmp_eq 153 171 (gd rfl) rfl rfl (fun c150 => ?_) (fun c150 => ?_)
                                · skip
                                  exact n_eq c150 i99x9 (in_c 45 rfl) rfl
                                · skip
                                  refine g_iload_n 154 (gd rfl) rfl rfl ?_
                                  refine g_bipush 42 156 (gd rfl) rfl rfl ?_
                                  refine g_cmp_eq 159 171 (gd rfl) rfl rfl (fun c156 => ?_) (fun c156 => ?_)
                                  · skip
                                    exact n_eq c156 i99x9 (in_c 42 rfl) rfl
                                  · skip
                                    refine g_iload_n 160 (gd rfl) rfl rfl ?_
                                    refine g_bipush 40 162 (gd rfl) rfl rfl ?_
                                    refine g_cmp_eq 165 171 (gd rfl) rfl rfl (fun c162 => ?_) (fun c162 => ?_)
                                    · skip
                                      exact n_eq c162 i99x9 (in_c 40 rfl) rfl
                                    · skip
                                      refine g_iload_n 166 (gd rfl) rfl rfl ?_
                                      refine g_bipush 41 168 (gd rfl) rfl rfl ?_
                                      refine g_cmp_ne 171 175 (gd rfl) rfl rfl (fun c168 => ?_) (fun c168 => ?_)
                                      · skip
                                        refine g_iconst 0 176 (gd rfl) rfl rfl ?_
                                        refine g_istore_n 177 (gd rfl) rfl (Nat.le_of_ble_eq_true rfl) ?_
                                        refine g_aload_n 178 (gd rfl) rfl rfl ?_
                                        refine g_getI 181 (gd rfl) rfl rfl rfl (fun z178 e178 => ?_)
                                        have q178 : (Int32.ofInt 3) = z178 := (sF_ne rfl (sF_get)).trans e178.symm
                                        subst q178
                                        refine g_iconst 3 182 (gd rfl) rfl rfl ?_
                                        refine g_cmp_ne 185 198 (gd rfl) rfl rfl (fun c182 => ?_) (fun c182 => ?_)
                                        · skip
                                          exact n_ne c182 (in_c 3 rfl) (in_c 3 rfl) rfl
                                        · skip
                                          refine g_iload_n 186 (gd rfl) rfl rfl ?_
                                          refine g_if_ne 189 198 (gd rfl) rfl rfl (fun c186 => ?_) (fun c186 => ?_)
                                          · skip
                                            exact zn_ne c186 (in_c 0 rfl) rfl
                                          · skip
                                            refine g_aload_n 190 (gd rfl) rfl rfl ?_
                                            refine g_iconst 1 191 (gd rfl) rfl rfl ?_
                                            refine g_aload_n 192 (gd rfl) rfl rfl ?_
                                            refine g_getI 195 (gd rfl) rfl rfl rfl (fun z192 e192 => ?_)
                                            have q192 : w0_109_27 = z192 := (sF_ne rfl (sF_ne rfl (sF_ne rfl (sF_get)))).trans e192.symm
                                            subst q192
                                            refine g_callv (X := _) (As := [.int (Int32.ofInt 1), .int w0_109_27]) (r := []) (b := A 109) (q := 109) 198 (gd rfl) rfl rfl rfl rfl rfl (ww_o rfl) (Nat.le_of_ble_eq_true rfl) (Nat.zero_le _) (Nat.zero_le _) (k_298 (by first | exact dq1 hd rfl | exact dq0 hd rfl | exact dq2 hd rfl | exact dq3 hd rfl | omega) hI120 (in_w 1 5 (in_c 1 rfl) rfl)) (fun e u h => h) (fun v u h => ?_)
                                            obtain ⟨s195, hI195, hF195, n195, rfl, rfl⟩ := h
                                            obtain ⟨z195a, e195⟩ : ∃ w, w = s195.2.2.1 109 23 := ⟨_, rfl⟩
                                            have i195a := inv_F hI195 0 9 rfl e195
                                            rw [← (show z195a = s195.2.2.1 109 23 from e195)] at n195
                                            show GG _ _ _ _ _ _ _ _ [] _ _ _
                                            have n198 : (z119).toInt ≤ (u_109_22).toInt := by have a0 := oa6 i8a i8 ((in_c 0 rfl)) i99x9 i195a i119; have a6 := t_add e119 i8 (in_c 1 rfl) rfl; have a7 := oa2 ((in_c 1 rfl)) ((in_c 3 rfl)); omega
                                            have n198a : (s195.2.2.1 109 27).toInt ≤ (s195.2.2.1 109 22).toInt := by have b0 : z119 = s195.2.2.1 109 27 := fr_F (s := (sF (sF (sF (sF sc0 109 29 w0_109_27) 109 30 z19) 109 28 (Int32.ofInt 3)) 109 27 z119)) (sF_get) hF195 rfl; have b1 : u_109_22 = s195.2.2.1 109 22 := fr_F (s := (sF (sF (sF (sF sc0 109 29 w0_109_27) 109 30 z19) 109 28 (Int32.ofInt 3)) 109 27 z119)) (sF_ne rfl (sF_ne rfl (sF_ne rfl (sF_ne rfl (fr_F e_109_22 hFc0 rfl))))) hF195 rfl; rw [← b0, ← b1]; exact n198
                                            have n198b : (u_109_27).toInt ≤ (z119).toInt := by have a0 := oa6 i8a i8 ((in_c 0 rfl)) i99x9 i195a i119; have a6 := t_add e119 i8 (in_c 1 rfl) rfl; have a7 := oa2 ((in_c 1 rfl)) ((in_c 3 rfl)); omega
                                            have n198c : (s.2.2.1 109 27).toInt ≤ (s195.2.2.1 109 27).toInt := by have b0 : z119 = s195.2.2.1 109 27 := fr_F (s := (sF (sF (sF (sF sc0 109 29 w0_109_27) 109 30 z19) 109 28 (Int32.ofInt 3)) 109 27 z119)) (sF_get) hF195 rfl; first | (rw [← b0, ← e_109_27]; exact n198b) | (rw [← b0]; exact n198b)
                                            have n198d : ((Int32.ofInt 3)).toInt ≠ 0 → (u_109_27).toInt + 1 ≤ (z119).toInt := by have a0 := oa6 i8a i8 ((in_c 0 rfl)) i99x9 i195a i119; have a6 := t_add e119 i8 (in_c 1 rfl) rfl; have a7 := oa2 ((in_c 1 rfl)) ((in_c 3 rfl)); omega
                                            have n198e : (s195.2.2.1 109 28).toInt ≠ 0 → (s.2.2.1 109 27).toInt + 1 ≤ (s195.2.2.1 109 27).toInt := by have b0 : (Int32.ofInt 3) = s195.2.2.1 109 28 := fr_F (s := (sF (sF (sF (sF sc0 109 29 w0_109_27) 109 30 z19) 109 28 (Int32.ofInt 3)) 109 27 z119)) (sF_ne rfl (sF_get)) hF195 rfl; have b1 : z119 = s195.2.2.1 109 27 := fr_F (s := (sF (sF (sF (sF sc0 109 29 w0_109_27) 109 30 z19) 109 28 (Int32.ofInt 3)) 109 27 z119)) (sF_get) hF195 rfl; first | (rw [← b0, ← b1, ← e_109_27]; exact n198d) | (rw [← b0, ← b1]; exact n198d)
                                            exact g_return (gd rfl) rfl (hP _ _ ⟨s195, hI195, (fr_tr rfl (fr_sF rfl (fr_sF rfl (fr_sF rfl (fr_sF rfl hFc0)))) hF195), n198a, n198c, n198e, rfl, rfl⟩)
                                      · skip
                                        exact n_eq c168 i99x9 (in_c 41 rfl) rfl
                      · skip
                        exact zn_ne c102 (in_c 0 rfl) rfl
                    · skip
                      have i99x9 := r_le1 97 122 c99x9 i99x3 (in_c 122 rfl) rfl
                      refine g_iconst 1 13 (gd rfl) rfl rfl ?_
                      refine g_goto 17 (gd rfl) rfl ?_
                      refine g_ireturn (gd rfl) rfl (nb01 (in_w 0 1 (in_c 1 rfl) rfl)) (hp99 _ _ ?_)
                      show GG _ _ _ _ _ _ _ _ [.int (Int32.ofInt 1), .ref (A 109)] _ _ _
                      refine g_if_eq 105 109 (gd rfl) rfl rfl (fun c102 => ?_) (fun c102 => ?_)
                      · skip
                        exact zn_eq c102 (in_c 1 rfl) rfl
                      · skip
                        refine g_iconst 1 106 (gd rfl) rfl rfl ?_
                        refine g_goto 110 (gd rfl) rfl ?_
                        refine g_putI 113 (gd rfl) rfl rfl rfl rfl ?_
                        have hI110 := inv_sF (q := 109) (j := 28) hI75 rfl (in_w (-2147483648) 2147483647 (in_c 1 rfl) rfl)
                        refine g_aload_n 114 (gd rfl) rfl rfl ?_
                        refine g_dup 115 (gd rfl) rfl rfl ?_
                        refine g_getI 118 (gd rfl) rfl rfl rfl (fun z115 e115 => ?_)
                        have q115 : w0_109_27 = z115 := (sF_ne rfl (sF_ne rfl (sF_ne rfl (v0_109_27)))).trans e115.symm
                        subst q115
                        refine g_iconst 1 119 (gd rfl) rfl rfl ?_
                        refine g_iadd 120 (gd rfl) rfl (fun z119 e119 => ?_)
                        have i119 := in_add 1 1000 e119 i8 (in_c 1 rfl) rfl rfl
                        refine g_putI 123 (gd rfl) rfl rfl rfl rfl ?_
                        have hI120 := inv_sF (q := 109) (j := 27) hI110 rfl (in_w 0 1000 i119 rfl)
                        refine g_iload_n 124 (gd rfl) rfl rfl ?_
                        refine g_bipush 59 126 (gd rfl) rfl rfl ?_
                        refine g_cmp_eq 129 171 (gd rfl) rfl rfl (fun c126 => ?_) (fun c126 => ?_)
                        · skip
                          exact n_eq c126 i99x9 (in_c 59 rfl) rfl
                        · skip
                          refine g_iload_n 130 (gd rfl) rfl rfl ?_
                          refine g_bipush 60 132 (gd rfl) rfl rfl ?_
                          refine g_cmp_eq 135 171 (gd rfl) rfl rfl (fun c132 => ?_) (fun c132 => ?_)
                          · skip
                            exact n_eq c132 i99x9 (in_c 60 rfl) rfl
                          · skip
                            refine g_iload_n 136 (gd rfl) rfl rfl ?_
                            refine g_bipush 61 138 (gd rfl) rfl rfl ?_
                            refine g_cmp_eq 141 171 (gd rfl) rfl rfl (fun c138 => ?_) (fun c138 => ?_)
                            · skip
                              exact n_eq c138 i99x9 (in_c 61 rfl) rfl
                            · skip
                              refine g_iload_n 142 (gd rfl) rfl rfl ?_
                              refine g_bipush 43 144 (gd rfl) rfl rfl ?_
                              refine g_cmp_eq 147 171 (gd rfl) rfl rfl (fun c144 => ?_) (fun c144 => ?_)
                              · skip
                                exact n_eq c144 i99x9 (in_c 43 rfl) rfl
                              · skip
                                refine g_iload_n 148 (gd rfl) rfl rfl ?_
                                refine g_bipush 45 150 (gd rfl) rfl rfl ?_
                                refine g_cmp_eq 153 171 (gd rfl) rfl rfl (fun c150 => ?_) (fun c150 => ?_)
                                · skip
                                  exact n_eq c150 i99x9 (in_c 45 rfl) rfl
                                · skip
                                  refine g_iload_n 154 (gd rfl) rfl rfl ?_
                                  refine g_bipush 42 156 (gd rfl) rfl rfl ?_
                                  refine g_cmp_eq 159 171 (gd rfl) rfl rfl (fun c156 => ?_) (fun c156 => ?_)
                                  · skip
                                    exact n_eq c156 i99x9 (in_c 42 rfl) rfl
                                  · skip
                                    refine g_iload_n 160 (gd rfl) rfl rfl ?_
                                    refine g_bipush 40 162 (gd rfl) rfl rfl ?_
                                    refine g_cmp_eq 165 171 (gd rfl) rfl rfl (fun c162 => ?_) (fun c162 => ?_)
                                    · skip
                                      exact n_eq c162 i99x9 (in_c 40 rfl) rfl
                                    · skip
                                      refine g_iload_n 166 (gd rfl) rfl rfl ?_
                                      refine g_bipush 41 168 (gd rfl) rfl rfl ?_
                                      refine g_cmp_ne 171 175 (gd rfl) rfl rfl (fun c168 => ?_) (fun c168 => ?_)
                                      · skip
                                        refine g_iconst 0 176 (gd rfl) rfl rfl ?_
                                        refine g_istore_n 177 (gd rfl) rfl (Nat.le_of_ble_eq_true rfl) ?_
                                        refine g_aload_n 178 (gd rfl) rfl rfl ?_
                                        refine g_getI 181 (gd rfl) rfl rfl rfl (fun z178 e178 => ?_)
                                        have q178 : (Int32.ofInt 1) = z178 := (sF_ne rfl (sF_get)).trans e178.symm
                                        subst q178
                                        refine g_iconst 3 182 (gd rfl) rfl rfl ?_
                                        refine g_cmp_ne 185 198 (gd rfl) rfl rfl (fun c182 => ?_) (fun c182 => ?_)
                                        · skip
                                          have n198 : (z119).toInt ≤ (u_109_22).toInt := by have a0 := oa5 i8a i8 ((in_c 0 rfl)) i99x9 i119; have a5 := t_add e119 i8 (in_c 1 rfl) rfl; have a6 := in_u ((in_c 1 rfl)); omega
                                          have n198a : ((sF (sF (sF (sF sc0 109 29 w0_109_27) 109 30 z19) 109 28 (Int32.ofInt 1)) 109 27 z119).2.2.1 109 27).toInt ≤ ((sF (sF (sF (sF sc0 109 29 w0_109_27) 109 30 z19) 109 28 (Int32.ofInt 1)) 109 27 z119).2.2.1 109 22).toInt := by have b0 : z119 = (sF (sF (sF (sF sc0 109 29 w0_109_27) 109 30 z19) 109 28 (Int32.ofInt 1)) 109 27 z119).2.2.1 109 27 := sF_get; have b1 : u_109_22 = (sF (sF (sF (sF sc0 109 29 w0_109_27) 109 30 z19) 109 28 (Int32.ofInt 1)) 109 27 z119).2.2.1 109 22 := sF_ne rfl (sF_ne rfl (sF_ne rfl (sF_ne rfl (fr_F e_109_22 hFc0 rfl)))); rw [← b0, ← b1]; exact n198
                                          have n198b : (u_109_27).toInt ≤ (z119).toInt := by have a0 := oa5 i8a i8 ((in_c 0 rfl)) i99x9 i119; have a5 := t_add e119 i8 (in_c 1 rfl) rfl; have a6 := in_u ((in_c 1 rfl)); omega
                                          have n198c : (s.2.2.1 109 27).toInt ≤ ((sF (sF (sF (sF sc0 109 29 w0_109_27) 109 30 z19) 109 28 (Int32.ofInt 1)) 109 27 z119).2.2.1 109 27).toInt := by have b0 : z119 = (sF (sF (sF (sF sc0 109 29 w0_109_27) 109 30 z19) 109 28 (Int32.ofInt 1)) 109 27 z119).2.2.1 109 27 := sF_get; first | (rw [← b0, ← e_109_27]; exact n198b) | (rw [← b0]; exact n198b)
                                          have n198d : ((Int32.ofInt 1)).toInt ≠ 0 → (u_109_27).toInt + 1 ≤ (z119).toInt := by have a0 := oa5 i8a i8 ((in_c 0 rfl)) i99x9 i119; have a5 := t_add e119 i8 (in_c 1 rfl) rfl; have a6 := in_u ((in_c 1 rfl)); omega
                                          have n198e : ((sF (sF (sF (sF sc0 109 29 w0_109_27) 109 30 z19) 109 28 (Int32.ofInt 1)) 109 27 z119).2.2.1 109 28).toInt ≠ 0 → (s.2.2.1 109 27).toInt + 1 ≤ ((sF (sF (sF (sF sc0 109 29 w0_109_27) 109 30 z19) 109 28 (Int32.ofInt 1)) 109 27 z119).2.2.1 109 27).toInt := by have b0 : (Int32.ofInt 1) = (sF (sF (sF (sF sc0 109 29 w0_109_27) 109 30 z19) 109 28 (Int32.ofInt 1)) 109 27 z119).2.2.1 109 28 := sF_ne rfl (sF_get); have b1 : z119 = (sF (sF (sF (sF sc0 109 29 w0_109_27) 109 30 z19) 109 28 (Int32.ofInt 1)) 109 27 z119).2.2.1 109 27 := sF_get; first | (rw [← b0, ← b1, ← e_109_27]; exact n198d) | (rw [← b0, ← b1]; exact n198d)
                                          exact g_return (gd rfl) rfl (hP _ _ ⟨(sF (sF (sF (sF sc0 109 29 w0_109_27) 109 30 z19) 109 28 (Int32.ofInt 1)) 109 27 z119), hI120, (fr_sF rfl (fr_sF rfl (fr_sF rfl (fr_sF rfl hFc0)))), n198a, n198c, n198e, rfl, rfl⟩)
                                        · skip
                                          exact n_eq c182 (in_c 1 rfl) (in_c 3 rfl) rfl
                                      · skip
                                        exact n_eq c168 i99x9 (in_c 41 rfl) rfl
                · skip
                  exact zn_ne c82 (in_c 0 rfl) rfl
              · skip
                have i79x9 := r_le1 48 57 c79x9 i79x3 (in_c 57 rfl) rfl
                refine g_iconst 1 13 (gd rfl) rfl rfl ?_
                refine g_goto 17 (gd rfl) rfl ?_
                refine g_ireturn (gd rfl) rfl (nb01 (in_w 0 1 (in_c 1 rfl) rfl)) (hp79 _ _ ?_)
                show GG _ _ _ _ _ _ _ _ [.int (Int32.ofInt 1)] _ _ _
                refine g_if_eq 85 97 (gd rfl) rfl rfl (fun c82 => ?_) (fun c82 => ?_)
                · skip
                  exact zn_eq c82 (in_c 1 rfl) rfl
                · skip
                  refine g_aload_n 86 (gd rfl) rfl rfl ?_
                  refine g_iconst 2 87 (gd rfl) rfl rfl ?_
                  refine g_putI 90 (gd rfl) rfl rfl rfl rfl ?_
                  have hI87 := inv_sF (q := 109) (j := 28) hI75 rfl (in_w (-2147483648) 2147483647 (in_c 2 rfl) rfl)
                  refine g_aload_n 91 (gd rfl) rfl rfl ?_
                  refine g_bipush 6 93 (gd rfl) rfl rfl ?_
                  have v93 : w0_109_27 = (sF (sF (sF sc0 109 29 w0_109_27) 109 30 z19) 109 28 (Int32.ofInt 2)).2.2.1 109 27 := sF_ne rfl (sF_ne rfl (sF_ne rfl (v0_109_27)))
                  have v93a : u_109_22 = (sF (sF (sF sc0 109 29 w0_109_27) 109 30 z19) 109 28 (Int32.ofInt 2)).2.2.1 109 22 := sF_ne rfl (sF_ne rfl (sF_ne rfl (fr_F e_109_22 hFc0 rfl)))
                  have n93 : (w0_109_27).toInt < (u_109_22).toInt := by have a0 := oa4 i8a i8 i79x9 ((in_c 2 rfl)); omega
                  have p93 : 48 ≤ ((sF (sF (sF sc0 109 29 w0_109_27) 109 30 z19) 109 28 (Int32.ofInt 2)).1 125 ((sF (sF (sF sc0 109 29 w0_109_27) 109 30 z19) 109 28 (Int32.ofInt 2)).2.2.1 109 27).toNatClampNeg).toInt ∧ ((sF (sF (sF sc0 109 29 w0_109_27) 109 30 z19) 109 28 (Int32.ofInt 2)).1 125 ((sF (sF (sF sc0 109 29 w0_109_27) 109 30 z19) 109 28 (Int32.ofInt 2)).2.2.1 109 27).toNatClampNeg).toInt ≤ 57 := by first | (have hz : z19 = (sF (sF (sF sc0 109 29 w0_109_27) 109 30 z19) 109 28 (Int32.ofInt 2)).1 125 ((sF (sF (sF sc0 109 29 w0_109_27) 109 30 z19) 109 28 (Int32.ofInt 2)).2.2.1 109 27).toNatClampNeg := (by rw [← (show w0_109_27 = (sF (sF (sF sc0 109 29 w0_109_27) 109 30 z19) 109 28 (Int32.ofInt 2)).2.2.1 109 27 from sF_ne rfl (sF_ne rfl (sF_ne rfl (v0_109_27))))]; exact e19); rw [← hz]; exact i79x9) | (have hz : z71 = (sF (sF (sF sc0 109 29 w0_109_27) 109 30 z19) 109 28 (Int32.ofInt 2)).1 125 ((sF (sF (sF sc0 109 29 w0_109_27) 109 30 z19) 109 28 (Int32.ofInt 2)).2.2.1 109 27).toNatClampNeg := (by rw [← (show w0_109_27 = (sF (sF (sF sc0 109 29 w0_109_27) 109 30 z19) 109 28 (Int32.ofInt 2)).2.2.1 109 27 from sF_ne rfl (sF_ne rfl (sF_ne rfl (v0_109_27))))]; exact e71); rw [← hz]; exact i79x9)
                  refine g_callv (X := _) (As := [.int (Int32.ofInt 6)]) (r := []) (b := A 109) (q := 109) 96 (gd rfl) rfl rfl rfl rfl rfl (ww_o rfl) (Nat.le_of_ble_eq_true rfl) (Nat.zero_le _) (Nat.zero_le _) (k_300 (by first | exact dq1 hd rfl | exact dq0 hd rfl | exact dq2 hd rfl | exact dq3 hd rfl | omega) hI87 (in_w 6 7 (in_c 6 rfl) rfl) v93 v93a n93 p93) (fun e u h => h) (fun v u h => ?_)
                  obtain ⟨s93, hI93, hF93, n93a, n93b, rfl, rfl⟩ := h
                  obtain ⟨z93a, e93⟩ : ∃ w, w = s93.2.2.1 109 27 := ⟨_, rfl⟩
                  have i93a := inv_F hI93 0 1000 rfl e93
                  rw [← (show z93a = s93.2.2.1 109 27 from e93)] at n93a
                  rw [← (show u_109_22 = s93.2.2.1 109 22 from fr_F (s := (sF (sF (sF sc0 109 29 w0_109_27) 109 30 z19) 109 28 (Int32.ofInt 2))) (sF_ne rfl (sF_ne rfl (sF_ne rfl (fr_F e_109_22 hFc0 rfl)))) hF93 rfl)] at n93a
                  rw [← (show w0_109_27 = (sF (sF (sF sc0 109 29 w0_109_27) 109 30 z19) 109 28 (Int32.ofInt 2)).2.2.1 109 27 from sF_ne rfl (sF_ne rfl (sF_ne rfl (v0_109_27))))] at n93b
                  rw [← (show z93a = s93.2.2.1 109 27 from e93)] at n93b
                  show GG _ _ _ _ _ _ _ _ [] _ _ _
                  have n96 : (z93a).toInt ≤ (u_109_22).toInt := by have a0 := oa5 i8a i8 i79x9 i93a ((in_c 2 rfl)); omega
                  have n96a : (s93.2.2.1 109 27).toInt ≤ (s93.2.2.1 109 22).toInt := by have b0 : z93a = s93.2.2.1 109 27 := e93; have b1 : u_109_22 = s93.2.2.1 109 22 := fr_F (s := (sF (sF (sF sc0 109 29 w0_109_27) 109 30 z19) 109 28 (Int32.ofInt 2))) (sF_ne rfl (sF_ne rfl (sF_ne rfl (fr_F e_109_22 hFc0 rfl)))) hF93 rfl; rw [← b0, ← b1]; exact n96
                  have n96b : (u_109_27).toInt ≤ (z93a).toInt := by have a0 := oa5 i8a i8 i79x9 i93a ((in_c 2 rfl)); omega
                  have n96c : (s.2.2.1 109 27).toInt ≤ (s93.2.2.1 109 27).toInt := by have b0 : z93a = s93.2.2.1 109 27 := e93; first | (rw [← b0, ← e_109_27]; exact n96b) | (rw [← b0]; exact n96b)
                  have n96d : ((Int32.ofInt 2)).toInt ≠ 0 → (u_109_27).toInt + 1 ≤ (z93a).toInt := by have a0 := oa5 i8a i8 i79x9 i93a ((in_c 2 rfl)); omega
                  have n96e : (s93.2.2.1 109 28).toInt ≠ 0 → (s.2.2.1 109 27).toInt + 1 ≤ (s93.2.2.1 109 27).toInt := by have b0 : (Int32.ofInt 2) = s93.2.2.1 109 28 := fr_F (s := (sF (sF (sF sc0 109 29 w0_109_27) 109 30 z19) 109 28 (Int32.ofInt 2))) (sF_get) hF93 rfl; have b1 : z93a = s93.2.2.1 109 27 := e93; first | (rw [← b0, ← b1, ← e_109_27]; exact n96d) | (rw [← b0, ← b1]; exact n96d)
                  exact g_return (gd rfl) rfl (hP _ _ ⟨s93, hI93, (fr_tr rfl (fr_sF rfl (fr_sF rfl (fr_sF rfl hFc0))) hF93), n96a, n96c, n96e, rfl, rfl⟩)
          · skip
            have i54 := r_eq1 1 999 c54 i8 i8a rfl
            have i54a := r_eq2 1 999 c54 i8 i8a rfl
            refine g_aload_n 58 (gd rfl) rfl rfl ?_
            refine g_iconst 0 59 (gd rfl) rfl rfl ?_
            refine g_putI 62 (gd rfl) rfl rfl rfl rfl ?_
            have hI59 := inv_sF (q := 109) (j := 28) hI43 rfl (in_w (-2147483648) 2147483647 (in_c 0 rfl) rfl)
            have n62 : (w0_109_27).toInt ≤ (u_109_22).toInt := by first | exact n0_0 | (have a0 := oa3 i54a i54 ((in_c 0 rfl)); omega)
            have n62a : ((sF (sF sc0 109 29 w0_109_27) 109 28 (Int32.ofInt 0)).2.2.1 109 27).toInt ≤ ((sF (sF sc0 109 29 w0_109_27) 109 28 (Int32.ofInt 0)).2.2.1 109 22).toInt := by have b0 : w0_109_27 = (sF (sF sc0 109 29 w0_109_27) 109 28 (Int32.ofInt 0)).2.2.1 109 27 := sF_ne rfl (sF_ne rfl (v0_109_27)); have b1 : u_109_22 = (sF (sF sc0 109 29 w0_109_27) 109 28 (Int32.ofInt 0)).2.2.1 109 22 := sF_ne rfl (sF_ne rfl (fr_F e_109_22 hFc0 rfl)); rw [← b0, ← b1]; exact n62
            have n62b : (u_109_27).toInt ≤ (w0_109_27).toInt := by first | exact n0_1 | (have a0 := oa3 i54a i54 ((in_c 0 rfl)); omega)
            have n62c : (s.2.2.1 109 27).toInt ≤ ((sF (sF sc0 109 29 w0_109_27) 109 28 (Int32.ofInt 0)).2.2.1 109 27).toInt := by have b0 : w0_109_27 = (sF (sF sc0 109 29 w0_109_27) 109 28 (Int32.ofInt 0)).2.2.1 109 27 := sF_ne rfl (sF_ne rfl (v0_109_27)); first | (rw [← b0, ← e_109_27]; exact n62b) | (rw [← b0]; exact n62b)
            have n62d : ((Int32.ofInt 0)).toInt ≠ 0 → (u_109_27).toInt + 1 ≤ (w0_109_27).toInt := by exact fun h => absurd rfl h
            have n62e : ((sF (sF sc0 109 29 w0_109_27) 109 28 (Int32.ofInt 0)).2.2.1 109 28).toInt ≠ 0 → (s.2.2.1 109 27).toInt + 1 ≤ ((sF (sF sc0 109 29 w0_109_27) 109 28 (Int32.ofInt 0)).2.2.1 109 27).toInt := by have b0 : (Int32.ofInt 0) = (sF (sF sc0 109 29 w0_109_27) 109 28 (Int32.ofInt 0)).2.2.1 109 28 := sF_get; have b1 : w0_109_27 = (sF (sF sc0 109 29 w0_109_27) 109 28 (Int32.ofInt 0)).2.2.1 109 27 := sF_ne rfl (sF_ne rfl (v0_109_27)); first | (rw [← b0, ← b1, ← e_109_27]; exact n62d) | (rw [← b0, ← b1]; exact n62d)
            exact g_return (gd rfl) rfl (hP _ _ ⟨(sF (sF sc0 109 29 w0_109_27) 109 28 (Int32.ofInt 0)), hI59, (fr_sF rfl (fr_sF rfl hFc0)), n62a, n62c, n62e, rfl, rfl⟩)
        · skip
          have i22 := r_eq1 32 32 c22 i19 (in_c 32 rfl) rfl
          refine g_aload_n 26 (gd rfl) rfl rfl ?_
          refine g_dup 27 (gd rfl) rfl rfl ?_
          refine g_getI 30 (gd rfl) rfl rfl rfl (fun z27 e27 => ?_)
          have q27 : w0_109_27 = z27 := (v0_109_27).trans e27.symm
          subst q27
          refine g_iconst 1 31 (gd rfl) rfl rfl ?_
          refine g_iadd 32 (gd rfl) rfl (fun z31 e31 => ?_)
          have i31 := in_add 1 1000 e31 i8 (in_c 1 rfl) rfl rfl
          refine g_putI 35 (gd rfl) rfl rfl rfl rfl ?_
          have hI32 := inv_sF (q := 109) (j := 27) hIc0 rfl (in_w 0 1000 i31 rfl)
          refine g_goto 0 (gd rfl) rfl ?_
          have v0 : z31 = (sF sc0 109 27 z31).2.2.1 109 27 := sF_get
          have n0 : (z31).toInt ≤ (u_109_22).toInt := by have a0 := oa3 i8a i8 i31; have a3 := t_add e31 i8 (in_c 1 rfl) rfl; have a4 := in_u ((in_c 1 rfl)); omega
          have n0a : (u_109_27).toInt ≤ (z31).toInt := by have a0 := oa3 i8a i8 i31; have a3 := t_add e31 i8 (in_c 1 rfl) rfl; have a4 := in_u ((in_c 1 rfl)); omega
          have m0 : (u_109_22).toInt - (z31).toInt < ((k0 : Nat) : Int) := by have a0 := oa3 i8a i8 i31; have a3 := t_add e31 i8 (in_c 1 rfl) rfl; have a4 := in_u ((in_c 1 rfl)); omega
          exact gg_w (by first | exact Nat.le_add_right _ _ | exact gw2 | exact gw3 | exact gwe rfl | exact gwf rfl | exact gwg rfl | exact gwh rfl | omega) (gg_f (gf_cons rfl gf_nil) (ih0  (sF sc0 109 27 z31) z31 hI32 (fr_sF rfl hFc0) v0 n0 n0a m0))
  refine g_enter2 (k := 392) (N := 901801) (by first | exact dq1 hd rfl | exact dq0 hd rfl | exact dq2 hd rfl | exact dq3 hd rfl | omega) rfl (Nat.le_of_ble_eq_true rfl) ?_
  have n0 : (u_109_27).toInt ≤ (u_109_22).toInt := by have a0 := oa2 ((inv_F hI 0 1000 rfl e_109_22)) ((inv_F hI 0 1000 rfl e_109_27)); omega
  have n0a : (u_109_27).toInt ≤ (u_109_27).toInt := by exact Int.le_refl _
  have m0 : (u_109_22).toInt - (u_109_27).toInt < ((1001 : Nat) : Int) := by have a0 := oa2 ((inv_F hI 0 1000 rfl e_109_22)) ((inv_F hI 0 1000 rfl e_109_27)); omega
  exact gg_w (by first | exact Nat.le_of_ble_eq_true rfl | omega) (gg_f (gf_cons rfl gf_nil) (ct0 1001 s u_109_27 hI fr_rf e_109_27 n0 n0a m0))

def fm_399 : FM := ([187, 188], [], [(109, 109), (109, 111), (109, 112)], [])
/-- GraphHouseModel.settle -/
theorem k_399 {Z : AmZ} {A : Nat → Nat} {s : GS} {ex : va_W} {d : Nat} {X : AmX} {x1 : Int32} {u_109_109 : Int32} {u_109_111 : Int32} (hd : 3 ≤ d) (hI : Inv s) (h1 : In x1 1 3) (e_109_109 : u_109_109 = s.2.2.1 109 109) (e_109_111 : u_109_111 = s.2.2.1 109 111) (p_0 : (u_109_109).toInt + (u_109_111).toInt ≤ 120) : GC Z d 399 [.ref (A 109), .int x1] (WW Z A s ++ ex) 0 0 (fun v u => ∃ t : GS, Inv t ∧ Fr fm_399 s t ∧ ((t.2.2.1 109 109).toInt + (t.2.2.1 109 111).toInt = (s.2.2.1 109 109).toInt + (s.2.2.1 109 111).toInt) ∧ v = none ∧ u = WW Z A t ++ ex ∧ (PR s t 1 1)) X := by
  intro post xp hP hX
  have ct0 : ∀ (k0 : Nat) (sc0 : GS) (w0_109_109 : Int32) (w0_109_111 : Int32), Inv sc0 → Fr fm_399 s sc0 → (w0_109_109 = sc0.2.2.1 109 109) → (w0_109_111 = sc0.2.2.1 109 111) → ((w0_109_109).toInt + (w0_109_111).toInt = (u_109_109).toInt + (u_109_111).toInt) → (PR s sc0 1 1) → (w0_109_111).toInt < (k0 : Int) → GG Z (d - 1) 399 post (gx xp) (1 + k0 * 900) 0 (fun j => xlook j [(0, .ref (A 109)), (1, .int x1)]) [] (WW Z A sc0 ++ ex) 0 0 := by
    intro k0
    induction k0 with
    | zero => intro sc0 w0_109_109 w0_109_111 hIc0 hFc0 v0_109_109 v0_109_111 n0_0 g0_0 mm0; exfalso; have a0 := oa3 h1 ((inv_F hIc0 0 200 rfl v0_109_111)) ((inv_F hIc0 0 400 rfl v0_109_109)); omega
    | succ k0 ih0 =>
      intro sc0 w0_109_109 w0_109_111 hIc0 hFc0 v0_109_109 v0_109_111 n0_0 g0_0 mm0
      refine gg_w (M := 1 + k0 * 900 + 900) gws ?_
      refine g_aload_n 1 (gd rfl) rfl rfl ?_
      refine g_getI 4 (gd rfl) rfl rfl rfl (fun z1 e1 => ?_)
      have q1 : w0_109_111 = z1 := (v0_109_111).trans e1.symm
      subst q1
      refine g_if_le 7 34 (gd rfl) rfl rfl (fun c4 => ?_) (fun c4 => ?_)
      · skip
        have i4 := z_le 0 0 c4 (inv_F hIc0 0 200 rfl v0_109_111) rfl
        have n34 : PR s sc0 1 1 := by exact g0_0
        have n34a : (w0_109_109).toInt + (w0_109_111).toInt = (u_109_109).toInt + (u_109_111).toInt := by first | exact n0_0 | (have a0 := oa3 h1 i4 ((inv_F hIc0 0 400 rfl v0_109_109)); omega)
        have n34b : (sc0.2.2.1 109 109).toInt + (sc0.2.2.1 109 111).toInt = (s.2.2.1 109 109).toInt + (s.2.2.1 109 111).toInt := by have b0 : w0_109_109 = sc0.2.2.1 109 109 := v0_109_109; have b1 : w0_109_111 = sc0.2.2.1 109 111 := v0_109_111; first | (rw [← b0, ← b1, ← e_109_109, ← e_109_111]; exact n34a) | (rw [← b0, ← b1]; exact n34a)
        exact g_return (gd rfl) rfl (hP _ _ ⟨sc0, hIc0, hFc0, n34b, rfl, rfl, n34⟩)
      · skip
        have i4 := z_gt 1 200 c4 (inv_F hIc0 0 200 rfl v0_109_111) rfl
        refine g_aload_n 8 (gd rfl) rfl rfl ?_
        refine g_callv (X := _) (As := []) (r := []) (b := A 109) (q := 109) 11 (gd rfl) rfl rfl rfl rfl rfl (ww_o rfl) (Nat.le_of_ble_eq_true rfl) (mc := 0) (ms := 0) (Nat.zero_le _) (Nat.zero_le _) (P := fun v u => _) ?_ (fun e u h => h) (fun v u h => h)
        intro po8 xx8 hp8 hx8
        refine g_enter2 (k := 395) (N := 300) (by first | exact dq1 hd rfl | exact dq0 hd rfl | exact dq2 hd rfl | exact dq3 hd rfl | omega) rfl (Nat.le_of_ble_eq_true rfl) ?_
        refine g_aload_n 1 (gd rfl) rfl rfl ?_
        refine g_getI 4 (gd rfl) rfl rfl rfl (fun z8x1 e8x1 => ?_)
        have q8x1 : w0_109_111 = z8x1 := (v0_109_111).trans e8x1.symm
        subst q8x1
        refine g_if_ne 7 11 (gd rfl) rfl rfl (fun c8x4 => ?_) (fun c8x4 => ?_)
        · skip
          refine g_aload_n 12 (gd rfl) rfl rfl ?_
          refine g_getA (q2 := 190) 15 (gd rfl) rfl rfl rfl rfl ?_
          refine g_aload_n 16 (gd rfl) rfl rfl ?_
          refine g_getI 19 (gd rfl) rfl rfl rfl (fun z8x16 e8x16 => ?_)
          have q8x16 : w0_109_111 = z8x16 := (v0_109_111).trans e8x16.symm
          subst q8x16
          refine g_iconst 1 20 (gd rfl) rfl rfl ?_
          refine g_isub 21 (gd rfl) rfl (fun z8x20 e8x20 => ?_)
          have i8x20 := in_sub 0 199 e8x20 i4 (in_c 1 rfl) rfl rfl
          refine g_iaload 22 (gd rfl) rfl (n := 200) rfl (in_ix i8x20 rfl) (fun z8x21 e8x21 => ?_)
          refine g_ireturn (gd rfl) rfl rfl (hp8 _ _ ?_)
          show GG _ _ _ _ _ _ _ _ [.int z8x21] _ _ _
          refine g_calls (As := [.int z8x21]) (r := []) 14 (gd rfl) rfl rfl rfl rfl rfl (Nat.le_of_ble_eq_true rfl) (mc := 0) (ms := 0) (Nat.zero_le _) (Nat.zero_le _) (P := fun v u => _) ?_ (fun v u h => h)
          intro po11 xx11 hp11 hx11
          refine g_enter2 (k := 398) (N := 300) (by first | exact dq1 hd rfl | exact dq0 hd rfl | exact dq2 hd rfl | exact dq3 hd rfl | omega) rfl (Nat.le_of_ble_eq_true rfl) ?_
          refine g_iload_n 1 (gd rfl) rfl rfl ?_
          refine g_bipush 42 3 (gd rfl) rfl rfl ?_
          refine g_cmp_ne 6 10 (gd rfl) rfl rfl (fun c11x3 => ?_) (fun c11x3 => ?_)
          · skip
            refine g_iload_n 11 (gd rfl) rfl rfl ?_
            refine g_bipush 43 13 (gd rfl) rfl rfl ?_
            refine g_cmp_eq 16 22 (gd rfl) rfl rfl (fun c11x13 => ?_) (fun c11x13 => ?_)
            · skip
              have i11x13 := r_eq1 43 43 c11x13 (i_rng z8x21) (in_c 43 rfl) rfl
              refine g_iconst 2 23 (gd rfl) rfl rfl ?_
              refine g_goto 43 (gd rfl) rfl ?_
              refine g_ireturn (gd rfl) rfl rfl (hp11 _ _ ?_)
              show GG _ _ _ _ _ _ _ _ [.int (Int32.ofInt 2)] _ _ _
              refine g_iload_n 15 (gd rfl) rfl rfl ?_
              refine g_cmp_lt 18 34 (gd rfl) rfl rfl (fun c15 => ?_) (fun c15 => ?_)
              · skip
                have i15 := r_lt2 3 3 c15 (in_c 2 rfl) h1 rfl
                have n34 : PR s sc0 1 1 := by exact g0_0
                have n34a : (w0_109_109).toInt + (w0_109_111).toInt = (u_109_109).toInt + (u_109_111).toInt := by first | exact n0_0 | (have a0 := oa4 i15 i4 ((inv_F hIc0 0 400 rfl v0_109_109)) i8x20; have a4 := t_sub e8x20 i4 (in_c 1 rfl) rfl; have a5 := in_u ((in_c 1 rfl)); omega)
                have n34b : (sc0.2.2.1 109 109).toInt + (sc0.2.2.1 109 111).toInt = (s.2.2.1 109 109).toInt + (s.2.2.1 109 111).toInt := by have b0 : w0_109_109 = sc0.2.2.1 109 109 := v0_109_109; have b1 : w0_109_111 = sc0.2.2.1 109 111 := v0_109_111; first | (rw [← b0, ← b1, ← e_109_109, ← e_109_111]; exact n34a) | (rw [← b0, ← b1]; exact n34a)
                exact g_return (gd rfl) rfl (hP _ _ ⟨sc0, hIc0, hFc0, n34b, rfl, rfl, n34⟩)
              · skip
                have i15 := r_le1 1 2 c15 h1 (in_c 2 rfl) rfl
                refine g_aload_n 19 (gd rfl) rfl rfl ?_
                refine g_aload_n 20 (gd rfl) rfl rfl ?_
                refine g_callv (X := _) (As := []) (r := [.ref (A 109)]) (b := A 109) (q := 109) 23 (gd rfl) rfl rfl rfl rfl rfl (ww_o rfl) (Nat.le_of_ble_eq_true rfl) (mc := 0) (ms := 0) (Nat.zero_le _) (Nat.zero_le _) (P := fun v u => _) ?_ (fun e u h => h) (fun v u h => h)
                intro po20 xx20 hp20 hx20
                refine g_enter2 (k := 395) (N := 300) (by first | exact dq1 hd rfl | exact dq0 hd rfl | exact dq2 hd rfl | exact dq3 hd rfl | omega) rfl (Nat.le_of_ble_eq_true rfl) ?_
                refine g_aload_n 1 (gd rfl) rfl rfl ?_
                refine g_getI 4 (gd rfl) rfl rfl rfl (fun z20x1 e20x1 => ?_)
                have q20x1 : w0_109_111 = z20x1 := (v0_109_111).trans e20x1.symm
                subst q20x1
                refine g_if_ne 7 11 (gd rfl) rfl rfl (fun c20x4 => ?_) (fun c20x4 => ?_)
                · skip
                  refine g_aload_n 12 (gd rfl) rfl rfl ?_
                  refine g_getA (q2 := 190) 15 (gd rfl) rfl rfl rfl rfl ?_
                  refine g_aload_n 16 (gd rfl) rfl rfl ?_
                  refine g_getI 19 (gd rfl) rfl rfl rfl (fun z20x16 e20x16 => ?_)
                  have q20x16 : w0_109_111 = z20x16 := (v0_109_111).trans e20x16.symm
                  subst q20x16
                  refine g_iconst 1 20 (gd rfl) rfl rfl ?_
                  refine g_isub 21 (gd rfl) rfl (fun z20x20 e20x20 => ?_)
                  have i20x20 := in_sub 0 199 e20x20 i4 (in_c 1 rfl) rfl rfl
                  refine g_iaload 22 (gd rfl) rfl (n := 200) rfl (in_ix i20x20 rfl) (fun z20x21 e20x21 => ?_)
                  refine g_ireturn (gd rfl) rfl rfl (hp20 _ _ ?_)
                  show GG _ _ _ _ _ _ _ _ [.int z20x21, .ref (A 109)] _ _ _
                  refine g_iconst 0 24 (gd rfl) rfl rfl ?_
                  have n24 : (w0_109_109).toInt ≤ 399 := by have a0 := oa4 i15 i4 ((inv_F hIc0 0 400 rfl v0_109_109)) i20x20; have a4 := t_sub e20x20 i4 (in_c 1 rfl) rfl; have a5 := oa2 ((in_c 1 rfl)) i8x20; have a7 := t_sub e8x20 i4 (in_c 1 rfl) rfl; omega
                  refine g_callv (X := _) (As := [.int z20x21, .int (Int32.ofInt 0)]) (r := []) (b := A 109) (q := 109) 27 (gd rfl) rfl rfl rfl rfl rfl (ww_o rfl) (Nat.le_of_ble_eq_true rfl) (Nat.zero_le _) (Nat.zero_le _) (k_393 (by first | exact dq1 hd rfl | exact dq0 hd rfl | exact dq2 hd rfl | exact dq3 hd rfl | omega) hIc0 v0_109_109 n24) (fun e u h => h) (fun v u h => ?_)
                  obtain ⟨s24, hI24, hF24, n24a, rfl, rfl, p24, p24a⟩ := h
                  obtain ⟨z24a, e24⟩ : ∃ w, w = s24.2.2.1 109 109 := ⟨_, rfl⟩
                  have i24a := inv_F hI24 0 400 rfl e24
                  rw [← (show w0_109_109 = sc0.2.2.1 109 109 from v0_109_109)] at n24a
                  rw [← (show z24a = s24.2.2.1 109 109 from e24)] at n24a
                  show GG _ _ _ _ _ _ _ _ [] _ _ _
                  refine g_aload_n 28 (gd rfl) rfl rfl ?_
                  have v28 : w0_109_111 = s24.2.2.1 109 111 := fr_F (v0_109_111) hF24 rfl
                  have n28 : 1 ≤ (w0_109_111).toInt := by have a0 := oa5 i15 i4 ((inv_F hIc0 0 400 rfl v0_109_109)) i24a i20x20; have a5 := t_sub e20x20 i4 (in_c 1 rfl) rfl; have a6 := oa2 ((in_c 1 rfl)) i8x20; have a8 := t_sub e8x20 i4 (in_c 1 rfl) rfl; omega
                  refine g_callv (X := _) (As := []) (r := []) (b := A 109) (q := 109) 31 (gd rfl) rfl rfl rfl rfl rfl (ww_o rfl) (Nat.le_of_ble_eq_true rfl) (Nat.zero_le _) (Nat.zero_le _) (k_397 (by first | exact dq1 hd rfl | exact dq0 hd rfl | exact dq2 hd rfl | exact dq3 hd rfl | omega) hI24 v28 n28) (fun e u h => h) (fun v u h => ?_)
                  obtain ⟨s28, hI28, hF28, n28a, rfl, rfl⟩ := h
                  obtain ⟨z28a, e28⟩ : ∃ w, w = s28.2.2.1 109 111 := ⟨_, rfl⟩
                  have i28a := inv_F hI28 0 200 rfl e28
                  rw [← (show w0_109_111 = s24.2.2.1 109 111 from fr_F (v0_109_111) hF24 rfl)] at n28a
                  rw [← (show z28a = s28.2.2.1 109 111 from e28)] at n28a
                  show GG _ _ _ _ _ _ _ _ [] _ _ _
                  refine g_goto 0 (gd rfl) rfl ?_
                  have v0 : z24a = s28.2.2.1 109 109 := fr_F (e24) hF28 rfl
                  have n0 : (z24a).toInt + (z28a).toInt = (u_109_109).toInt + (u_109_111).toInt := by have a0 := oa6 i15 i4 ((inv_F hIc0 0 400 rfl v0_109_109)) i28a i24a i20x20; have a6 := t_sub e20x20 i4 (in_c 1 rfl) rfl; have a7 := oa2 ((in_c 1 rfl)) i8x20; have a9 := t_sub e8x20 i4 (in_c 1 rfl) rfl; omega
                  have n0a : PR s s28 1 1 := by first | exact pr_rf | (have hz : z20x21 = z8x21 := (by rw [e20x21, e8x21, e20x20, e8x20]); exact pr_tr g0_0 (pr_set (n := (sc0.2.2.1 109 109).toNatClampNeg) (x := z20x21) (v := Int32.ofInt 0) (b := z20x20) ((hF28.1 187 rfl).trans p24) ((hF28.1 188 rfl).trans p24a) rfl (inv_F hIc0 0 400 rfl rfl).1 (by rw [hF28.2.2.1 109 109 rfl, ← e24, ← v0_109_109]; exact n24a) ((hF28.2.2.1 109 23 rfl).trans (hF24.2.2.1 109 23 rfl)) ((hF28.1 190 rfl).trans (hF24.1 190 rfl)) (by rw [← e28]; have a0 := oa6 i15 i4 ((inv_F hIc0 0 400 rfl v0_109_109)) i28a i24a i20x20; have a6 := t_sub e20x20 i4 (in_c 1 rfl) rfl; have a7 := oa2 ((in_c 1 rfl)) i8x20; have a9 := t_sub e8x20 i4 (in_c 1 rfl) rfl; omega) (by rw [← v0_109_111]; have a0 := oa6 i15 i4 ((inv_F hIc0 0 400 rfl v0_109_109)) i28a i24a i20x20; have a6 := t_sub e20x20 i4 (in_c 1 rfl) rfl; have a7 := oa2 ((in_c 1 rfl)) i8x20; have a9 := t_sub e8x20 i4 (in_c 1 rfl) rfl; omega) i20x20.1 e20x21 (Or.inl (by rw [hz]; first | (have hi := i11x3; unfold In at hi; omega) | (have hi := i11x13; unfold In at hi; omega) | (have hi := i11x19; unfold In at hi; omega) | (have hi := i11x29; unfold In at hi; omega) | (have hi := i11x35; unfold In at hi; omega)))))
                  have m0 : (z28a).toInt < ((k0 : Nat) : Int) := by have a0 := oa6 i15 i4 ((inv_F hIc0 0 400 rfl v0_109_109)) i28a i24a i20x20; have a6 := t_sub e20x20 i4 (in_c 1 rfl) rfl; have a7 := oa2 ((in_c 1 rfl)) i8x20; have a9 := t_sub e8x20 i4 (in_c 1 rfl) rfl; omega
                  exact gg_w (by first | exact Nat.le_add_right _ _ | exact gw2 | exact gw3 | exact gwe rfl | exact gwf rfl | exact gwg rfl | exact gwh rfl | omega) (gg_f (gf_cons rfl (gf_cons rfl gf_nil)) (ih0  s28 z24a z28a hI28 (fr_tr rfl (fr_tr rfl hFc0 hF24) hF28) v0 e28 n0 n0a m0))
                · skip
                  exact zn_eq c20x4 i4 rfl
            · skip
              refine g_iload_n 17 (gd rfl) rfl rfl ?_
              refine g_bipush 45 19 (gd rfl) rfl rfl ?_
              refine g_cmp_ne 22 26 (gd rfl) rfl rfl (fun c11x19 => ?_) (fun c11x19 => ?_)
              · skip
                refine g_iload_n 27 (gd rfl) rfl rfl ?_
                refine g_bipush 60 29 (gd rfl) rfl rfl ?_
                refine g_cmp_eq 32 38 (gd rfl) rfl rfl (fun c11x29 => ?_) (fun c11x29 => ?_)
                · skip
                  have i11x29 := r_eq1 60 60 c11x29 (i_rng z8x21) (in_c 60 rfl) rfl
                  refine g_iconst 1 39 (gd rfl) rfl rfl ?_
                  refine g_goto 43 (gd rfl) rfl ?_
                  refine g_ireturn (gd rfl) rfl rfl (hp11 _ _ ?_)
                  show GG _ _ _ _ _ _ _ _ [.int (Int32.ofInt 1)] _ _ _
                  refine g_iload_n 15 (gd rfl) rfl rfl ?_
                  refine g_cmp_lt 18 34 (gd rfl) rfl rfl (fun c15 => ?_) (fun c15 => ?_)
                  · skip
                    have i15 := r_lt2 2 3 c15 (in_c 1 rfl) h1 rfl
                    have n34 : PR s sc0 1 1 := by exact g0_0
                    have n34a : (w0_109_109).toInt + (w0_109_111).toInt = (u_109_109).toInt + (u_109_111).toInt := by first | exact n0_0 | (have a0 := oa4 i15 i4 ((inv_F hIc0 0 400 rfl v0_109_109)) i8x20; have a4 := t_sub e8x20 i4 (in_c 1 rfl) rfl; have a5 := in_u ((in_c 1 rfl)); omega)
                    have n34b : (sc0.2.2.1 109 109).toInt + (sc0.2.2.1 109 111).toInt = (s.2.2.1 109 109).toInt + (s.2.2.1 109 111).toInt := by have b0 : w0_109_109 = sc0.2.2.1 109 109 := v0_109_109; have b1 : w0_109_111 = sc0.2.2.1 109 111 := v0_109_111; first | (rw [← b0, ← b1, ← e_109_109, ← e_109_111]; exact n34a) | (rw [← b0, ← b1]; exact n34a)
                    exact g_return (gd rfl) rfl (hP _ _ ⟨sc0, hIc0, hFc0, n34b, rfl, rfl, n34⟩)
                  · skip
                    have i15 := r_le1 1 1 c15 h1 (in_c 1 rfl) rfl
                    refine g_aload_n 19 (gd rfl) rfl rfl ?_
                    refine g_aload_n 20 (gd rfl) rfl rfl ?_
                    refine g_callv (X := _) (As := []) (r := [.ref (A 109)]) (b := A 109) (q := 109) 23 (gd rfl) rfl rfl rfl rfl rfl (ww_o rfl) (Nat.le_of_ble_eq_true rfl) (mc := 0) (ms := 0) (Nat.zero_le _) (Nat.zero_le _) (P := fun v u => _) ?_ (fun e u h => h) (fun v u h => h)
                    intro po20 xx20 hp20 hx20
                    refine g_enter2 (k := 395) (N := 300) (by first | exact dq1 hd rfl | exact dq0 hd rfl | exact dq2 hd rfl | exact dq3 hd rfl | omega) rfl (Nat.le_of_ble_eq_true rfl) ?_
                    refine g_aload_n 1 (gd rfl) rfl rfl ?_
                    refine g_getI 4 (gd rfl) rfl rfl rfl (fun z20x1 e20x1 => ?_)
                    have q20x1 : w0_109_111 = z20x1 := (v0_109_111).trans e20x1.symm
                    subst q20x1
                    refine g_if_ne 7 11 (gd rfl) rfl rfl (fun c20x4 => ?_) (fun c20x4 => ?_)
                    · skip
                      refine g_aload_n 12 (gd rfl) rfl rfl ?_
                      refine g_getA (q2 := 190) 15 (gd rfl) rfl rfl rfl rfl ?_
                      refine g_aload_n 16 (gd rfl) rfl rfl ?_
                      refine g_getI 19 (gd rfl) rfl rfl rfl (fun z20x16 e20x16 => ?_)
                      have q20x16 : w0_109_111 = z20x16 := (v0_109_111).trans e20x16.symm
                      subst q20x16
                      refine g_iconst 1 20 (gd rfl) rfl rfl ?_
                      refine g_isub 21 (gd rfl) rfl (fun z20x20 e20x20 => ?_)
                      have i20x20 := in_sub 0 199 e20x20 i4 (in_c 1 rfl) rfl rfl
                      refine g_iaload 22 (gd rfl) rfl (n := 200) rfl (in_ix i20x20 rfl) (fun z20x21 e20x21 => ?_)
                      refine g_ireturn (gd rfl) rfl rfl (hp20 _ _ ?_)
                      show GG _ _ _ _ _ _ _ _ [.int z20x21, .ref (A 109)] _ _ _
                      refine g_iconst 0 24 (gd rfl) rfl rfl ?_
                      have n24 : (w0_109_109).toInt ≤ 399 := by have a0 := oa4 i15 i4 ((inv_F hIc0 0 400 rfl v0_109_109)) i20x20; have a4 := t_sub e20x20 i4 (in_c 1 rfl) rfl; have a5 := oa2 ((in_c 1 rfl)) i8x20; have a7 := t_sub e8x20 i4 (in_c 1 rfl) rfl; omega
                      refine g_callv (X := _) (As := [.int z20x21, .int (Int32.ofInt 0)]) (r := []) (b := A 109) (q := 109) 27 (gd rfl) rfl rfl rfl rfl rfl (ww_o rfl) (Nat.le_of_ble_eq_true rfl) (Nat.zero_le _) (Nat.zero_le _) (k_393 (by first | exact dq1 hd rfl | exact dq0 hd rfl | exact dq2 hd rfl | exact dq3 hd rfl | omega) hIc0 v0_109_109 n24) (fun e u h => h) (fun v u h => ?_)
                      obtain ⟨s24, hI24, hF24, n24a, rfl, rfl, p24, p24a⟩ := h
                      obtain ⟨z24a, e24⟩ : ∃ w, w = s24.2.2.1 109 109 := ⟨_, rfl⟩
                      have i24a := inv_F hI24 0 400 rfl e24
                      rw [← (show w0_109_109 = sc0.2.2.1 109 109 from v0_109_109)] at n24a
                      rw [← (show z24a = s24.2.2.1 109 109 from e24)] at n24a
                      show GG _ _ _ _ _ _ _ _ [] _ _ _
                      refine g_aload_n 28 (gd rfl) rfl rfl ?_
                      have v28 : w0_109_111 = s24.2.2.1 109 111 := fr_F (v0_109_111) hF24 rfl
                      have n28 : 1 ≤ (w0_109_111).toInt := by have a0 := oa5 i15 i4 ((inv_F hIc0 0 400 rfl v0_109_109)) i24a i20x20; have a5 := t_sub e20x20 i4 (in_c 1 rfl) rfl; have a6 := oa2 ((in_c 1 rfl)) i8x20; have a8 := t_sub e8x20 i4 (in_c 1 rfl) rfl; omega
                      refine g_callv (X := _) (As := []) (r := []) (b := A 109) (q := 109) 31 (gd rfl) rfl rfl rfl rfl rfl (ww_o rfl) (Nat.le_of_ble_eq_true rfl) (Nat.zero_le _) (Nat.zero_le _) (k_397 (by first | exact dq1 hd rfl | exact dq0 hd rfl | exact dq2 hd rfl | exact dq3 hd rfl | omega) hI24 v28 n28) (fun e u h => h) (fun v u h => ?_)
                      obtain ⟨s28, hI28, hF28, n28a, rfl, rfl⟩ := h
                      obtain ⟨z28a, e28⟩ : ∃ w, w = s28.2.2.1 109 111 := ⟨_, rfl⟩
                      have i28a := inv_F hI28 0 200 rfl e28
                      rw [← (show w0_109_111 = s24.2.2.1 109 111 from fr_F (v0_109_111) hF24 rfl)] at n28a
                      rw [← (show z28a = s28.2.2.1 109 111 from e28)] at n28a
                      show GG _ _ _ _ _ _ _ _ [] _ _ _
                      refine g_goto 0 (gd rfl) rfl ?_
                      have v0 : z24a = s28.2.2.1 109 109 := fr_F (e24) hF28 rfl
                      have n0 : (z24a).toInt + (z28a).toInt = (u_109_109).toInt + (u_109_111).toInt := by have a0 := oa6 i15 i4 ((inv_F hIc0 0 400 rfl v0_109_109)) i28a i24a i20x20; have a6 := t_sub e20x20 i4 (in_c 1 rfl) rfl; have a7 := oa2 ((in_c 1 rfl)) i8x20; have a9 := t_sub e8x20 i4 (in_c 1 rfl) rfl; omega
                      have n0a : PR s s28 1 1 := by first | exact pr_rf | (have hz : z20x21 = z8x21 := (by rw [e20x21, e8x21, e20x20, e8x20]); exact pr_tr g0_0 (pr_set (n := (sc0.2.2.1 109 109).toNatClampNeg) (x := z20x21) (v := Int32.ofInt 0) (b := z20x20) ((hF28.1 187 rfl).trans p24) ((hF28.1 188 rfl).trans p24a) rfl (inv_F hIc0 0 400 rfl rfl).1 (by rw [hF28.2.2.1 109 109 rfl, ← e24, ← v0_109_109]; exact n24a) ((hF28.2.2.1 109 23 rfl).trans (hF24.2.2.1 109 23 rfl)) ((hF28.1 190 rfl).trans (hF24.1 190 rfl)) (by rw [← e28]; have a0 := oa6 i15 i4 ((inv_F hIc0 0 400 rfl v0_109_109)) i28a i24a i20x20; have a6 := t_sub e20x20 i4 (in_c 1 rfl) rfl; have a7 := oa2 ((in_c 1 rfl)) i8x20; have a9 := t_sub e8x20 i4 (in_c 1 rfl) rfl; omega) (by rw [← v0_109_111]; have a0 := oa6 i15 i4 ((inv_F hIc0 0 400 rfl v0_109_109)) i28a i24a i20x20; have a6 := t_sub e20x20 i4 (in_c 1 rfl) rfl; have a7 := oa2 ((in_c 1 rfl)) i8x20; have a9 := t_sub e8x20 i4 (in_c 1 rfl) rfl; omega) i20x20.1 e20x21 (Or.inl (by rw [hz]; first | (have hi := i11x3; unfold In at hi; omega) | (have hi := i11x13; unfold In at hi; omega) | (have hi := i11x19; unfold In at hi; omega) | (have hi := i11x29; unfold In at hi; omega) | (have hi := i11x35; unfold In at hi; omega)))))
                      have m0 : (z28a).toInt < ((k0 : Nat) : Int) := by have a0 := oa6 i15 i4 ((inv_F hIc0 0 400 rfl v0_109_109)) i28a i24a i20x20; have a6 := t_sub e20x20 i4 (in_c 1 rfl) rfl; have a7 := oa2 ((in_c 1 rfl)) i8x20; have a9 := t_sub e8x20 i4 (in_c 1 rfl) rfl; omega
                      exact gg_w (by first | exact Nat.le_add_right _ _ | exact gw2 | exact gw3 | exact gwe rfl | exact gwf rfl | exact gwg rfl | exact gwh rfl | omega) (gg_f (gf_cons rfl (gf_cons rfl gf_nil)) (ih0  s28 z24a z28a hI28 (fr_tr rfl (fr_tr rfl hFc0 hF24) hF28) v0 e28 n0 n0a m0))
                    · skip
                      exact zn_eq c20x4 i4 rfl
                · skip
                  refine g_iload_n 33 (gd rfl) rfl rfl ?_
                  refine g_bipush 61 35 (gd rfl) rfl rfl ?_
                  refine g_cmp_ne 38 42 (gd rfl) rfl rfl (fun c11x35 => ?_) (fun c11x35 => ?_)
                  · skip
                    refine g_iconst 0 43 (gd rfl) rfl rfl ?_
                    refine g_ireturn (gd rfl) rfl rfl (hp11 _ _ ?_)
                    show GG _ _ _ _ _ _ _ _ [.int (Int32.ofInt 0)] _ _ _
                    refine g_iload_n 15 (gd rfl) rfl rfl ?_
                    refine g_cmp_lt 18 34 (gd rfl) rfl rfl (fun c15 => ?_) (fun c15 => ?_)
                    · skip
                      have n34 : PR s sc0 1 1 := by exact g0_0
                      have n34a : (w0_109_109).toInt + (w0_109_111).toInt = (u_109_109).toInt + (u_109_111).toInt := by first | exact n0_0 | (have a0 := oa4 h1 i4 ((inv_F hIc0 0 400 rfl v0_109_109)) i8x20; have a4 := t_sub e8x20 i4 (in_c 1 rfl) rfl; have a5 := in_u ((in_c 1 rfl)); omega)
                      have n34b : (sc0.2.2.1 109 109).toInt + (sc0.2.2.1 109 111).toInt = (s.2.2.1 109 109).toInt + (s.2.2.1 109 111).toInt := by have b0 : w0_109_109 = sc0.2.2.1 109 109 := v0_109_109; have b1 : w0_109_111 = sc0.2.2.1 109 111 := v0_109_111; first | (rw [← b0, ← b1, ← e_109_109, ← e_109_111]; exact n34a) | (rw [← b0, ← b1]; exact n34a)
                      exact g_return (gd rfl) rfl (hP _ _ ⟨sc0, hIc0, hFc0, n34b, rfl, rfl, n34⟩)
                    · skip
                      exact n_le c15 h1 (in_c 0 rfl) rfl
                  · skip
                    have i11x35 := r_eq1 61 61 c11x35 (i_rng z8x21) (in_c 61 rfl) rfl
                    refine g_iconst 1 39 (gd rfl) rfl rfl ?_
                    refine g_goto 43 (gd rfl) rfl ?_
                    refine g_ireturn (gd rfl) rfl rfl (hp11 _ _ ?_)
                    show GG _ _ _ _ _ _ _ _ [.int (Int32.ofInt 1)] _ _ _
                    refine g_iload_n 15 (gd rfl) rfl rfl ?_
                    refine g_cmp_lt 18 34 (gd rfl) rfl rfl (fun c15 => ?_) (fun c15 => ?_)
                    · skip
                      have i15 := r_lt2 2 3 c15 (in_c 1 rfl) h1 rfl
                      have n34 : PR s sc0 1 1 := by exact g0_0
                      have n34a : (w0_109_109).toInt + (w0_109_111).toInt = (u_109_109).toInt + (u_109_111).toInt := by first | exact n0_0 | (have a0 := oa4 i15 i4 ((inv_F hIc0 0 400 rfl v0_109_109)) i8x20; have a4 := t_sub e8x20 i4 (in_c 1 rfl) rfl; have a5 := in_u ((in_c 1 rfl)); omega)
                      have n34b : (sc0.2.2.1 109 109).toInt + (sc0.2.2.1 109 111).toInt = (s.2.2.1 109 109).toInt + (s.2.2.1 109 111).toInt := by have b0 : w0_109_109 = sc0.2.2.1 109 109 := v0_109_109; have b1 : w0_109_111 = sc0.2.2.1 109 111 := v0_109_111; first | (rw [← b0, ← b1, ← e_109_109, ← e_109_111]; exact n34a) | (rw [← b0, ← b1]; exact n34a)
                      exact g_return (gd rfl) rfl (hP _ _ ⟨sc0, hIc0, hFc0, n34b, rfl, rfl, n34⟩)
                    · skip
                      have i15 := r_le1 1 1 c15 h1 (in_c 1 rfl) rfl
                      refine g_aload_n 19 (gd rfl) rfl rfl ?_
                      refine g_aload_n 20 (gd rfl) rfl rfl ?_
                      refine g_callv (X := _) (As := []) (r := [.ref (A 109)]) (b := A 109) (q := 109) 23 (gd rfl) rfl rfl rfl rfl rfl (ww_o rfl) (Nat.le_of_ble_eq_true rfl) (mc := 0) (ms := 0) (Nat.zero_le _) (Nat.zero_le _) (P := fun v u => _) ?_ (fun e u h => h) (fun v u h => h)
                      intro po20 xx20 hp20 hx20
                      refine g_enter2 (k := 395) (N := 300) (by first | exact dq1 hd rfl | exact dq0 hd rfl | exact dq2 hd rfl | exact dq3 hd rfl | omega) rfl (Nat.le_of_ble_eq_true rfl) ?_
                      refine g_aload_n 1 (gd rfl) rfl rfl ?_
                      refine g_getI 4 (gd rfl) rfl rfl rfl (fun z20x1 e20x1 => ?_)
                      have q20x1 : w0_109_111 = z20x1 := (v0_109_111).trans e20x1.symm
                      subst q20x1
                      refine g_if_ne 7 11 (gd rfl) rfl rfl (fun c20x4 => ?_) (fun c20x4 => ?_)
                      · skip
                        refine g_aload_n 12 (gd rfl) rfl rfl ?_
                        refine g_getA (q2 := 190) 15 (gd rfl) rfl rfl rfl rfl ?_
                        refine g_aload_n 16 (gd rfl) rfl rfl ?_
                        refine g_getI 19 (gd rfl) rfl rfl rfl (fun z20x16 e20x16 => ?_)
                        have q20x16 : w0_109_111 = z20x16 := (v0_109_111).trans e20x16.symm
                        subst q20x16
                        refine g_iconst 1 20 (gd rfl) rfl rfl ?_
                        refine g_isub 21 (gd rfl) rfl (fun z20x20 e20x20 => ?_)
                        have i20x20 := in_sub 0 199 e20x20 i4 (in_c 1 rfl) rfl rfl
                        refine g_iaload 22 (gd rfl) rfl (n := 200) rfl (in_ix i20x20 rfl) (fun z20x21 e20x21 => ?_)
                        refine g_ireturn (gd rfl) rfl rfl (hp20 _ _ ?_)
                        show GG _ _ _ _ _ _ _ _ [.int z20x21, .ref (A 109)] _ _ _
                        refine g_iconst 0 24 (gd rfl) rfl rfl ?_
                        have n24 : (w0_109_109).toInt ≤ 399 := by have a0 := oa4 i15 i4 ((inv_F hIc0 0 400 rfl v0_109_109)) i20x20; have a4 := t_sub e20x20 i4 (in_c 1 rfl) rfl; have a5 := oa2 ((in_c 1 rfl)) i8x20; have a7 := t_sub e8x20 i4 (in_c 1 rfl) rfl; omega
                        refine g_callv (X := _) (As := [.int z20x21, .int (Int32.ofInt 0)]) (r := []) (b := A 109) (q := 109) 27 (gd rfl) rfl rfl rfl rfl rfl (ww_o rfl) (Nat.le_of_ble_eq_true rfl) (Nat.zero_le _) (Nat.zero_le _) (k_393 (by first | exact dq1 hd rfl | exact dq0 hd rfl | exact dq2 hd rfl | exact dq3 hd rfl | omega) hIc0 v0_109_109 n24) (fun e u h => h) (fun v u h => ?_)
                        obtain ⟨s24, hI24, hF24, n24a, rfl, rfl, p24, p24a⟩ := h
                        obtain ⟨z24a, e24⟩ : ∃ w, w = s24.2.2.1 109 109 := ⟨_, rfl⟩
                        have i24a := inv_F hI24 0 400 rfl e24
                        rw [← (show w0_109_109 = sc0.2.2.1 109 109 from v0_109_109)] at n24a
                        rw [← (show z24a = s24.2.2.1 109 109 from e24)] at n24a
                        show GG _ _ _ _ _ _ _ _ [] _ _ _
                        refine g_aload_n 28 (gd rfl) rfl rfl ?_
                        have v28 : w0_109_111 = s24.2.2.1 109 111 := fr_F (v0_109_111) hF24 rfl
                        have n28 : 1 ≤ (w0_109_111).toInt := by have a0 := oa5 i15 i4 ((inv_F hIc0 0 400 rfl v0_109_109)) i24a i20x20; have a5 := t_sub e20x20 i4 (in_c 1 rfl) rfl; have a6 := oa2 ((in_c 1 rfl)) i8x20; have a8 := t_sub e8x20 i4 (in_c 1 rfl) rfl; omega
                        refine g_callv (X := _) (As := []) (r := []) (b := A 109) (q := 109) 31 (gd rfl) rfl rfl rfl rfl rfl (ww_o rfl) (Nat.le_of_ble_eq_true rfl) (Nat.zero_le _) (Nat.zero_le _) (k_397 (by first | exact dq1 hd rfl | exact dq0 hd rfl | exact dq2 hd rfl | exact dq3 hd rfl | omega) hI24 v28 n28) (fun e u h => h) (fun v u h => ?_)
                        obtain ⟨s28, hI28, hF28, n28a, rfl, rfl⟩ := h
                        obtain ⟨z28a, e28⟩ : ∃ w, w = s28.2.2.1 109 111 := ⟨_, rfl⟩
                        have i28a := inv_F hI28 0 200 rfl e28
                        rw [← (show w0_109_111 = s24.2.2.1 109 111 from fr_F (v0_109_111) hF24 rfl)] at n28a
                        rw [← (show z28a = s28.2.2.1 109 111 from e28)] at n28a
                        show GG _ _ _ _ _ _ _ _ [] _ _ _
                        refine g_goto 0 (gd rfl) rfl ?_
                        have v0 : z24a = s28.2.2.1 109 109 := fr_F (e24) hF28 rfl
                        have n0 : (z24a).toInt + (z28a).toInt = (u_109_109).toInt + (u_109_111).toInt := by have a0 := oa6 i15 i4 ((inv_F hIc0 0 400 rfl v0_109_109)) i28a i24a i20x20; have a6 := t_sub e20x20 i4 (in_c 1 rfl) rfl; have a7 := oa2 ((in_c 1 rfl)) i8x20; have a9 := t_sub e8x20 i4 (in_c 1 rfl) rfl; omega
                        have n0a : PR s s28 1 1 := by first | exact pr_rf | (have hz : z20x21 = z8x21 := (by rw [e20x21, e8x21, e20x20, e8x20]); exact pr_tr g0_0 (pr_set (n := (sc0.2.2.1 109 109).toNatClampNeg) (x := z20x21) (v := Int32.ofInt 0) (b := z20x20) ((hF28.1 187 rfl).trans p24) ((hF28.1 188 rfl).trans p24a) rfl (inv_F hIc0 0 400 rfl rfl).1 (by rw [hF28.2.2.1 109 109 rfl, ← e24, ← v0_109_109]; exact n24a) ((hF28.2.2.1 109 23 rfl).trans (hF24.2.2.1 109 23 rfl)) ((hF28.1 190 rfl).trans (hF24.1 190 rfl)) (by rw [← e28]; have a0 := oa6 i15 i4 ((inv_F hIc0 0 400 rfl v0_109_109)) i28a i24a i20x20; have a6 := t_sub e20x20 i4 (in_c 1 rfl) rfl; have a7 := oa2 ((in_c 1 rfl)) i8x20; have a9 := t_sub e8x20 i4 (in_c 1 rfl) rfl; omega) (by rw [← v0_109_111]; have a0 := oa6 i15 i4 ((inv_F hIc0 0 400 rfl v0_109_109)) i28a i24a i20x20; have a6 := t_sub e20x20 i4 (in_c 1 rfl) rfl; have a7 := oa2 ((in_c 1 rfl)) i8x20; have a9 := t_sub e8x20 i4 (in_c 1 rfl) rfl; omega) i20x20.1 e20x21 (Or.inl (by rw [hz]; first | (have hi := i11x3; unfold In at hi; omega) | (have hi := i11x13; unfold In at hi; omega) | (have hi := i11x19; unfold In at hi; omega) | (have hi := i11x29; unfold In at hi; omega) | (have hi := i11x35; unfold In at hi; omega)))))
                        have m0 : (z28a).toInt < ((k0 : Nat) : Int) := by have a0 := oa6 i15 i4 ((inv_F hIc0 0 400 rfl v0_109_109)) i28a i24a i20x20; have a6 := t_sub e20x20 i4 (in_c 1 rfl) rfl; have a7 := oa2 ((in_c 1 rfl)) i8x20; have a9 := t_sub e8x20 i4 (in_c 1 rfl) rfl; omega
                        exact gg_w (by first | exact Nat.le_add_right _ _ | exact gw2 | exact gw3 | exact gwe rfl | exact gwf rfl | exact gwg rfl | exact gwh rfl | omega) (gg_f (gf_cons rfl (gf_cons rfl gf_nil)) (ih0  s28 z24a z28a hI28 (fr_tr rfl (fr_tr rfl hFc0 hF24) hF28) v0 e28 n0 n0a m0))
                      · skip
                        exact zn_eq c20x4 i4 rfl
              · skip
                have i11x19 := r_eq1 45 45 c11x19 (i_rng z8x21) (in_c 45 rfl) rfl
                refine g_iconst 2 23 (gd rfl) rfl rfl ?_
                refine g_goto 43 (gd rfl) rfl ?_
                refine g_ireturn (gd rfl) rfl rfl (hp11 _ _ ?_)
                show GG _ _ _ _ _ _ _ _ [.int (Int32.ofInt 2)] _ _ _
                refine g_iload_n 15 (gd rfl) rfl rfl ?_
                refine g_cmp_lt 18 34 (gd rfl) rfl rfl (fun c15 => ?_) (fun c15 => ?_)
                · skip
                  have i15 := r_lt2 3 3 c15 (in_c 2 rfl) h1 rfl
                  have n34 : PR s sc0 1 1 := by exact g0_0
                  have n34a : (w0_109_109).toInt + (w0_109_111).toInt = (u_109_109).toInt + (u_109_111).toInt := by first | exact n0_0 | (have a0 := oa4 i15 i4 ((inv_F hIc0 0 400 rfl v0_109_109)) i8x20; have a4 := t_sub e8x20 i4 (in_c 1 rfl) rfl; have a5 := in_u ((in_c 1 rfl)); omega)
                  have n34b : (sc0.2.2.1 109 109).toInt + (sc0.2.2.1 109 111).toInt = (s.2.2.1 109 109).toInt + (s.2.2.1 109 111).toInt := by have b0 : w0_109_109 = sc0.2.2.1 109 109 := v0_109_109; have b1 : w0_109_111 = sc0.2.2.1 109 111 := v0_109_111; first | (rw [← b0, ← b1, ← e_109_109, ← e_109_111]; exact n34a) | (rw [← b0, ← b1]; exact n34a)
                  exact g_return (gd rfl) rfl (hP _ _ ⟨sc0, hIc0, hFc0, n34b, rfl, rfl, n34⟩)
                · skip
                  have i15 := r_le1 1 2 c15 h1 (in_c 2 rfl) rfl
                  refine g_aload_n 19 (gd rfl) rfl rfl ?_
                  refine g_aload_n 20 (gd rfl) rfl rfl ?_
                  refine g_callv (X := _) (As := []) (r := [.ref (A 109)]) (b := A 109) (q := 109) 23 (gd rfl) rfl rfl rfl rfl rfl (ww_o rfl) (Nat.le_of_ble_eq_true rfl) (mc := 0) (ms := 0) (Nat.zero_le _) (Nat.zero_le _) (P := fun v u => _) ?_ (fun e u h => h) (fun v u h => h)
                  intro po20 xx20 hp20 hx20
                  refine g_enter2 (k := 395) (N := 300) (by first | exact dq1 hd rfl | exact dq0 hd rfl | exact dq2 hd rfl | exact dq3 hd rfl | omega) rfl (Nat.le_of_ble_eq_true rfl) ?_
                  refine g_aload_n 1 (gd rfl) rfl rfl ?_
                  refine g_getI 4 (gd rfl) rfl rfl rfl (fun z20x1 e20x1 => ?_)
                  have q20x1 : w0_109_111 = z20x1 := (v0_109_111).trans e20x1.symm
                  subst q20x1
                  refine g_if_ne 7 11 (gd rfl) rfl rfl (fun c20x4 => ?_) (fun c20x4 => ?_)
                  · skip
                    refine g_aload_n 12 (gd rfl) rfl rfl ?_
                    refine g_getA (q2 := 190) 15 (gd rfl) rfl rfl rfl rfl ?_
                    refine g_aload_n 16 (gd rfl) rfl rfl ?_
                    refine g_getI 19 (gd rfl) rfl rfl rfl (fun z20x16 e20x16 => ?_)
                    have q20x16 : w0_109_111 = z20x16 := (v0_109_111).trans e20x16.symm
                    subst q20x16
                    refine g_iconst 1 20 (gd rfl) rfl rfl ?_
                    refine g_isub 21 (gd rfl) rfl (fun z20x20 e20x20 => ?_)
                    have i20x20 := in_sub 0 199 e20x20 i4 (in_c 1 rfl) rfl rfl
                    refine g_iaload 22 (gd rfl) rfl (n := 200) rfl (in_ix i20x20 rfl) (fun z20x21 e20x21 => ?_)
                    refine g_ireturn (gd rfl) rfl rfl (hp20 _ _ ?_)
                    show GG _ _ _ _ _ _ _ _ [.int z20x21, .ref (A 109)] _ _ _
                    refine g_iconst 0 24 (gd rfl) rfl rfl ?_
                    have n24 : (w0_109_109).toInt ≤ 399 := by have a0 := oa4 i15 i4 ((inv_F hIc0 0 400 rfl v0_109_109)) i20x20; have a4 := t_sub e20x20 i4 (in_c 1 rfl) rfl; have a5 := oa2 ((in_c 1 rfl)) i8x20; have a7 := t_sub e8x20 i4 (in_c 1 rfl) rfl; omega
                    refine g_callv (X := _) (As := [.int z20x21, .int (Int32.ofInt 0)]) (r := []) (b := A 109) (q := 109) 27 (gd rfl) rfl rfl rfl rfl rfl (ww_o rfl) (Nat.le_of_ble_eq_true rfl) (Nat.zero_le _) (Nat.zero_le _) (k_393 (by first | exact dq1 hd rfl | exact dq0 hd rfl | exact dq2 hd rfl | exact dq3 hd rfl | omega) hIc0 v0_109_109 n24) (fun e u h => h) (fun v u h => ?_)
                    obtain ⟨s24, hI24, hF24, n24a, rfl, rfl, p24, p24a⟩ := h
                    obtain ⟨z24a, e24⟩ : ∃ w, w = s24.2.2.1 109 109 := ⟨_, rfl⟩
                    have i24a := inv_F hI24 0 400 rfl e24
                    rw [← (show w0_109_109 = sc0.2.2.1 109 109 from v0_109_109)] at n24a
                    rw [← (show z24a = s24.2.2.1 109 109 from e24)] at n24a
                    show GG _ _ _ _ _ _ _ _ [] _ _ _
                    refine g_aload_n 28 (gd rfl) rfl rfl ?_
                    have v28 : w0_109_111 = s24.2.2.1 109 111 := fr_F (v0_109_111) hF24 rfl
                    have n28 : 1 ≤ (w0_109_111).toInt := by have a0 := oa5 i15 i4 ((inv_F hIc0 0 400 rfl v0_109_109)) i24a i20x20; have a5 := t_sub e20x20 i4 (in_c 1 rfl) rfl; have a6 := oa2 ((in_c 1 rfl)) i8x20; have a8 := t_sub e8x20 i4 (in_c 1 rfl) rfl; omega
                    refine g_callv (X := _) (As := []) (r := []) (b := A 109) (q := 109) 31 (gd rfl) rfl rfl rfl rfl rfl (ww_o rfl) (Nat.le_of_ble_eq_true rfl) (Nat.zero_le _) (Nat.zero_le _) (k_397 (by first | exact dq1 hd rfl | exact dq0 hd rfl | exact dq2 hd rfl | exact dq3 hd rfl | omega) hI24 v28 n28) (fun e u h => h) (fun v u h => ?_)
                    obtain ⟨s28, hI28, hF28, n28a, rfl, rfl⟩ := h
                    obtain ⟨z28a, e28⟩ : ∃ w, w = s28.2.2.1 109 111 := ⟨_, rfl⟩
                    have i28a := inv_F hI28 0 200 rfl e28
                    rw [← (show w0_109_111 = s24.2.2.1 109 111 from fr_F (v0_109_111) hF24 rfl)] at n28a
                    rw [← (show z28a = s28.2.2.1 109 111 from e28)] at n28a
                    show GG _ _ _ _ _ _ _ _ [] _ _ _
                    refine g_goto 0 (gd rfl) rfl ?_
                    have v0 : z24a = s28.2.2.1 109 109 := fr_F (e24) hF28 rfl
                    have n0 : (z24a).toInt + (z28a).toInt = (u_109_109).toInt + (u_109_111).toInt := by have a0 := oa6 i15 i4 ((inv_F hIc0 0 400 rfl v0_109_109)) i28a i24a i20x20; have a6 := t_sub e20x20 i4 (in_c 1 rfl) rfl; have a7 := oa2 ((in_c 1 rfl)) i8x20; have a9 := t_sub e8x20 i4 (in_c 1 rfl) rfl; omega
                    have n0a : PR s s28 1 1 := by first | exact pr_rf | (have hz : z20x21 = z8x21 := (by rw [e20x21, e8x21, e20x20, e8x20]); exact pr_tr g0_0 (pr_set (n := (sc0.2.2.1 109 109).toNatClampNeg) (x := z20x21) (v := Int32.ofInt 0) (b := z20x20) ((hF28.1 187 rfl).trans p24) ((hF28.1 188 rfl).trans p24a) rfl (inv_F hIc0 0 400 rfl rfl).1 (by rw [hF28.2.2.1 109 109 rfl, ← e24, ← v0_109_109]; exact n24a) ((hF28.2.2.1 109 23 rfl).trans (hF24.2.2.1 109 23 rfl)) ((hF28.1 190 rfl).trans (hF24.1 190 rfl)) (by rw [← e28]; have a0 := oa6 i15 i4 ((inv_F hIc0 0 400 rfl v0_109_109)) i28a i24a i20x20; have a6 := t_sub e20x20 i4 (in_c 1 rfl) rfl; have a7 := oa2 ((in_c 1 rfl)) i8x20; have a9 := t_sub e8x20 i4 (in_c 1 rfl) rfl; omega) (by rw [← v0_109_111]; have a0 := oa6 i15 i4 ((inv_F hIc0 0 400 rfl v0_109_109)) i28a i24a i20x20; have a6 := t_sub e20x20 i4 (in_c 1 rfl) rfl; have a7 := oa2 ((in_c 1 rfl)) i8x20; have a9 := t_sub e8x20 i4 (in_c 1 rfl) rfl; omega) i20x20.1 e20x21 (Or.inl (by rw [hz]; first | (have hi := i11x3; unfold In at hi; omega) | (have hi := i11x13; unfold In at hi; omega) | (have hi := i11x19; unfold In at hi; omega) | (have hi := i11x29; unfold In at hi; omega) | (have hi := i11x35; unfold In at hi; omega)))))
                    have m0 : (z28a).toInt < ((k0 : Nat) : Int) := by have a0 := oa6 i15 i4 ((inv_F hIc0 0 400 rfl v0_109_109)) i28a i24a i20x20; have a6 := t_sub e20x20 i4 (in_c 1 rfl) rfl; have a7 := oa2 ((in_c 1 rfl)) i8x20; have a9 := t_sub e8x20 i4 (in_c 1 rfl) rfl; omega
                    exact gg_w (by first | exact Nat.le_add_right _ _ | exact gw2 | exact gw3 | exact gwe rfl | exact gwf rfl | exact gwg rfl | exact gwh rfl | omega) (gg_f (gf_cons rfl (gf_cons rfl gf_nil)) (ih0  s28 z24a z28a hI28 (fr_tr rfl (fr_tr rfl hFc0 hF24) hF28) v0 e28 n0 n0a m0))
                  · skip
                    exact zn_eq c20x4 i4 rfl
          · skip
            have i11x3 := r_eq1 42 42 c11x3 (i_rng z8x21) (in_c 42 rfl) rfl
            refine g_iconst 3 7 (gd rfl) rfl rfl ?_
            refine g_goto 43 (gd rfl) rfl ?_
            refine g_ireturn (gd rfl) rfl rfl (hp11 _ _ ?_)
            show GG _ _ _ _ _ _ _ _ [.int (Int32.ofInt 3)] _ _ _
            refine g_iload_n 15 (gd rfl) rfl rfl ?_
            refine g_cmp_lt 18 34 (gd rfl) rfl rfl (fun c15 => ?_) (fun c15 => ?_)
            · skip
              exact n_lt c15 (in_c 3 rfl) h1 rfl
            · skip
              refine g_aload_n 19 (gd rfl) rfl rfl ?_
              refine g_aload_n 20 (gd rfl) rfl rfl ?_
              refine g_callv (X := _) (As := []) (r := [.ref (A 109)]) (b := A 109) (q := 109) 23 (gd rfl) rfl rfl rfl rfl rfl (ww_o rfl) (Nat.le_of_ble_eq_true rfl) (mc := 0) (ms := 0) (Nat.zero_le _) (Nat.zero_le _) (P := fun v u => _) ?_ (fun e u h => h) (fun v u h => h)
              intro po20 xx20 hp20 hx20
              refine g_enter2 (k := 395) (N := 300) (by first | exact dq1 hd rfl | exact dq0 hd rfl | exact dq2 hd rfl | exact dq3 hd rfl | omega) rfl (Nat.le_of_ble_eq_true rfl) ?_
              refine g_aload_n 1 (gd rfl) rfl rfl ?_
              refine g_getI 4 (gd rfl) rfl rfl rfl (fun z20x1 e20x1 => ?_)
              have q20x1 : w0_109_111 = z20x1 := (v0_109_111).trans e20x1.symm
              subst q20x1
              refine g_if_ne 7 11 (gd rfl) rfl rfl (fun c20x4 => ?_) (fun c20x4 => ?_)
              · skip
                refine g_aload_n 12 (gd rfl) rfl rfl ?_
                refine g_getA (q2 := 190) 15 (gd rfl) rfl rfl rfl rfl ?_
                refine g_aload_n 16 (gd rfl) rfl rfl ?_
                refine g_getI 19 (gd rfl) rfl rfl rfl (fun z20x16 e20x16 => ?_)
                have q20x16 : w0_109_111 = z20x16 := (v0_109_111).trans e20x16.symm
                subst q20x16
                refine g_iconst 1 20 (gd rfl) rfl rfl ?_
                refine g_isub 21 (gd rfl) rfl (fun z20x20 e20x20 => ?_)
                have i20x20 := in_sub 0 199 e20x20 i4 (in_c 1 rfl) rfl rfl
                refine g_iaload 22 (gd rfl) rfl (n := 200) rfl (in_ix i20x20 rfl) (fun z20x21 e20x21 => ?_)
                refine g_ireturn (gd rfl) rfl rfl (hp20 _ _ ?_)
                show GG _ _ _ _ _ _ _ _ [.int z20x21, .ref (A 109)] _ _ _
                refine g_iconst 0 24 (gd rfl) rfl rfl ?_
                have n24 : (w0_109_109).toInt ≤ 399 := by have a0 := oa4 h1 i4 ((inv_F hIc0 0 400 rfl v0_109_109)) i20x20; have a4 := t_sub e20x20 i4 (in_c 1 rfl) rfl; have a5 := oa2 ((in_c 1 rfl)) i8x20; have a7 := t_sub e8x20 i4 (in_c 1 rfl) rfl; omega
                refine g_callv (X := _) (As := [.int z20x21, .int (Int32.ofInt 0)]) (r := []) (b := A 109) (q := 109) 27 (gd rfl) rfl rfl rfl rfl rfl (ww_o rfl) (Nat.le_of_ble_eq_true rfl) (Nat.zero_le _) (Nat.zero_le _) (k_393 (by first | exact dq1 hd rfl | exact dq0 hd rfl | exact dq2 hd rfl | exact dq3 hd rfl | omega) hIc0 v0_109_109 n24) (fun e u h => h) (fun v u h => ?_)
                obtain ⟨s24, hI24, hF24, n24a, rfl, rfl, p24, p24a⟩ := h
                obtain ⟨z24a, e24⟩ : ∃ w, w = s24.2.2.1 109 109 := ⟨_, rfl⟩
                have i24a := inv_F hI24 0 400 rfl e24
                rw [← (show w0_109_109 = sc0.2.2.1 109 109 from v0_109_109)] at n24a
                rw [← (show z24a = s24.2.2.1 109 109 from e24)] at n24a
                show GG _ _ _ _ _ _ _ _ [] _ _ _
                refine g_aload_n 28 (gd rfl) rfl rfl ?_
                have v28 : w0_109_111 = s24.2.2.1 109 111 := fr_F (v0_109_111) hF24 rfl
                have n28 : 1 ≤ (w0_109_111).toInt := by have a0 := oa5 h1 i4 ((inv_F hIc0 0 400 rfl v0_109_109)) i24a i20x20; have a5 := t_sub e20x20 i4 (in_c 1 rfl) rfl; have a6 := oa2 ((in_c 1 rfl)) i8x20; have a8 := t_sub e8x20 i4 (in_c 1 rfl) rfl; omega
                refine g_callv (X := _) (As := []) (r := []) (b := A 109) (q := 109) 31 (gd rfl) rfl rfl rfl rfl rfl (ww_o rfl) (Nat.le_of_ble_eq_true rfl) (Nat.zero_le _) (Nat.zero_le _) (k_397 (by first | exact dq1 hd rfl | exact dq0 hd rfl | exact dq2 hd rfl | exact dq3 hd rfl | omega) hI24 v28 n28) (fun e u h => h) (fun v u h => ?_)
                obtain ⟨s28, hI28, hF28, n28a, rfl, rfl⟩ := h
                obtain ⟨z28a, e28⟩ : ∃ w, w = s28.2.2.1 109 111 := ⟨_, rfl⟩
                have i28a := inv_F hI28 0 200 rfl e28
                rw [← (show w0_109_111 = s24.2.2.1 109 111 from fr_F (v0_109_111) hF24 rfl)] at n28a
                rw [← (show z28a = s28.2.2.1 109 111 from e28)] at n28a
                show GG _ _ _ _ _ _ _ _ [] _ _ _
                refine g_goto 0 (gd rfl) rfl ?_
                have v0 : z24a = s28.2.2.1 109 109 := fr_F (e24) hF28 rfl
                have n0 : (z24a).toInt + (z28a).toInt = (u_109_109).toInt + (u_109_111).toInt := by have a0 := oa6 h1 i4 ((inv_F hIc0 0 400 rfl v0_109_109)) i28a i24a i20x20; have a6 := t_sub e20x20 i4 (in_c 1 rfl) rfl; have a7 := oa2 ((in_c 1 rfl)) i8x20; have a9 := t_sub e8x20 i4 (in_c 1 rfl) rfl; omega
                have n0a : PR s s28 1 1 := by first | exact pr_rf | (have hz : z20x21 = z8x21 := (by rw [e20x21, e8x21, e20x20, e8x20]); exact pr_tr g0_0 (pr_set (n := (sc0.2.2.1 109 109).toNatClampNeg) (x := z20x21) (v := Int32.ofInt 0) (b := z20x20) ((hF28.1 187 rfl).trans p24) ((hF28.1 188 rfl).trans p24a) rfl (inv_F hIc0 0 400 rfl rfl).1 (by rw [hF28.2.2.1 109 109 rfl, ← e24, ← v0_109_109]; exact n24a) ((hF28.2.2.1 109 23 rfl).trans (hF24.2.2.1 109 23 rfl)) ((hF28.1 190 rfl).trans (hF24.1 190 rfl)) (by rw [← e28]; have a0 := oa6 h1 i4 ((inv_F hIc0 0 400 rfl v0_109_109)) i28a i24a i20x20; have a6 := t_sub e20x20 i4 (in_c 1 rfl) rfl; have a7 := oa2 ((in_c 1 rfl)) i8x20; have a9 := t_sub e8x20 i4 (in_c 1 rfl) rfl; omega) (by rw [← v0_109_111]; have a0 := oa6 h1 i4 ((inv_F hIc0 0 400 rfl v0_109_109)) i28a i24a i20x20; have a6 := t_sub e20x20 i4 (in_c 1 rfl) rfl; have a7 := oa2 ((in_c 1 rfl)) i8x20; have a9 := t_sub e8x20 i4 (in_c 1 rfl) rfl; omega) i20x20.1 e20x21 (Or.inl (by rw [hz]; first | (have hi := i11x3; unfold In at hi; omega) | (have hi := i11x13; unfold In at hi; omega) | (have hi := i11x19; unfold In at hi; omega) | (have hi := i11x29; unfold In at hi; omega) | (have hi := i11x35; unfold In at hi; omega)))))
                have m0 : (z28a).toInt < ((k0 : Nat) : Int) := by have a0 := oa6 h1 i4 ((inv_F hIc0 0 400 rfl v0_109_109)) i28a i24a i20x20; have a6 := t_sub e20x20 i4 (in_c 1 rfl) rfl; have a7 := oa2 ((in_c 1 rfl)) i8x20; have a9 := t_sub e8x20 i4 (in_c 1 rfl) rfl; omega
                exact gg_w (by first | exact Nat.le_add_right _ _ | exact gw2 | exact gw3 | exact gwe rfl | exact gwf rfl | exact gwg rfl | exact gwh rfl | omega) (gg_f (gf_cons rfl (gf_cons rfl gf_nil)) (ih0  s28 z24a z28a hI28 (fr_tr rfl (fr_tr rfl hFc0 hF24) hF28) v0 e28 n0 n0a m0))
              · skip
                exact zn_eq c20x4 i4 rfl
        · skip
          exact zn_eq c8x4 i4 rfl
  refine g_enter2 (k := 399) (N := 181801) (by first | exact dq1 hd rfl | exact dq0 hd rfl | exact dq2 hd rfl | exact dq3 hd rfl | omega) rfl (Nat.le_of_ble_eq_true rfl) ?_
  have n0 : (u_109_109).toInt + (u_109_111).toInt = (u_109_109).toInt + (u_109_111).toInt := by have a0 := oa3 ((inv_F hI 0 200 rfl e_109_111)) ((inv_F hI 0 400 rfl e_109_109)) h1; omega
  have n0a : PR s s 1 1 := by first | exact pr_rf | (have hz : z20x21 = z8x21 := (by rw [e20x21, e8x21, e20x20, e8x20]); exact pr_tr g0_0 (pr_set (n := (sc0.2.2.1 109 109).toNatClampNeg) (x := z20x21) (v := Int32.ofInt 0) (b := z20x20) ((hF28.1 187 rfl).trans p24) ((hF28.1 188 rfl).trans p24a) rfl (inv_F hIc0 0 400 rfl rfl).1 (by rw [hF28.2.2.1 109 109 rfl, ← e24, ← v0_109_109]; exact n24a) ((hF28.2.2.1 109 23 rfl).trans (hF24.2.2.1 109 23 rfl)) ((hF28.1 190 rfl).trans (hF24.1 190 rfl)) (by rw [← e28]; have a0 := oa3 ((inv_F hI 0 200 rfl e_109_111)) ((inv_F hI 0 400 rfl e_109_109)) h1; omega) (by rw [← v0_109_111]; have a0 := oa3 ((inv_F hI 0 200 rfl e_109_111)) ((inv_F hI 0 400 rfl e_109_109)) h1; omega) i20x20.1 e20x21 (Or.inl (by rw [hz]; first | (have hi := i11x3; unfold In at hi; omega) | (have hi := i11x13; unfold In at hi; omega) | (have hi := i11x19; unfold In at hi; omega) | (have hi := i11x29; unfold In at hi; omega) | (have hi := i11x35; unfold In at hi; omega)))))
  have m0 : (u_109_111).toInt < ((201 : Nat) : Int) := by have a0 := oa3 ((inv_F hI 0 200 rfl e_109_111)) ((inv_F hI 0 400 rfl e_109_109)) h1; omega
  exact gg_w (by first | exact Nat.le_of_ble_eq_true rfl | omega) (gg_f (gf_cons rfl (gf_cons rfl gf_nil)) (ct0 201 s u_109_109 u_109_111 hI fr_rf e_109_109 e_109_111 n0 n0a m0))
end
