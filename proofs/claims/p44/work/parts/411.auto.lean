section
/-! methods, by vc.py -/
def fm_348 : FM := ([132, 148], [], [], [])
/-- GraphHouseModel.search -/
theorem k_348 {Z : AmZ} {A : Nat → Nat} {s : GS} {ex : va_W} {d : Nat} {X : AmX} {x1 : Int32} (hd : 1 ≤ d) (hI : Inv s) (h1 : In x1 0 31) : GC Z d 348 [.ref (A 109), .int x1] (WW Z A s ++ ex) 0 0 (fun v u => ∃ t : GS, Inv t ∧ Fr fm_348 s t ∧ v = none ∧ u = WW Z A t ++ ex ∧ (SR t (x1).toInt)) X := by
  intro post xp hP hX
  obtain ⟨u_109_19, e_109_19⟩ : ∃ w, w = s.2.2.1 109 19 := ⟨_, rfl⟩
  have ro_109_19 := inv_F hI 0 160 rfl e_109_19
  obtain ⟨u_109_20, e_109_20⟩ : ∃ w, w = s.2.2.1 109 20 := ⟨_, rfl⟩
  have ro_109_20 := inv_F hI 0 32 rfl e_109_20
  have ct43 : ∀ (k43 : Nat) (sc43 : GS) (y43_2 : Int32) (y43_3 : Int32), Inv sc43 → Fr fm_348 s sc43 → (In y43_2 0 32) → (In y43_3 0 32) → ((y43_2).toInt ≤ (y43_3).toInt) → (SI sc43 (x1).toInt (y43_3).toInt) → 32 - (y43_2).toInt < (k43 : Int) → GG Z (d - 1) 348 post (gx xp) (1 + k43 * 147601) 43 (fun j => xlook j [(0, .ref (A 109)), (1, .int x1), (2, .int y43_2), (3, .int y43_3)]) [] (WW Z A sc43 ++ ex) 0 0 := by
    intro k43
    induction k43 with
    | zero => intro sc43 y43_2 y43_3 hIc43 hFc43 j43_2 j43_3 n43_0 g43_0 mm43; exfalso; (first | have a0 := in_u h1 | (have a0 := h1; unfold In at a0)); (first | have a1 := in_u ro_109_20 | (have a1 := ro_109_20; unfold In at a1)); (first | have a2 := in_u ro_109_19 | (have a2 := ro_109_19; unfold In at a2)); have a3 := j43_3; unfold In at a3; have a4 := j43_2; unfold In at a4; omega
    | succ k43 ih43 =>
      intro sc43 y43_2 y43_3 hIc43 hFc43 j43_2 j43_3 n43_0 g43_0 mm43
      refine gg_w (M := 1 + k43 * 147601 + 147601) gws ?_
      have ct62 : ∀ (k62 : Nat) (sc62 : GS) (y62_2 : Int32) (y62_3 : Int32) (y62_4 : Int32) (y62_5 : Int32), Inv sc62 → Fr fm_348 s sc62 → (In y62_2 1 32) → (In y62_3 0 32) → (In y62_4 0 1951) → (In y62_5 0 160) → ((y62_2).toInt = y43_2.toInt + 1) → ((y62_2).toInt ≤ (y62_3).toInt) → (SI sc62 (x1).toInt (y62_3).toInt) → (0 ≤ (sc62.1 148 (y62_4).toNatClampNeg).toInt) → 160 - (y62_5).toInt < (k62 : Int) → GG Z (d - 1) 348 post (gx xp) (1 + k43 * 147601 + 1 + k62 * 900) 62 (fun j => xlook j [(0, .ref (A 109)), (1, .int x1), (2, .int y62_2), (3, .int y62_3), (4, .int y62_4), (5, .int y62_5)]) [] (WW Z A sc62 ++ ex) 0 0 := by
        intro k62
        induction k62 with
        | zero => intro sc62 y62_2 y62_3 y62_4 y62_5 hIc62 hFc62 j62_2 j62_3 j62_4 j62_5 n62_0 n62_1 g62_0 g62_1 mm62; exact m_no mm62 j62_5 rfl
        | succ k62 ih62 =>
          intro sc62 y62_2 y62_3 y62_4 y62_5 hIc62 hFc62 j62_2 j62_3 j62_4 j62_5 n62_0 n62_1 g62_0 g62_1 mm62
          refine gg_w (M := 1 + k43 * 147601 + 1 + k62 * 900 + 900) gws ?_
          refine g_iload 64 (gd rfl) rfl rfl ?_
          refine g_sipush 160 67 (gd rfl) rfl rfl ?_
          refine g_cmp_ge 70 257 (gd rfl) rfl rfl (fun c67 => ?_) (fun c67 => ?_)
          · skip
            have i67 := r_le2 160 160 c67 (in_c 160 rfl) j62_5 rfl
            refine g_goto 43 (gd rfl) rfl ?_
            have n43 : (y62_2).toInt ≤ (y62_3).toInt := by first | exact n62_1 | ((first | have a0 := in_u h1 | (have a0 := h1; unfold In at a0)); (first | have a1 := in_u ro_109_20 | (have a1 := ro_109_20; unfold In at a1)); (first | have a2 := in_u ro_109_19 | (have a2 := ro_109_19; unfold In at a2)); (first | have a3 := in_u i67 | (have a3 := i67; unfold In at a3)); (first | have a4 := in_u j62_4 | (have a4 := j62_4; unfold In at a4)); (first | have a5 := in_u j62_3 | (have a5 := j62_3; unfold In at a5)); (first | have a6 := in_u j62_2 | (have a6 := j62_2; unfold In at a6)); omega)
            have n43a : SI sc62 (x1).toInt (y62_3).toInt := by first | exact g62_0 | (first | exact g62_0 | exact si_0 (s := sc2) h1 (by rw [sI_p rfl, sI_q]) (by decide) (by rw [sI_q]; rfl) rfl (fun k hk => g2_0 k (by rw [← e4] at hk; (first | have a0 := in_u h1 | (have a0 := h1; unfold In at a0)); (first | have a1 := in_u ro_109_20 | (have a1 := ro_109_20; unfold In at a1)); (first | have a2 := in_u ro_109_19 | (have a2 := ro_109_19; unfold In at a2)); (first | have a3 := in_u i67 | (have a3 := i67; unfold In at a3)); (first | have a4 := in_u j62_4 | (have a4 := j62_4; unfold In at a4)); (first | have a5 := in_u j62_3 | (have a5 := j62_3; unfold In at a5)); (first | have a6 := in_u j62_2 | (have a6 := j62_2; unfold In at a6)); omega)))
            have m43 : 32 - (y62_2).toInt < ((k43 : Nat) : Int) := by (first | have a0 := in_u h1 | (have a0 := h1; unfold In at a0)); (first | have a1 := in_u ro_109_20 | (have a1 := ro_109_20; unfold In at a1)); (first | have a2 := in_u ro_109_19 | (have a2 := ro_109_19; unfold In at a2)); (first | have a3 := in_u i67 | (have a3 := i67; unfold In at a3)); (first | have a4 := in_u j62_4 | (have a4 := j62_4; unfold In at a4)); (first | have a5 := in_u j62_3 | (have a5 := j62_3; unfold In at a5)); (first | have a6 := in_u j62_2 | (have a6 := j62_2; unfold In at a6)); omega
            exact gg_w (by first | exact Nat.le_add_right _ _ | exact gw2 | exact gw3 | exact gwe rfl | exact gwf rfl | exact gwg rfl | exact gwh rfl | omega) (gg_f (gf_cons rfl (gf_cons rfl (gf_cons rfl (gf_cons rfl gf_nil)))) (ih43  sc62 y62_2 y62_3 hIc62 hFc62 (in_w 0 32 j62_2 rfl) (in_w 0 32 j62_3 rfl) n43 n43a m43))
          · skip
            have i67 := r_lt1 0 159 c67 j62_5 (in_c 160 rfl) rfl
            refine g_aload_n 71 (gd rfl) rfl rfl ?_
            refine g_getI 74 (gd rfl) rfl rfl rfl (fun z71 e71 => ?_)
            have q71 : u_109_19 = z71 := (fr_F e_109_19 hFc62 rfl).trans e71.symm
            subst q71
            refine g_iload 76 (gd rfl) rfl rfl ?_
            refine g_iadd 77 (gd rfl) rfl (fun z76 e76 => ?_)
            have i76 := in_add 0 319 e76 ro_109_19 i67 rfl rfl
            refine g_istore 79 (gd rfl) rfl (Nat.le_of_ble_eq_true rfl) ?_
            have hbs : bs sc62 + (y62_5).toNatClampNeg = z76.toNatClampNeg := bs_x (show u_109_19 = sc62.2.2.1 109 19 from fr_F e_109_19 hFc62 rfl) (by (first | have a0 := in_u h1 | (have a0 := h1; unfold In at a0)); (first | have a1 := in_u ro_109_20 | (have a1 := ro_109_20; unfold In at a1)); (first | have a2 := in_u ro_109_19 | (have a2 := ro_109_19; unfold In at a2)); (first | have a3 := in_u i67 | (have a3 := i67; unfold In at a3)); (first | have a4 := in_u j62_4 | (have a4 := j62_4; unfold In at a4)); (first | have a5 := in_u j62_3 | (have a5 := j62_3; unfold In at a5)); (first | have a6 := in_u j62_2 | (have a6 := j62_2; unfold In at a6)); (first | have a7 := in_u i76 | (have a7 := i76; unfold In at a7)); have a8 := t_add e76 ro_109_19 i67 rfl; omega) (by (first | have a0 := in_u h1 | (have a0 := h1; unfold In at a0)); (first | have a1 := in_u ro_109_20 | (have a1 := ro_109_20; unfold In at a1)); (first | have a2 := in_u ro_109_19 | (have a2 := ro_109_19; unfold In at a2)); (first | have a3 := in_u i67 | (have a3 := i67; unfold In at a3)); (first | have a4 := in_u j62_4 | (have a4 := j62_4; unfold In at a4)); (first | have a5 := in_u j62_3 | (have a5 := j62_3; unfold In at a5)); (first | have a6 := in_u j62_2 | (have a6 := j62_2; unfold In at a6)); (first | have a7 := in_u i76 | (have a7 := i76; unfold In at a7)); have a8 := t_add e76 ro_109_19 i67 rfl; omega) (by (first | have a0 := in_u h1 | (have a0 := h1; unfold In at a0)); (first | have a1 := in_u ro_109_20 | (have a1 := ro_109_20; unfold In at a1)); (first | have a2 := in_u ro_109_19 | (have a2 := ro_109_19; unfold In at a2)); (first | have a3 := in_u i67 | (have a3 := i67; unfold In at a3)); (first | have a4 := in_u j62_4 | (have a4 := j62_4; unfold In at a4)); (first | have a5 := in_u j62_3 | (have a5 := j62_3; unfold In at a5)); (first | have a6 := in_u j62_2 | (have a6 := j62_2; unfold In at a6)); (first | have a7 := in_u i76 | (have a7 := i76; unfold In at a7)); have a8 := t_add e76 ro_109_19 i67 rfl; omega)
            refine g_aload_n 80 (gd rfl) rfl rfl ?_
            refine g_getA (q2 := 112) 83 (gd rfl) rfl rfl rfl rfl ?_
            refine g_iload 85 (gd rfl) rfl rfl ?_
            refine g_baload 86 (gd rfl) rfl (n := 480) rfl (in_ix i76 rfl) (fun z85 e85 => ?_)
            have i85 := inv_I hIc62 (n := 480) (t := 3) 0 1 rfl (in_ix i76 rfl) rfl e85
            refine g_if_eq 89 168 (gd rfl) rfl rfl (fun c86 => ?_) (fun c86 => ?_)
            · skip
              have i86 := z_eq 0 0 c86 i85 rfl
              refine g_aload_n 169 (gd rfl) rfl rfl ?_
              refine g_getA (q2 := 112) 172 (gd rfl) rfl rfl rfl rfl ?_
              refine g_iload 174 (gd rfl) rfl rfl ?_
              refine g_baload 175 (gd rfl) rfl (n := 480) rfl (in_ix i76 rfl) (fun z174 e174 => ?_)
              have q174 : z85 = z174 := (e85).trans e174.symm
              subst q174
              refine g_if_eq 178 251 (gd rfl) rfl rfl (fun c175 => ?_) (fun c175 => ?_)
              · skip
                first | (have nsi : SI sc62 (x1).toInt (y62_3).toInt := (by have hl3 : (y62_3).toInt = y62_3.toInt + 1 := (by (first | have a0 := in_u h1 | (have a0 := h1; unfold In at a0)); (first | have a1 := in_u ro_109_20 | (have a1 := ro_109_20; unfold In at a1)); (first | have a2 := in_u ro_109_19 | (have a2 := ro_109_19; unfold In at a2)); (first | have a3 := in_u i67 | (have a3 := i67; unfold In at a3)); (first | have a4 := in_u j62_4 | (have a4 := j62_4; unfold In at a4)); (first | have a5 := in_u j62_3 | (have a5 := j62_3; unfold In at a5)); (first | have a6 := in_u j62_2 | (have a6 := j62_2; unfold In at a6)); (first | have a7 := in_u i76 | (have a7 := i76; unfold In at a7)); have a8 := t_add e76 ro_109_19 i67 rfl; omega); rw [hl3]; exact si_push (s := sc62) (a := y62_5.toNatClampNeg) (m := y62_3.toNatClampNeg) g62_0 (by show ((y62_3.toInt.toNat : Nat) : Int) = _; (first | have a0 := in_u h1 | (have a0 := h1; unfold In at a0)); (first | have a1 := in_u ro_109_20 | (have a1 := ro_109_20; unfold In at a1)); (first | have a2 := in_u ro_109_19 | (have a2 := ro_109_19; unfold In at a2)); (first | have a3 := in_u i67 | (have a3 := i67; unfold In at a3)); (first | have a4 := in_u j62_4 | (have a4 := j62_4; unfold In at a4)); (first | have a5 := in_u j62_3 | (have a5 := j62_3; unfold In at a5)); (first | have a6 := in_u j62_2 | (have a6 := j62_2; unfold In at a6)); (first | have a7 := in_u i76 | (have a7 := i76; unfold In at a7)); have a8 := t_add e76 ro_109_19 i67 rfl; omega) (by rw [sI_p rfl, sI_q]) (by rw [sI_q, sI_p rfl]) (by rw [sI_p rfl, sI_p rfl]) (by rw [sI_p rfl, sI_p rfl]) (by rw [sI_p rfl, sI_p rfl]) (by rw [sI_p rfl, sI_p rfl]) rfl rfl rfl i111 (by rw [← e112]; exact c113) (by show y62_5.toInt.toNat < 160; (first | have a0 := in_u h1 | (have a0 := h1; unfold In at a0)); (first | have a1 := in_u ro_109_20 | (have a1 := ro_109_20; unfold In at a1)); (first | have a2 := in_u ro_109_19 | (have a2 := ro_109_19; unfold In at a2)); (first | have a3 := in_u i67 | (have a3 := i67; unfold In at a3)); (first | have a4 := in_u j62_4 | (have a4 := j62_4; unfold In at a4)); (first | have a5 := in_u j62_3 | (have a5 := j62_3; unfold In at a5)); (first | have a6 := in_u j62_2 | (have a6 := j62_2; unfold In at a6)); (first | have a7 := in_u i76 | (have a7 := i76; unfold In at a7)); have a8 := t_add e76 ro_109_19 i67 rfl; (first | exact zt_l (by decide) (by omega) | omega)) (Or.inl ⟨by show _ = ((y62_5.toInt.toNat : Nat) : Int); (first | have a0 := in_u h1 | (have a0 := h1; unfold In at a0)); (first | have a1 := in_u ro_109_20 | (have a1 := ro_109_20; unfold In at a1)); (first | have a2 := in_u ro_109_19 | (have a2 := ro_109_19; unfold In at a2)); (first | have a3 := in_u i67 | (have a3 := i67; unfold In at a3)); (first | have a4 := in_u j62_4 | (have a4 := j62_4; unfold In at a4)); (first | have a5 := in_u j62_3 | (have a5 := j62_3; unfold In at a5)); (first | have a6 := in_u j62_2 | (have a6 := j62_2; unfold In at a6)); (first | have a7 := in_u i76 | (have a7 := i76; unfold In at a7)); have a8 := t_add e76 ro_109_19 i67 rfl; omega, by rw [hbs, ← e85]; exact c86, by rw [hbs]; exact e111.symm, by rw [hbs, ← e95, Int32.toInt_inj.mp c98]; exact g62_1, by rw [hbs, ← e95]; exact i95, by rw [hbs, ← e122, ← e129, ← tx_i2l e130]; exact c132a⟩))) | (have nsi : SI sc62 (x1).toInt (y62_3).toInt := (by have hl3 : (y62_3).toInt = y62_3.toInt + 1 := (by (first | have a0 := in_u h1 | (have a0 := h1; unfold In at a0)); (first | have a1 := in_u ro_109_20 | (have a1 := ro_109_20; unfold In at a1)); (first | have a2 := in_u ro_109_19 | (have a2 := ro_109_19; unfold In at a2)); (first | have a3 := in_u i67 | (have a3 := i67; unfold In at a3)); (first | have a4 := in_u j62_4 | (have a4 := j62_4; unfold In at a4)); (first | have a5 := in_u j62_3 | (have a5 := j62_3; unfold In at a5)); (first | have a6 := in_u j62_2 | (have a6 := j62_2; unfold In at a6)); (first | have a7 := in_u i76 | (have a7 := i76; unfold In at a7)); have a8 := t_add e76 ro_109_19 i67 rfl; omega); rw [hl3]; exact si_push (s := sc62) (a := y62_5.toNatClampNeg) (m := y62_3.toNatClampNeg) g62_0 (by show ((y62_3.toInt.toNat : Nat) : Int) = _; (first | have a0 := in_u h1 | (have a0 := h1; unfold In at a0)); (first | have a1 := in_u ro_109_20 | (have a1 := ro_109_20; unfold In at a1)); (first | have a2 := in_u ro_109_19 | (have a2 := ro_109_19; unfold In at a2)); (first | have a3 := in_u i67 | (have a3 := i67; unfold In at a3)); (first | have a4 := in_u j62_4 | (have a4 := j62_4; unfold In at a4)); (first | have a5 := in_u j62_3 | (have a5 := j62_3; unfold In at a5)); (first | have a6 := in_u j62_2 | (have a6 := j62_2; unfold In at a6)); (first | have a7 := in_u i76 | (have a7 := i76; unfold In at a7)); have a8 := t_add e76 ro_109_19 i67 rfl; omega) (by rw [sI_p rfl, sI_q]) (by rw [sI_q, sI_p rfl]) (by rw [sI_p rfl, sI_p rfl]) (by rw [sI_p rfl, sI_p rfl]) (by rw [sI_p rfl, sI_p rfl]) (by rw [sI_p rfl, sI_p rfl]) rfl rfl rfl i95 (by rw [← e201]; exact c202) (by show y62_5.toInt.toNat < 160; (first | have a0 := in_u h1 | (have a0 := h1; unfold In at a0)); (first | have a1 := in_u ro_109_20 | (have a1 := ro_109_20; unfold In at a1)); (first | have a2 := in_u ro_109_19 | (have a2 := ro_109_19; unfold In at a2)); (first | have a3 := in_u i67 | (have a3 := i67; unfold In at a3)); (first | have a4 := in_u j62_4 | (have a4 := j62_4; unfold In at a4)); (first | have a5 := in_u j62_3 | (have a5 := j62_3; unfold In at a5)); (first | have a6 := in_u j62_2 | (have a6 := j62_2; unfold In at a6)); (first | have a7 := in_u i76 | (have a7 := i76; unfold In at a7)); have a8 := t_add e76 ro_109_19 i67 rfl; (first | exact zt_l (by decide) (by omega) | omega)) (Or.inr ⟨by show _ = 200 + ((y62_5.toInt.toNat : Nat) : Int); (first | have a0 := in_u h1 | (have a0 := h1; unfold In at a0)); (first | have a1 := in_u ro_109_20 | (have a1 := ro_109_20; unfold In at a1)); (first | have a2 := in_u ro_109_19 | (have a2 := ro_109_19; unfold In at a2)); (first | have a3 := in_u i67 | (have a3 := i67; unfold In at a3)); (first | have a4 := in_u j62_4 | (have a4 := j62_4; unfold In at a4)); (first | have a5 := in_u j62_3 | (have a5 := j62_3; unfold In at a5)); (first | have a6 := in_u j62_2 | (have a6 := j62_2; unfold In at a6)); (first | have a7 := in_u i76 | (have a7 := i76; unfold In at a7)); have a8 := t_add e76 ro_109_19 i67 rfl; omega, by rw [hbs, ← e85]; exact c86, by rw [hbs]; exact e95.symm, by rw [hbs, ← e184, Int32.toInt_inj.mp c187]; exact g62_1, by rw [hbs, ← e184]; exact i184, by rw [← e211]; exact c214a⟩))) | (have nsi : SI sc62 (x1).toInt (y62_3).toInt := (by have hl3 : (y62_3).toInt = y62_3.toInt + 1 := (by (first | have a0 := in_u h1 | (have a0 := h1; unfold In at a0)); (first | have a1 := in_u ro_109_20 | (have a1 := ro_109_20; unfold In at a1)); (first | have a2 := in_u ro_109_19 | (have a2 := ro_109_19; unfold In at a2)); (first | have a3 := in_u i67 | (have a3 := i67; unfold In at a3)); (first | have a4 := in_u j62_4 | (have a4 := j62_4; unfold In at a4)); (first | have a5 := in_u j62_3 | (have a5 := j62_3; unfold In at a5)); (first | have a6 := in_u j62_2 | (have a6 := j62_2; unfold In at a6)); (first | have a7 := in_u i76 | (have a7 := i76; unfold In at a7)); have a8 := t_add e76 ro_109_19 i67 rfl; omega); rw [hl3]; exact si_push (s := sc62) (a := y62_5.toNatClampNeg) (m := y62_3.toNatClampNeg) g62_0 (by show ((y62_3.toInt.toNat : Nat) : Int) = _; (first | have a0 := in_u h1 | (have a0 := h1; unfold In at a0)); (first | have a1 := in_u ro_109_20 | (have a1 := ro_109_20; unfold In at a1)); (first | have a2 := in_u ro_109_19 | (have a2 := ro_109_19; unfold In at a2)); (first | have a3 := in_u i67 | (have a3 := i67; unfold In at a3)); (first | have a4 := in_u j62_4 | (have a4 := j62_4; unfold In at a4)); (first | have a5 := in_u j62_3 | (have a5 := j62_3; unfold In at a5)); (first | have a6 := in_u j62_2 | (have a6 := j62_2; unfold In at a6)); (first | have a7 := in_u i76 | (have a7 := i76; unfold In at a7)); have a8 := t_add e76 ro_109_19 i67 rfl; omega) (by rw [sI_p rfl, sI_q]) (by rw [sI_q, sI_p rfl]) (by rw [sI_p rfl, sI_p rfl]) (by rw [sI_p rfl, sI_p rfl]) (by rw [sI_p rfl, sI_p rfl]) (by rw [sI_p rfl, sI_p rfl]) rfl rfl rfl i95 (by rw [← e201]; exact c202) (by show y62_5.toInt.toNat < 160; (first | have a0 := in_u h1 | (have a0 := h1; unfold In at a0)); (first | have a1 := in_u ro_109_20 | (have a1 := ro_109_20; unfold In at a1)); (first | have a2 := in_u ro_109_19 | (have a2 := ro_109_19; unfold In at a2)); (first | have a3 := in_u i67 | (have a3 := i67; unfold In at a3)); (first | have a4 := in_u j62_4 | (have a4 := j62_4; unfold In at a4)); (first | have a5 := in_u j62_3 | (have a5 := j62_3; unfold In at a5)); (first | have a6 := in_u j62_2 | (have a6 := j62_2; unfold In at a6)); (first | have a7 := in_u i76 | (have a7 := i76; unfold In at a7)); have a8 := t_add e76 ro_109_19 i67 rfl; (first | exact zt_l (by decide) (by omega) | omega)) (Or.inr ⟨by show _ = 200 + ((y62_5.toInt.toNat : Nat) : Int); (first | have a0 := in_u h1 | (have a0 := h1; unfold In at a0)); (first | have a1 := in_u ro_109_20 | (have a1 := ro_109_20; unfold In at a1)); (first | have a2 := in_u ro_109_19 | (have a2 := ro_109_19; unfold In at a2)); (first | have a3 := in_u i67 | (have a3 := i67; unfold In at a3)); (first | have a4 := in_u j62_4 | (have a4 := j62_4; unfold In at a4)); (first | have a5 := in_u j62_3 | (have a5 := j62_3; unfold In at a5)); (first | have a6 := in_u j62_2 | (have a6 := j62_2; unfold In at a6)); (first | have a7 := in_u i76 | (have a7 := i76; unfold In at a7)); have a8 := t_add e76 ro_109_19 i67 rfl; omega, by rw [hbs, ← e85]; exact c86, by rw [hbs]; exact e95.symm, by rw [hbs, ← e184, Int32.toInt_inj.mp c187]; exact g62_1, by rw [hbs, ← e184]; exact i184, by rw [← e122]; exact c214a⟩))) | (have nsi : SI sc62 (x1).toInt (y62_3).toInt := (by have hl3 : (y62_3).toInt = y62_3.toInt + 1 := (by (first | have a0 := in_u h1 | (have a0 := h1; unfold In at a0)); (first | have a1 := in_u ro_109_20 | (have a1 := ro_109_20; unfold In at a1)); (first | have a2 := in_u ro_109_19 | (have a2 := ro_109_19; unfold In at a2)); (first | have a3 := in_u i67 | (have a3 := i67; unfold In at a3)); (first | have a4 := in_u j62_4 | (have a4 := j62_4; unfold In at a4)); (first | have a5 := in_u j62_3 | (have a5 := j62_3; unfold In at a5)); (first | have a6 := in_u j62_2 | (have a6 := j62_2; unfold In at a6)); (first | have a7 := in_u i76 | (have a7 := i76; unfold In at a7)); have a8 := t_add e76 ro_109_19 i67 rfl; omega); rw [hl3]; exact si_push (s := sc62) (a := y62_5.toNatClampNeg) (m := y62_3.toNatClampNeg) g62_0 (by show ((y62_3.toInt.toNat : Nat) : Int) = _; (first | have a0 := in_u h1 | (have a0 := h1; unfold In at a0)); (first | have a1 := in_u ro_109_20 | (have a1 := ro_109_20; unfold In at a1)); (first | have a2 := in_u ro_109_19 | (have a2 := ro_109_19; unfold In at a2)); (first | have a3 := in_u i67 | (have a3 := i67; unfold In at a3)); (first | have a4 := in_u j62_4 | (have a4 := j62_4; unfold In at a4)); (first | have a5 := in_u j62_3 | (have a5 := j62_3; unfold In at a5)); (first | have a6 := in_u j62_2 | (have a6 := j62_2; unfold In at a6)); (first | have a7 := in_u i76 | (have a7 := i76; unfold In at a7)); have a8 := t_add e76 ro_109_19 i67 rfl; omega) (by rw [sI_p rfl, sI_q]) (by rw [sI_q, sI_p rfl]) (by rw [sI_p rfl, sI_p rfl]) (by rw [sI_p rfl, sI_p rfl]) (by rw [sI_p rfl, sI_p rfl]) (by rw [sI_p rfl, sI_p rfl]) rfl rfl rfl i95 (by rw [← e201]; exact c202) (by show y62_5.toInt.toNat < 160; (first | have a0 := in_u h1 | (have a0 := h1; unfold In at a0)); (first | have a1 := in_u ro_109_20 | (have a1 := ro_109_20; unfold In at a1)); (first | have a2 := in_u ro_109_19 | (have a2 := ro_109_19; unfold In at a2)); (first | have a3 := in_u i67 | (have a3 := i67; unfold In at a3)); (first | have a4 := in_u j62_4 | (have a4 := j62_4; unfold In at a4)); (first | have a5 := in_u j62_3 | (have a5 := j62_3; unfold In at a5)); (first | have a6 := in_u j62_2 | (have a6 := j62_2; unfold In at a6)); (first | have a7 := in_u i76 | (have a7 := i76; unfold In at a7)); have a8 := t_add e76 ro_109_19 i67 rfl; (first | exact zt_l (by decide) (by omega) | omega)) (Or.inr ⟨by show _ = 200 + ((y62_5.toInt.toNat : Nat) : Int); (first | have a0 := in_u h1 | (have a0 := h1; unfold In at a0)); (first | have a1 := in_u ro_109_20 | (have a1 := ro_109_20; unfold In at a1)); (first | have a2 := in_u ro_109_19 | (have a2 := ro_109_19; unfold In at a2)); (first | have a3 := in_u i67 | (have a3 := i67; unfold In at a3)); (first | have a4 := in_u j62_4 | (have a4 := j62_4; unfold In at a4)); (first | have a5 := in_u j62_3 | (have a5 := j62_3; unfold In at a5)); (first | have a6 := in_u j62_2 | (have a6 := j62_2; unfold In at a6)); (first | have a7 := in_u i76 | (have a7 := i76; unfold In at a7)); have a8 := t_add e76 ro_109_19 i67 rfl; omega, by rw [hbs, ← e85]; exact c86, by rw [hbs]; exact e95.symm, by rw [hbs, ← e111, Int32.toInt_inj.mp c187]; exact g62_1, by rw [hbs, ← e111]; exact i111, by rw [← e211]; exact c214a⟩))) | (have nsi : SI sc62 (x1).toInt (y62_3).toInt := (by have hl3 : (y62_3).toInt = y62_3.toInt + 1 := (by (first | have a0 := in_u h1 | (have a0 := h1; unfold In at a0)); (first | have a1 := in_u ro_109_20 | (have a1 := ro_109_20; unfold In at a1)); (first | have a2 := in_u ro_109_19 | (have a2 := ro_109_19; unfold In at a2)); (first | have a3 := in_u i67 | (have a3 := i67; unfold In at a3)); (first | have a4 := in_u j62_4 | (have a4 := j62_4; unfold In at a4)); (first | have a5 := in_u j62_3 | (have a5 := j62_3; unfold In at a5)); (first | have a6 := in_u j62_2 | (have a6 := j62_2; unfold In at a6)); (first | have a7 := in_u i76 | (have a7 := i76; unfold In at a7)); have a8 := t_add e76 ro_109_19 i67 rfl; omega); rw [hl3]; exact si_push (s := sc62) (a := y62_5.toNatClampNeg) (m := y62_3.toNatClampNeg) g62_0 (by show ((y62_3.toInt.toNat : Nat) : Int) = _; (first | have a0 := in_u h1 | (have a0 := h1; unfold In at a0)); (first | have a1 := in_u ro_109_20 | (have a1 := ro_109_20; unfold In at a1)); (first | have a2 := in_u ro_109_19 | (have a2 := ro_109_19; unfold In at a2)); (first | have a3 := in_u i67 | (have a3 := i67; unfold In at a3)); (first | have a4 := in_u j62_4 | (have a4 := j62_4; unfold In at a4)); (first | have a5 := in_u j62_3 | (have a5 := j62_3; unfold In at a5)); (first | have a6 := in_u j62_2 | (have a6 := j62_2; unfold In at a6)); (first | have a7 := in_u i76 | (have a7 := i76; unfold In at a7)); have a8 := t_add e76 ro_109_19 i67 rfl; omega) (by rw [sI_p rfl, sI_q]) (by rw [sI_q, sI_p rfl]) (by rw [sI_p rfl, sI_p rfl]) (by rw [sI_p rfl, sI_p rfl]) (by rw [sI_p rfl, sI_p rfl]) (by rw [sI_p rfl, sI_p rfl]) rfl rfl rfl i95 (by rw [← e201]; exact c202) (by show y62_5.toInt.toNat < 160; (first | have a0 := in_u h1 | (have a0 := h1; unfold In at a0)); (first | have a1 := in_u ro_109_20 | (have a1 := ro_109_20; unfold In at a1)); (first | have a2 := in_u ro_109_19 | (have a2 := ro_109_19; unfold In at a2)); (first | have a3 := in_u i67 | (have a3 := i67; unfold In at a3)); (first | have a4 := in_u j62_4 | (have a4 := j62_4; unfold In at a4)); (first | have a5 := in_u j62_3 | (have a5 := j62_3; unfold In at a5)); (first | have a6 := in_u j62_2 | (have a6 := j62_2; unfold In at a6)); (first | have a7 := in_u i76 | (have a7 := i76; unfold In at a7)); have a8 := t_add e76 ro_109_19 i67 rfl; (first | exact zt_l (by decide) (by omega) | omega)) (Or.inr ⟨by show _ = 200 + ((y62_5.toInt.toNat : Nat) : Int); (first | have a0 := in_u h1 | (have a0 := h1; unfold In at a0)); (first | have a1 := in_u ro_109_20 | (have a1 := ro_109_20; unfold In at a1)); (first | have a2 := in_u ro_109_19 | (have a2 := ro_109_19; unfold In at a2)); (first | have a3 := in_u i67 | (have a3 := i67; unfold In at a3)); (first | have a4 := in_u j62_4 | (have a4 := j62_4; unfold In at a4)); (first | have a5 := in_u j62_3 | (have a5 := j62_3; unfold In at a5)); (first | have a6 := in_u j62_2 | (have a6 := j62_2; unfold In at a6)); (first | have a7 := in_u i76 | (have a7 := i76; unfold In at a7)); have a8 := t_add e76 ro_109_19 i67 rfl; omega, by rw [hbs, ← e85]; exact c86, by rw [hbs]; exact e95.symm, by rw [hbs, ← e111, Int32.toInt_inj.mp c187]; exact g62_1, by rw [hbs, ← e111]; exact i111, by rw [← e122]; exact c214a⟩))) | skip
                refine g_iinc 254 (gd rfl) rfl rfl (Nat.le_of_ble_eq_true rfl) (fun z251 e251 => ?_)
                have i251 := in_add 1 160 e251 i67 (in_c 1 rfl) rfl rfl
                refine g_goto 62 (gd rfl) rfl ?_
                have n62 : (y62_2).toInt = y43_2.toInt + 1 := by first | exact n62_0 | ((first | have a0 := in_u h1 | (have a0 := h1; unfold In at a0)); (first | have a1 := in_u ro_109_20 | (have a1 := ro_109_20; unfold In at a1)); (first | have a2 := in_u ro_109_19 | (have a2 := ro_109_19; unfold In at a2)); (first | have a3 := in_u i67 | (have a3 := i67; unfold In at a3)); (first | have a4 := in_u j62_4 | (have a4 := j62_4; unfold In at a4)); (first | have a5 := in_u j62_3 | (have a5 := j62_3; unfold In at a5)); (first | have a6 := in_u j62_2 | (have a6 := j62_2; unfold In at a6)); (first | have a7 := in_u i76 | (have a7 := i76; unfold In at a7)); have a8 := t_add e76 ro_109_19 i67 rfl; (first | have a9 := in_u i251 | (have a9 := i251; unfold In at a9)); have a10 := t_add e251 i67 (in_c 1 rfl) rfl; (first | have a11 := in_u ((in_c 1 rfl)) | (have a11 := (in_c 1 rfl); unfold In at a11)); omega)
                have n62a : (y62_2).toInt ≤ (y62_3).toInt := by first | exact n62_1 | ((first | have a0 := in_u h1 | (have a0 := h1; unfold In at a0)); (first | have a1 := in_u ro_109_20 | (have a1 := ro_109_20; unfold In at a1)); (first | have a2 := in_u ro_109_19 | (have a2 := ro_109_19; unfold In at a2)); (first | have a3 := in_u i67 | (have a3 := i67; unfold In at a3)); (first | have a4 := in_u j62_4 | (have a4 := j62_4; unfold In at a4)); (first | have a5 := in_u j62_3 | (have a5 := j62_3; unfold In at a5)); (first | have a6 := in_u j62_2 | (have a6 := j62_2; unfold In at a6)); (first | have a7 := in_u i76 | (have a7 := i76; unfold In at a7)); have a8 := t_add e76 ro_109_19 i67 rfl; (first | have a9 := in_u i251 | (have a9 := i251; unfold In at a9)); have a10 := t_add e251 i67 (in_c 1 rfl) rfl; (first | have a11 := in_u ((in_c 1 rfl)) | (have a11 := (in_c 1 rfl); unfold In at a11)); omega)
                have n62b : SI sc62 (x1).toInt (y62_3).toInt := by first | exact g43_0 | exact g62_0 | exact nsi
                have n62c : 0 ≤ (sc62.1 148 (y62_4).toNatClampNeg).toInt := by first | exact g62_1 | (first | exact g62_1 | (have h := g43_0.2.2.1 y43_2.toNatClampNeg (by show ((y43_2.toInt.toNat : Nat) : Int) < _; (first | have a0 := in_u h1 | (have a0 := h1; unfold In at a0)); (first | have a1 := in_u ro_109_20 | (have a1 := ro_109_20; unfold In at a1)); (first | have a2 := in_u ro_109_19 | (have a2 := ro_109_19; unfold In at a2)); (first | have a3 := in_u i67 | (have a3 := i67; unfold In at a3)); (first | have a4 := in_u j62_4 | (have a4 := j62_4; unfold In at a4)); (first | have a5 := in_u j62_3 | (have a5 := j62_3; unfold In at a5)); (first | have a6 := in_u j62_2 | (have a6 := j62_2; unfold In at a6)); (first | have a7 := in_u i76 | (have a7 := i76; unfold In at a7)); have a8 := t_add e76 ro_109_19 i67 rfl; (first | have a9 := in_u i251 | (have a9 := i251; unfold In at a9)); have a10 := t_add e251 i67 (in_c 1 rfl) rfl; (first | have a11 := in_u ((in_c 1 rfl)) | (have a11 := (in_c 1 rfl); unfold In at a11)); omega); rw [← e53] at h; exact h.2) | (rw [sI_p rfl, sI_q]; exact up_ge g62_1 (by (first | have a0 := in_u h1 | (have a0 := h1; unfold In at a0)); (first | have a1 := in_u ro_109_20 | (have a1 := ro_109_20; unfold In at a1)); (first | have a2 := in_u ro_109_19 | (have a2 := ro_109_19; unfold In at a2)); (first | have a3 := in_u i67 | (have a3 := i67; unfold In at a3)); (first | have a4 := in_u j62_4 | (have a4 := j62_4; unfold In at a4)); (first | have a5 := in_u j62_3 | (have a5 := j62_3; unfold In at a5)); (first | have a6 := in_u j62_2 | (have a6 := j62_2; unfold In at a6)); (first | have a7 := in_u i76 | (have a7 := i76; unfold In at a7)); have a8 := t_add e76 ro_109_19 i67 rfl; (first | have a9 := in_u i251 | (have a9 := i251; unfold In at a9)); have a10 := t_add e251 i67 (in_c 1 rfl) rfl; (first | have a11 := in_u ((in_c 1 rfl)) | (have a11 := (in_c 1 rfl); unfold In at a11)); omega)))
                exact gg_w (by first | exact Nat.le_add_right _ _ | exact gw2 | exact gw3 | exact gwe rfl | exact gwf rfl | exact gwg rfl | exact gwh rfl | omega) (gg_f (gf_cons rfl (gf_cons rfl (gf_cons rfl (gf_cons rfl (gf_cons rfl (gf_cons rfl gf_nil)))))) (ih62 sc62 y62_2 y62_3 y62_4 z251 hIc62 hFc62 (in_w 1 32 j62_2 rfl) (in_w 0 32 j62_3 rfl) (in_w 0 1951 j62_4 rfl) (in_w 0 160 i251 rfl) n62 n62a n62b n62c (m_up mm62 (t_add e251 i67 (in_c 1 rfl) rfl) (in_w 1 1 (in_c 1 rfl) rfl))))
              · skip
                exact zn_ne c175 i86 rfl
            · skip
              have i86 := z_ne 1 1 c86 i85 rfl
              refine g_aload_n 90 (gd rfl) rfl rfl ?_
              refine g_getA (q2 := 113) 93 (gd rfl) rfl rfl rfl rfl ?_
              refine g_iload 95 (gd rfl) rfl rfl ?_
              refine g_iaload 96 (gd rfl) rfl (n := 480) rfl (in_ix i76 rfl) (fun z95 e95 => ?_)
              have i95 := inv_I hIc62 (n := 480) (t := 0) 0 31 rfl (in_ix i76 rfl) rfl e95
              refine g_iload 98 (gd rfl) rfl rfl ?_
              refine g_cmp_ne 101 168 (gd rfl) rfl rfl (fun c98 => ?_) (fun c98 => ?_)
              · skip
                refine g_aload_n 169 (gd rfl) rfl rfl ?_
                refine g_getA (q2 := 112) 172 (gd rfl) rfl rfl rfl rfl ?_
                refine g_iload 174 (gd rfl) rfl rfl ?_
                refine g_baload 175 (gd rfl) rfl (n := 480) rfl (in_ix i76 rfl) (fun z174 e174 => ?_)
                have q174 : z85 = z174 := (e85).trans e174.symm
                subst q174
                refine g_if_eq 178 251 (gd rfl) rfl rfl (fun c175 => ?_) (fun c175 => ?_)
                · skip
                  exact zn_eq c175 i86 rfl
                · skip
                  refine g_aload_n 179 (gd rfl) rfl rfl ?_
                  refine g_getA (q2 := 114) 182 (gd rfl) rfl rfl rfl rfl ?_
                  refine g_iload 184 (gd rfl) rfl rfl ?_
                  refine g_iaload 185 (gd rfl) rfl (n := 480) rfl (in_ix i76 rfl) (fun z184 e184 => ?_)
                  have i184 := inv_I hIc62 (n := 480) (t := 0) 0 31 rfl (in_ix i76 rfl) rfl e184
                  refine g_iload 187 (gd rfl) rfl rfl ?_
                  refine g_cmp_ne 190 251 (gd rfl) rfl rfl (fun c187 => ?_) (fun c187 => ?_)
                  · skip
                    first | (have nsi : SI sc62 (x1).toInt (y62_3).toInt := (by have hl3 : (y62_3).toInt = y62_3.toInt + 1 := (by (first | have a0 := in_u h1 | (have a0 := h1; unfold In at a0)); (first | have a1 := in_u ro_109_20 | (have a1 := ro_109_20; unfold In at a1)); (first | have a2 := in_u ro_109_19 | (have a2 := ro_109_19; unfold In at a2)); (first | have a3 := in_u i67 | (have a3 := i67; unfold In at a3)); (first | have a4 := in_u j62_4 | (have a4 := j62_4; unfold In at a4)); (first | have a5 := in_u j62_3 | (have a5 := j62_3; unfold In at a5)); (first | have a6 := in_u j62_2 | (have a6 := j62_2; unfold In at a6)); (first | have a7 := in_u i76 | (have a7 := i76; unfold In at a7)); have a8 := t_add e76 ro_109_19 i67 rfl; omega); rw [hl3]; exact si_push (s := sc62) (a := y62_5.toNatClampNeg) (m := y62_3.toNatClampNeg) g62_0 (by show ((y62_3.toInt.toNat : Nat) : Int) = _; (first | have a0 := in_u h1 | (have a0 := h1; unfold In at a0)); (first | have a1 := in_u ro_109_20 | (have a1 := ro_109_20; unfold In at a1)); (first | have a2 := in_u ro_109_19 | (have a2 := ro_109_19; unfold In at a2)); (first | have a3 := in_u i67 | (have a3 := i67; unfold In at a3)); (first | have a4 := in_u j62_4 | (have a4 := j62_4; unfold In at a4)); (first | have a5 := in_u j62_3 | (have a5 := j62_3; unfold In at a5)); (first | have a6 := in_u j62_2 | (have a6 := j62_2; unfold In at a6)); (first | have a7 := in_u i76 | (have a7 := i76; unfold In at a7)); have a8 := t_add e76 ro_109_19 i67 rfl; omega) (by rw [sI_p rfl, sI_q]) (by rw [sI_q, sI_p rfl]) (by rw [sI_p rfl, sI_p rfl]) (by rw [sI_p rfl, sI_p rfl]) (by rw [sI_p rfl, sI_p rfl]) (by rw [sI_p rfl, sI_p rfl]) rfl rfl rfl i111 (by rw [← e112]; exact c113) (by show y62_5.toInt.toNat < 160; (first | have a0 := in_u h1 | (have a0 := h1; unfold In at a0)); (first | have a1 := in_u ro_109_20 | (have a1 := ro_109_20; unfold In at a1)); (first | have a2 := in_u ro_109_19 | (have a2 := ro_109_19; unfold In at a2)); (first | have a3 := in_u i67 | (have a3 := i67; unfold In at a3)); (first | have a4 := in_u j62_4 | (have a4 := j62_4; unfold In at a4)); (first | have a5 := in_u j62_3 | (have a5 := j62_3; unfold In at a5)); (first | have a6 := in_u j62_2 | (have a6 := j62_2; unfold In at a6)); (first | have a7 := in_u i76 | (have a7 := i76; unfold In at a7)); have a8 := t_add e76 ro_109_19 i67 rfl; (first | exact zt_l (by decide) (by omega) | omega)) (Or.inl ⟨by show _ = ((y62_5.toInt.toNat : Nat) : Int); (first | have a0 := in_u h1 | (have a0 := h1; unfold In at a0)); (first | have a1 := in_u ro_109_20 | (have a1 := ro_109_20; unfold In at a1)); (first | have a2 := in_u ro_109_19 | (have a2 := ro_109_19; unfold In at a2)); (first | have a3 := in_u i67 | (have a3 := i67; unfold In at a3)); (first | have a4 := in_u j62_4 | (have a4 := j62_4; unfold In at a4)); (first | have a5 := in_u j62_3 | (have a5 := j62_3; unfold In at a5)); (first | have a6 := in_u j62_2 | (have a6 := j62_2; unfold In at a6)); (first | have a7 := in_u i76 | (have a7 := i76; unfold In at a7)); have a8 := t_add e76 ro_109_19 i67 rfl; omega, by rw [hbs, ← e85]; exact c86, by rw [hbs]; exact e111.symm, by rw [hbs, ← e95, Int32.toInt_inj.mp c98]; exact g62_1, by rw [hbs, ← e95]; exact i95, by rw [hbs, ← e122, ← e129, ← tx_i2l e130]; exact c132a⟩))) | (have nsi : SI sc62 (x1).toInt (y62_3).toInt := (by have hl3 : (y62_3).toInt = y62_3.toInt + 1 := (by (first | have a0 := in_u h1 | (have a0 := h1; unfold In at a0)); (first | have a1 := in_u ro_109_20 | (have a1 := ro_109_20; unfold In at a1)); (first | have a2 := in_u ro_109_19 | (have a2 := ro_109_19; unfold In at a2)); (first | have a3 := in_u i67 | (have a3 := i67; unfold In at a3)); (first | have a4 := in_u j62_4 | (have a4 := j62_4; unfold In at a4)); (first | have a5 := in_u j62_3 | (have a5 := j62_3; unfold In at a5)); (first | have a6 := in_u j62_2 | (have a6 := j62_2; unfold In at a6)); (first | have a7 := in_u i76 | (have a7 := i76; unfold In at a7)); have a8 := t_add e76 ro_109_19 i67 rfl; omega); rw [hl3]; exact si_push (s := sc62) (a := y62_5.toNatClampNeg) (m := y62_3.toNatClampNeg) g62_0 (by show ((y62_3.toInt.toNat : Nat) : Int) = _; (first | have a0 := in_u h1 | (have a0 := h1; unfold In at a0)); (first | have a1 := in_u ro_109_20 | (have a1 := ro_109_20; unfold In at a1)); (first | have a2 := in_u ro_109_19 | (have a2 := ro_109_19; unfold In at a2)); (first | have a3 := in_u i67 | (have a3 := i67; unfold In at a3)); (first | have a4 := in_u j62_4 | (have a4 := j62_4; unfold In at a4)); (first | have a5 := in_u j62_3 | (have a5 := j62_3; unfold In at a5)); (first | have a6 := in_u j62_2 | (have a6 := j62_2; unfold In at a6)); (first | have a7 := in_u i76 | (have a7 := i76; unfold In at a7)); have a8 := t_add e76 ro_109_19 i67 rfl; omega) (by rw [sI_p rfl, sI_q]) (by rw [sI_q, sI_p rfl]) (by rw [sI_p rfl, sI_p rfl]) (by rw [sI_p rfl, sI_p rfl]) (by rw [sI_p rfl, sI_p rfl]) (by rw [sI_p rfl, sI_p rfl]) rfl rfl rfl i95 (by rw [← e201]; exact c202) (by show y62_5.toInt.toNat < 160; (first | have a0 := in_u h1 | (have a0 := h1; unfold In at a0)); (first | have a1 := in_u ro_109_20 | (have a1 := ro_109_20; unfold In at a1)); (first | have a2 := in_u ro_109_19 | (have a2 := ro_109_19; unfold In at a2)); (first | have a3 := in_u i67 | (have a3 := i67; unfold In at a3)); (first | have a4 := in_u j62_4 | (have a4 := j62_4; unfold In at a4)); (first | have a5 := in_u j62_3 | (have a5 := j62_3; unfold In at a5)); (first | have a6 := in_u j62_2 | (have a6 := j62_2; unfold In at a6)); (first | have a7 := in_u i76 | (have a7 := i76; unfold In at a7)); have a8 := t_add e76 ro_109_19 i67 rfl; (first | exact zt_l (by decide) (by omega) | omega)) (Or.inr ⟨by show _ = 200 + ((y62_5.toInt.toNat : Nat) : Int); (first | have a0 := in_u h1 | (have a0 := h1; unfold In at a0)); (first | have a1 := in_u ro_109_20 | (have a1 := ro_109_20; unfold In at a1)); (first | have a2 := in_u ro_109_19 | (have a2 := ro_109_19; unfold In at a2)); (first | have a3 := in_u i67 | (have a3 := i67; unfold In at a3)); (first | have a4 := in_u j62_4 | (have a4 := j62_4; unfold In at a4)); (first | have a5 := in_u j62_3 | (have a5 := j62_3; unfold In at a5)); (first | have a6 := in_u j62_2 | (have a6 := j62_2; unfold In at a6)); (first | have a7 := in_u i76 | (have a7 := i76; unfold In at a7)); have a8 := t_add e76 ro_109_19 i67 rfl; omega, by rw [hbs, ← e85]; exact c86, by rw [hbs]; exact e95.symm, by rw [hbs, ← e184, Int32.toInt_inj.mp c187]; exact g62_1, by rw [hbs, ← e184]; exact i184, by rw [← e211]; exact c214a⟩))) | (have nsi : SI sc62 (x1).toInt (y62_3).toInt := (by have hl3 : (y62_3).toInt = y62_3.toInt + 1 := (by (first | have a0 := in_u h1 | (have a0 := h1; unfold In at a0)); (first | have a1 := in_u ro_109_20 | (have a1 := ro_109_20; unfold In at a1)); (first | have a2 := in_u ro_109_19 | (have a2 := ro_109_19; unfold In at a2)); (first | have a3 := in_u i67 | (have a3 := i67; unfold In at a3)); (first | have a4 := in_u j62_4 | (have a4 := j62_4; unfold In at a4)); (first | have a5 := in_u j62_3 | (have a5 := j62_3; unfold In at a5)); (first | have a6 := in_u j62_2 | (have a6 := j62_2; unfold In at a6)); (first | have a7 := in_u i76 | (have a7 := i76; unfold In at a7)); have a8 := t_add e76 ro_109_19 i67 rfl; omega); rw [hl3]; exact si_push (s := sc62) (a := y62_5.toNatClampNeg) (m := y62_3.toNatClampNeg) g62_0 (by show ((y62_3.toInt.toNat : Nat) : Int) = _; (first | have a0 := in_u h1 | (have a0 := h1; unfold In at a0)); (first | have a1 := in_u ro_109_20 | (have a1 := ro_109_20; unfold In at a1)); (first | have a2 := in_u ro_109_19 | (have a2 := ro_109_19; unfold In at a2)); (first | have a3 := in_u i67 | (have a3 := i67; unfold In at a3)); (first | have a4 := in_u j62_4 | (have a4 := j62_4; unfold In at a4)); (first | have a5 := in_u j62_3 | (have a5 := j62_3; unfold In at a5)); (first | have a6 := in_u j62_2 | (have a6 := j62_2; unfold In at a6)); (first | have a7 := in_u i76 | (have a7 := i76; unfold In at a7)); have a8 := t_add e76 ro_109_19 i67 rfl; omega) (by rw [sI_p rfl, sI_q]) (by rw [sI_q, sI_p rfl]) (by rw [sI_p rfl, sI_p rfl]) (by rw [sI_p rfl, sI_p rfl]) (by rw [sI_p rfl, sI_p rfl]) (by rw [sI_p rfl, sI_p rfl]) rfl rfl rfl i95 (by rw [← e201]; exact c202) (by show y62_5.toInt.toNat < 160; (first | have a0 := in_u h1 | (have a0 := h1; unfold In at a0)); (first | have a1 := in_u ro_109_20 | (have a1 := ro_109_20; unfold In at a1)); (first | have a2 := in_u ro_109_19 | (have a2 := ro_109_19; unfold In at a2)); (first | have a3 := in_u i67 | (have a3 := i67; unfold In at a3)); (first | have a4 := in_u j62_4 | (have a4 := j62_4; unfold In at a4)); (first | have a5 := in_u j62_3 | (have a5 := j62_3; unfold In at a5)); (first | have a6 := in_u j62_2 | (have a6 := j62_2; unfold In at a6)); (first | have a7 := in_u i76 | (have a7 := i76; unfold In at a7)); have a8 := t_add e76 ro_109_19 i67 rfl; (first | exact zt_l (by decide) (by omega) | omega)) (Or.inr ⟨by show _ = 200 + ((y62_5.toInt.toNat : Nat) : Int); (first | have a0 := in_u h1 | (have a0 := h1; unfold In at a0)); (first | have a1 := in_u ro_109_20 | (have a1 := ro_109_20; unfold In at a1)); (first | have a2 := in_u ro_109_19 | (have a2 := ro_109_19; unfold In at a2)); (first | have a3 := in_u i67 | (have a3 := i67; unfold In at a3)); (first | have a4 := in_u j62_4 | (have a4 := j62_4; unfold In at a4)); (first | have a5 := in_u j62_3 | (have a5 := j62_3; unfold In at a5)); (first | have a6 := in_u j62_2 | (have a6 := j62_2; unfold In at a6)); (first | have a7 := in_u i76 | (have a7 := i76; unfold In at a7)); have a8 := t_add e76 ro_109_19 i67 rfl; omega, by rw [hbs, ← e85]; exact c86, by rw [hbs]; exact e95.symm, by rw [hbs, ← e184, Int32.toInt_inj.mp c187]; exact g62_1, by rw [hbs, ← e184]; exact i184, by rw [← e122]; exact c214a⟩))) | (have nsi : SI sc62 (x1).toInt (y62_3).toInt := (by have hl3 : (y62_3).toInt = y62_3.toInt + 1 := (by (first | have a0 := in_u h1 | (have a0 := h1; unfold In at a0)); (first | have a1 := in_u ro_109_20 | (have a1 := ro_109_20; unfold In at a1)); (first | have a2 := in_u ro_109_19 | (have a2 := ro_109_19; unfold In at a2)); (first | have a3 := in_u i67 | (have a3 := i67; unfold In at a3)); (first | have a4 := in_u j62_4 | (have a4 := j62_4; unfold In at a4)); (first | have a5 := in_u j62_3 | (have a5 := j62_3; unfold In at a5)); (first | have a6 := in_u j62_2 | (have a6 := j62_2; unfold In at a6)); (first | have a7 := in_u i76 | (have a7 := i76; unfold In at a7)); have a8 := t_add e76 ro_109_19 i67 rfl; omega); rw [hl3]; exact si_push (s := sc62) (a := y62_5.toNatClampNeg) (m := y62_3.toNatClampNeg) g62_0 (by show ((y62_3.toInt.toNat : Nat) : Int) = _; (first | have a0 := in_u h1 | (have a0 := h1; unfold In at a0)); (first | have a1 := in_u ro_109_20 | (have a1 := ro_109_20; unfold In at a1)); (first | have a2 := in_u ro_109_19 | (have a2 := ro_109_19; unfold In at a2)); (first | have a3 := in_u i67 | (have a3 := i67; unfold In at a3)); (first | have a4 := in_u j62_4 | (have a4 := j62_4; unfold In at a4)); (first | have a5 := in_u j62_3 | (have a5 := j62_3; unfold In at a5)); (first | have a6 := in_u j62_2 | (have a6 := j62_2; unfold In at a6)); (first | have a7 := in_u i76 | (have a7 := i76; unfold In at a7)); have a8 := t_add e76 ro_109_19 i67 rfl; omega) (by rw [sI_p rfl, sI_q]) (by rw [sI_q, sI_p rfl]) (by rw [sI_p rfl, sI_p rfl]) (by rw [sI_p rfl, sI_p rfl]) (by rw [sI_p rfl, sI_p rfl]) (by rw [sI_p rfl, sI_p rfl]) rfl rfl rfl i95 (by rw [← e201]; exact c202) (by show y62_5.toInt.toNat < 160; (first | have a0 := in_u h1 | (have a0 := h1; unfold In at a0)); (first | have a1 := in_u ro_109_20 | (have a1 := ro_109_20; unfold In at a1)); (first | have a2 := in_u ro_109_19 | (have a2 := ro_109_19; unfold In at a2)); (first | have a3 := in_u i67 | (have a3 := i67; unfold In at a3)); (first | have a4 := in_u j62_4 | (have a4 := j62_4; unfold In at a4)); (first | have a5 := in_u j62_3 | (have a5 := j62_3; unfold In at a5)); (first | have a6 := in_u j62_2 | (have a6 := j62_2; unfold In at a6)); (first | have a7 := in_u i76 | (have a7 := i76; unfold In at a7)); have a8 := t_add e76 ro_109_19 i67 rfl; (first | exact zt_l (by decide) (by omega) | omega)) (Or.inr ⟨by show _ = 200 + ((y62_5.toInt.toNat : Nat) : Int); (first | have a0 := in_u h1 | (have a0 := h1; unfold In at a0)); (first | have a1 := in_u ro_109_20 | (have a1 := ro_109_20; unfold In at a1)); (first | have a2 := in_u ro_109_19 | (have a2 := ro_109_19; unfold In at a2)); (first | have a3 := in_u i67 | (have a3 := i67; unfold In at a3)); (first | have a4 := in_u j62_4 | (have a4 := j62_4; unfold In at a4)); (first | have a5 := in_u j62_3 | (have a5 := j62_3; unfold In at a5)); (first | have a6 := in_u j62_2 | (have a6 := j62_2; unfold In at a6)); (first | have a7 := in_u i76 | (have a7 := i76; unfold In at a7)); have a8 := t_add e76 ro_109_19 i67 rfl; omega, by rw [hbs, ← e85]; exact c86, by rw [hbs]; exact e95.symm, by rw [hbs, ← e111, Int32.toInt_inj.mp c187]; exact g62_1, by rw [hbs, ← e111]; exact i111, by rw [← e211]; exact c214a⟩))) | (have nsi : SI sc62 (x1).toInt (y62_3).toInt := (by have hl3 : (y62_3).toInt = y62_3.toInt + 1 := (by (first | have a0 := in_u h1 | (have a0 := h1; unfold In at a0)); (first | have a1 := in_u ro_109_20 | (have a1 := ro_109_20; unfold In at a1)); (first | have a2 := in_u ro_109_19 | (have a2 := ro_109_19; unfold In at a2)); (first | have a3 := in_u i67 | (have a3 := i67; unfold In at a3)); (first | have a4 := in_u j62_4 | (have a4 := j62_4; unfold In at a4)); (first | have a5 := in_u j62_3 | (have a5 := j62_3; unfold In at a5)); (first | have a6 := in_u j62_2 | (have a6 := j62_2; unfold In at a6)); (first | have a7 := in_u i76 | (have a7 := i76; unfold In at a7)); have a8 := t_add e76 ro_109_19 i67 rfl; omega); rw [hl3]; exact si_push (s := sc62) (a := y62_5.toNatClampNeg) (m := y62_3.toNatClampNeg) g62_0 (by show ((y62_3.toInt.toNat : Nat) : Int) = _; (first | have a0 := in_u h1 | (have a0 := h1; unfold In at a0)); (first | have a1 := in_u ro_109_20 | (have a1 := ro_109_20; unfold In at a1)); (first | have a2 := in_u ro_109_19 | (have a2 := ro_109_19; unfold In at a2)); (first | have a3 := in_u i67 | (have a3 := i67; unfold In at a3)); (first | have a4 := in_u j62_4 | (have a4 := j62_4; unfold In at a4)); (first | have a5 := in_u j62_3 | (have a5 := j62_3; unfold In at a5)); (first | have a6 := in_u j62_2 | (have a6 := j62_2; unfold In at a6)); (first | have a7 := in_u i76 | (have a7 := i76; unfold In at a7)); have a8 := t_add e76 ro_109_19 i67 rfl; omega) (by rw [sI_p rfl, sI_q]) (by rw [sI_q, sI_p rfl]) (by rw [sI_p rfl, sI_p rfl]) (by rw [sI_p rfl, sI_p rfl]) (by rw [sI_p rfl, sI_p rfl]) (by rw [sI_p rfl, sI_p rfl]) rfl rfl rfl i95 (by rw [← e201]; exact c202) (by show y62_5.toInt.toNat < 160; (first | have a0 := in_u h1 | (have a0 := h1; unfold In at a0)); (first | have a1 := in_u ro_109_20 | (have a1 := ro_109_20; unfold In at a1)); (first | have a2 := in_u ro_109_19 | (have a2 := ro_109_19; unfold In at a2)); (first | have a3 := in_u i67 | (have a3 := i67; unfold In at a3)); (first | have a4 := in_u j62_4 | (have a4 := j62_4; unfold In at a4)); (first | have a5 := in_u j62_3 | (have a5 := j62_3; unfold In at a5)); (first | have a6 := in_u j62_2 | (have a6 := j62_2; unfold In at a6)); (first | have a7 := in_u i76 | (have a7 := i76; unfold In at a7)); have a8 := t_add e76 ro_109_19 i67 rfl; (first | exact zt_l (by decide) (by omega) | omega)) (Or.inr ⟨by show _ = 200 + ((y62_5.toInt.toNat : Nat) : Int); (first | have a0 := in_u h1 | (have a0 := h1; unfold In at a0)); (first | have a1 := in_u ro_109_20 | (have a1 := ro_109_20; unfold In at a1)); (first | have a2 := in_u ro_109_19 | (have a2 := ro_109_19; unfold In at a2)); (first | have a3 := in_u i67 | (have a3 := i67; unfold In at a3)); (first | have a4 := in_u j62_4 | (have a4 := j62_4; unfold In at a4)); (first | have a5 := in_u j62_3 | (have a5 := j62_3; unfold In at a5)); (first | have a6 := in_u j62_2 | (have a6 := j62_2; unfold In at a6)); (first | have a7 := in_u i76 | (have a7 := i76; unfold In at a7)); have a8 := t_add e76 ro_109_19 i67 rfl; omega, by rw [hbs, ← e85]; exact c86, by rw [hbs]; exact e95.symm, by rw [hbs, ← e111, Int32.toInt_inj.mp c187]; exact g62_1, by rw [hbs, ← e111]; exact i111, by rw [← e122]; exact c214a⟩))) | skip
                    refine g_iinc 254 (gd rfl) rfl rfl (Nat.le_of_ble_eq_true rfl) (fun z251 e251 => ?_)
                    have i251 := in_add 1 160 e251 i67 (in_c 1 rfl) rfl rfl
                    refine g_goto 62 (gd rfl) rfl ?_
                    have n62 : (y62_2).toInt = y43_2.toInt + 1 := by first | exact n62_0 | ((first | have a0 := in_u h1 | (have a0 := h1; unfold In at a0)); (first | have a1 := in_u ro_109_20 | (have a1 := ro_109_20; unfold In at a1)); (first | have a2 := in_u ro_109_19 | (have a2 := ro_109_19; unfold In at a2)); (first | have a3 := in_u i67 | (have a3 := i67; unfold In at a3)); (first | have a4 := in_u j62_4 | (have a4 := j62_4; unfold In at a4)); (first | have a5 := in_u j62_3 | (have a5 := j62_3; unfold In at a5)); (first | have a6 := in_u j62_2 | (have a6 := j62_2; unfold In at a6)); (first | have a7 := in_u i76 | (have a7 := i76; unfold In at a7)); have a8 := t_add e76 ro_109_19 i67 rfl; (first | have a9 := in_u i251 | (have a9 := i251; unfold In at a9)); have a10 := t_add e251 i67 (in_c 1 rfl) rfl; (first | have a11 := in_u ((in_c 1 rfl)) | (have a11 := (in_c 1 rfl); unfold In at a11)); omega)
                    have n62a : (y62_2).toInt ≤ (y62_3).toInt := by first | exact n62_1 | ((first | have a0 := in_u h1 | (have a0 := h1; unfold In at a0)); (first | have a1 := in_u ro_109_20 | (have a1 := ro_109_20; unfold In at a1)); (first | have a2 := in_u ro_109_19 | (have a2 := ro_109_19; unfold In at a2)); (first | have a3 := in_u i67 | (have a3 := i67; unfold In at a3)); (first | have a4 := in_u j62_4 | (have a4 := j62_4; unfold In at a4)); (first | have a5 := in_u j62_3 | (have a5 := j62_3; unfold In at a5)); (first | have a6 := in_u j62_2 | (have a6 := j62_2; unfold In at a6)); (first | have a7 := in_u i76 | (have a7 := i76; unfold In at a7)); have a8 := t_add e76 ro_109_19 i67 rfl; (first | have a9 := in_u i251 | (have a9 := i251; unfold In at a9)); have a10 := t_add e251 i67 (in_c 1 rfl) rfl; (first | have a11 := in_u ((in_c 1 rfl)) | (have a11 := (in_c 1 rfl); unfold In at a11)); omega)
                    have n62b : SI sc62 (x1).toInt (y62_3).toInt := by first | exact g43_0 | exact g62_0 | exact nsi
                    have n62c : 0 ≤ (sc62.1 148 (y62_4).toNatClampNeg).toInt := by first | exact g62_1 | (first | exact g62_1 | (have h := g43_0.2.2.1 y43_2.toNatClampNeg (by show ((y43_2.toInt.toNat : Nat) : Int) < _; (first | have a0 := in_u h1 | (have a0 := h1; unfold In at a0)); (first | have a1 := in_u ro_109_20 | (have a1 := ro_109_20; unfold In at a1)); (first | have a2 := in_u ro_109_19 | (have a2 := ro_109_19; unfold In at a2)); (first | have a3 := in_u i67 | (have a3 := i67; unfold In at a3)); (first | have a4 := in_u j62_4 | (have a4 := j62_4; unfold In at a4)); (first | have a5 := in_u j62_3 | (have a5 := j62_3; unfold In at a5)); (first | have a6 := in_u j62_2 | (have a6 := j62_2; unfold In at a6)); (first | have a7 := in_u i76 | (have a7 := i76; unfold In at a7)); have a8 := t_add e76 ro_109_19 i67 rfl; (first | have a9 := in_u i251 | (have a9 := i251; unfold In at a9)); have a10 := t_add e251 i67 (in_c 1 rfl) rfl; (first | have a11 := in_u ((in_c 1 rfl)) | (have a11 := (in_c 1 rfl); unfold In at a11)); omega); rw [← e53] at h; exact h.2) | (rw [sI_p rfl, sI_q]; exact up_ge g62_1 (by (first | have a0 := in_u h1 | (have a0 := h1; unfold In at a0)); (first | have a1 := in_u ro_109_20 | (have a1 := ro_109_20; unfold In at a1)); (first | have a2 := in_u ro_109_19 | (have a2 := ro_109_19; unfold In at a2)); (first | have a3 := in_u i67 | (have a3 := i67; unfold In at a3)); (first | have a4 := in_u j62_4 | (have a4 := j62_4; unfold In at a4)); (first | have a5 := in_u j62_3 | (have a5 := j62_3; unfold In at a5)); (first | have a6 := in_u j62_2 | (have a6 := j62_2; unfold In at a6)); (first | have a7 := in_u i76 | (have a7 := i76; unfold In at a7)); have a8 := t_add e76 ro_109_19 i67 rfl; (first | have a9 := in_u i251 | (have a9 := i251; unfold In at a9)); have a10 := t_add e251 i67 (in_c 1 rfl) rfl; (first | have a11 := in_u ((in_c 1 rfl)) | (have a11 := (in_c 1 rfl); unfold In at a11)); omega)))
                    exact gg_w (by first | exact Nat.le_add_right _ _ | exact gw2 | exact gw3 | exact gwe rfl | exact gwf rfl | exact gwg rfl | exact gwh rfl | omega) (gg_f (gf_cons rfl (gf_cons rfl (gf_cons rfl (gf_cons rfl (gf_cons rfl (gf_cons rfl gf_nil)))))) (ih62 sc62 y62_2 y62_3 y62_4 z251 hIc62 hFc62 (in_w 1 32 j62_2 rfl) (in_w 0 32 j62_3 rfl) (in_w 0 1951 j62_4 rfl) (in_w 0 160 i251 rfl) n62 n62a n62b n62c (m_up mm62 (t_add e251 i67 (in_c 1 rfl) rfl) (in_w 1 1 (in_c 1 rfl) rfl))))
                  · skip
                    have i187 := r_eq2 0 31 c187 i184 j62_4 rfl
                    refine g_aload_n 191 (gd rfl) rfl rfl ?_
                    refine g_getA (q2 := 148) 194 (gd rfl) rfl rfl rfl rfl ?_
                    refine g_aload_n 195 (gd rfl) rfl rfl ?_
                    refine g_getA (q2 := 113) 198 (gd rfl) rfl rfl rfl rfl ?_
                    refine g_iload 200 (gd rfl) rfl rfl ?_
                    refine g_iaload 201 (gd rfl) rfl (n := 480) rfl (in_ix i76 rfl) (fun z200 e200 => ?_)
                    have q200 : z95 = z200 := (e95).trans e200.symm
                    subst q200
                    refine g_iaload 202 (gd rfl) rfl (n := 34) rfl (in_ix i95 rfl) (fun z201 e201 => ?_)
                    have i201 := inv_I hIc62 (n := 34) (t := 0) (-1) 1000 rfl (in_ix i95 rfl) rfl e201
                    refine g_if_ge 205 251 (gd rfl) rfl rfl (fun c202 => ?_) (fun c202 => ?_)
                    · skip
                      have i202 := z_ge 0 1000 c202 i201 rfl
                      first | (have nsi : SI sc62 (x1).toInt (y62_3).toInt := (by have hl3 : (y62_3).toInt = y62_3.toInt + 1 := (by (first | have a0 := in_u h1 | (have a0 := h1; unfold In at a0)); (first | have a1 := in_u ro_109_20 | (have a1 := ro_109_20; unfold In at a1)); (first | have a2 := in_u ro_109_19 | (have a2 := ro_109_19; unfold In at a2)); (first | have a3 := in_u i67 | (have a3 := i67; unfold In at a3)); (first | have a4 := in_u i187 | (have a4 := i187; unfold In at a4)); (first | have a5 := in_u j62_3 | (have a5 := j62_3; unfold In at a5)); (first | have a6 := in_u j62_2 | (have a6 := j62_2; unfold In at a6)); (first | have a7 := in_u i76 | (have a7 := i76; unfold In at a7)); have a8 := t_add e76 ro_109_19 i67 rfl; omega); rw [hl3]; exact si_push (s := sc62) (a := y62_5.toNatClampNeg) (m := y62_3.toNatClampNeg) g62_0 (by show ((y62_3.toInt.toNat : Nat) : Int) = _; (first | have a0 := in_u h1 | (have a0 := h1; unfold In at a0)); (first | have a1 := in_u ro_109_20 | (have a1 := ro_109_20; unfold In at a1)); (first | have a2 := in_u ro_109_19 | (have a2 := ro_109_19; unfold In at a2)); (first | have a3 := in_u i67 | (have a3 := i67; unfold In at a3)); (first | have a4 := in_u i187 | (have a4 := i187; unfold In at a4)); (first | have a5 := in_u j62_3 | (have a5 := j62_3; unfold In at a5)); (first | have a6 := in_u j62_2 | (have a6 := j62_2; unfold In at a6)); (first | have a7 := in_u i76 | (have a7 := i76; unfold In at a7)); have a8 := t_add e76 ro_109_19 i67 rfl; omega) (by rw [sI_p rfl, sI_q]) (by rw [sI_q, sI_p rfl]) (by rw [sI_p rfl, sI_p rfl]) (by rw [sI_p rfl, sI_p rfl]) (by rw [sI_p rfl, sI_p rfl]) (by rw [sI_p rfl, sI_p rfl]) rfl rfl rfl i111 (by rw [← e112]; exact c113) (by show y62_5.toInt.toNat < 160; (first | have a0 := in_u h1 | (have a0 := h1; unfold In at a0)); (first | have a1 := in_u ro_109_20 | (have a1 := ro_109_20; unfold In at a1)); (first | have a2 := in_u ro_109_19 | (have a2 := ro_109_19; unfold In at a2)); (first | have a3 := in_u i67 | (have a3 := i67; unfold In at a3)); (first | have a4 := in_u i187 | (have a4 := i187; unfold In at a4)); (first | have a5 := in_u j62_3 | (have a5 := j62_3; unfold In at a5)); (first | have a6 := in_u j62_2 | (have a6 := j62_2; unfold In at a6)); (first | have a7 := in_u i76 | (have a7 := i76; unfold In at a7)); have a8 := t_add e76 ro_109_19 i67 rfl; (first | exact zt_l (by decide) (by omega) | omega)) (Or.inl ⟨by show _ = ((y62_5.toInt.toNat : Nat) : Int); (first | have a0 := in_u h1 | (have a0 := h1; unfold In at a0)); (first | have a1 := in_u ro_109_20 | (have a1 := ro_109_20; unfold In at a1)); (first | have a2 := in_u ro_109_19 | (have a2 := ro_109_19; unfold In at a2)); (first | have a3 := in_u i67 | (have a3 := i67; unfold In at a3)); (first | have a4 := in_u i187 | (have a4 := i187; unfold In at a4)); (first | have a5 := in_u j62_3 | (have a5 := j62_3; unfold In at a5)); (first | have a6 := in_u j62_2 | (have a6 := j62_2; unfold In at a6)); (first | have a7 := in_u i76 | (have a7 := i76; unfold In at a7)); have a8 := t_add e76 ro_109_19 i67 rfl; omega, by rw [hbs, ← e85]; exact c86, by rw [hbs]; exact e111.symm, by rw [hbs, ← e95, Int32.toInt_inj.mp c98]; exact g62_1, by rw [hbs, ← e95]; exact i95, by rw [hbs, ← e122, ← e129, ← tx_i2l e130]; exact c132a⟩))) | (have nsi : SI sc62 (x1).toInt (y62_3).toInt := (by have hl3 : (y62_3).toInt = y62_3.toInt + 1 := (by (first | have a0 := in_u h1 | (have a0 := h1; unfold In at a0)); (first | have a1 := in_u ro_109_20 | (have a1 := ro_109_20; unfold In at a1)); (first | have a2 := in_u ro_109_19 | (have a2 := ro_109_19; unfold In at a2)); (first | have a3 := in_u i67 | (have a3 := i67; unfold In at a3)); (first | have a4 := in_u i187 | (have a4 := i187; unfold In at a4)); (first | have a5 := in_u j62_3 | (have a5 := j62_3; unfold In at a5)); (first | have a6 := in_u j62_2 | (have a6 := j62_2; unfold In at a6)); (first | have a7 := in_u i76 | (have a7 := i76; unfold In at a7)); have a8 := t_add e76 ro_109_19 i67 rfl; omega); rw [hl3]; exact si_push (s := sc62) (a := y62_5.toNatClampNeg) (m := y62_3.toNatClampNeg) g62_0 (by show ((y62_3.toInt.toNat : Nat) : Int) = _; (first | have a0 := in_u h1 | (have a0 := h1; unfold In at a0)); (first | have a1 := in_u ro_109_20 | (have a1 := ro_109_20; unfold In at a1)); (first | have a2 := in_u ro_109_19 | (have a2 := ro_109_19; unfold In at a2)); (first | have a3 := in_u i67 | (have a3 := i67; unfold In at a3)); (first | have a4 := in_u i187 | (have a4 := i187; unfold In at a4)); (first | have a5 := in_u j62_3 | (have a5 := j62_3; unfold In at a5)); (first | have a6 := in_u j62_2 | (have a6 := j62_2; unfold In at a6)); (first | have a7 := in_u i76 | (have a7 := i76; unfold In at a7)); have a8 := t_add e76 ro_109_19 i67 rfl; omega) (by rw [sI_p rfl, sI_q]) (by rw [sI_q, sI_p rfl]) (by rw [sI_p rfl, sI_p rfl]) (by rw [sI_p rfl, sI_p rfl]) (by rw [sI_p rfl, sI_p rfl]) (by rw [sI_p rfl, sI_p rfl]) rfl rfl rfl i95 (by rw [← e201]; exact c202) (by show y62_5.toInt.toNat < 160; (first | have a0 := in_u h1 | (have a0 := h1; unfold In at a0)); (first | have a1 := in_u ro_109_20 | (have a1 := ro_109_20; unfold In at a1)); (first | have a2 := in_u ro_109_19 | (have a2 := ro_109_19; unfold In at a2)); (first | have a3 := in_u i67 | (have a3 := i67; unfold In at a3)); (first | have a4 := in_u i187 | (have a4 := i187; unfold In at a4)); (first | have a5 := in_u j62_3 | (have a5 := j62_3; unfold In at a5)); (first | have a6 := in_u j62_2 | (have a6 := j62_2; unfold In at a6)); (first | have a7 := in_u i76 | (have a7 := i76; unfold In at a7)); have a8 := t_add e76 ro_109_19 i67 rfl; (first | exact zt_l (by decide) (by omega) | omega)) (Or.inr ⟨by show _ = 200 + ((y62_5.toInt.toNat : Nat) : Int); (first | have a0 := in_u h1 | (have a0 := h1; unfold In at a0)); (first | have a1 := in_u ro_109_20 | (have a1 := ro_109_20; unfold In at a1)); (first | have a2 := in_u ro_109_19 | (have a2 := ro_109_19; unfold In at a2)); (first | have a3 := in_u i67 | (have a3 := i67; unfold In at a3)); (first | have a4 := in_u i187 | (have a4 := i187; unfold In at a4)); (first | have a5 := in_u j62_3 | (have a5 := j62_3; unfold In at a5)); (first | have a6 := in_u j62_2 | (have a6 := j62_2; unfold In at a6)); (first | have a7 := in_u i76 | (have a7 := i76; unfold In at a7)); have a8 := t_add e76 ro_109_19 i67 rfl; omega, by rw [hbs, ← e85]; exact c86, by rw [hbs]; exact e95.symm, by rw [hbs, ← e184, Int32.toInt_inj.mp c187]; exact g62_1, by rw [hbs, ← e184]; exact i184, by rw [← e211]; exact c214a⟩))) | (have nsi : SI sc62 (x1).toInt (y62_3).toInt := (by have hl3 : (y62_3).toInt = y62_3.toInt + 1 := (by (first | have a0 := in_u h1 | (have a0 := h1; unfold In at a0)); (first | have a1 := in_u ro_109_20 | (have a1 := ro_109_20; unfold In at a1)); (first | have a2 := in_u ro_109_19 | (have a2 := ro_109_19; unfold In at a2)); (first | have a3 := in_u i67 | (have a3 := i67; unfold In at a3)); (first | have a4 := in_u i187 | (have a4 := i187; unfold In at a4)); (first | have a5 := in_u j62_3 | (have a5 := j62_3; unfold In at a5)); (first | have a6 := in_u j62_2 | (have a6 := j62_2; unfold In at a6)); (first | have a7 := in_u i76 | (have a7 := i76; unfold In at a7)); have a8 := t_add e76 ro_109_19 i67 rfl; omega); rw [hl3]; exact si_push (s := sc62) (a := y62_5.toNatClampNeg) (m := y62_3.toNatClampNeg) g62_0 (by show ((y62_3.toInt.toNat : Nat) : Int) = _; (first | have a0 := in_u h1 | (have a0 := h1; unfold In at a0)); (first | have a1 := in_u ro_109_20 | (have a1 := ro_109_20; unfold In at a1)); (first | have a2 := in_u ro_109_19 | (have a2 := ro_109_19; unfold In at a2)); (first | have a3 := in_u i67 | (have a3 := i67; unfold In at a3)); (first | have a4 := in_u i187 | (have a4 := i187; unfold In at a4)); (first | have a5 := in_u j62_3 | (have a5 := j62_3; unfold In at a5)); (first | have a6 := in_u j62_2 | (have a6 := j62_2; unfold In at a6)); (first | have a7 := in_u i76 | (have a7 := i76; unfold In at a7)); have a8 := t_add e76 ro_109_19 i67 rfl; omega) (by rw [sI_p rfl, sI_q]) (by rw [sI_q, sI_p rfl]) (by rw [sI_p rfl, sI_p rfl]) (by rw [sI_p rfl, sI_p rfl]) (by rw [sI_p rfl, sI_p rfl]) (by rw [sI_p rfl, sI_p rfl]) rfl rfl rfl i95 (by rw [← e201]; exact c202) (by show y62_5.toInt.toNat < 160; (first | have a0 := in_u h1 | (have a0 := h1; unfold In at a0)); (first | have a1 := in_u ro_109_20 | (have a1 := ro_109_20; unfold In at a1)); (first | have a2 := in_u ro_109_19 | (have a2 := ro_109_19; unfold In at a2)); (first | have a3 := in_u i67 | (have a3 := i67; unfold In at a3)); (first | have a4 := in_u i187 | (have a4 := i187; unfold In at a4)); (first | have a5 := in_u j62_3 | (have a5 := j62_3; unfold In at a5)); (first | have a6 := in_u j62_2 | (have a6 := j62_2; unfold In at a6)); (first | have a7 := in_u i76 | (have a7 := i76; unfold In at a7)); have a8 := t_add e76 ro_109_19 i67 rfl; (first | exact zt_l (by decide) (by omega) | omega)) (Or.inr ⟨by show _ = 200 + ((y62_5.toInt.toNat : Nat) : Int); (first | have a0 := in_u h1 | (have a0 := h1; unfold In at a0)); (first | have a1 := in_u ro_109_20 | (have a1 := ro_109_20; unfold In at a1)); (first | have a2 := in_u ro_109_19 | (have a2 := ro_109_19; unfold In at a2)); (first | have a3 := in_u i67 | (have a3 := i67; unfold In at a3)); (first | have a4 := in_u i187 | (have a4 := i187; unfold In at a4)); (first | have a5 := in_u j62_3 | (have a5 := j62_3; unfold In at a5)); (first | have a6 := in_u j62_2 | (have a6 := j62_2; unfold In at a6)); (first | have a7 := in_u i76 | (have a7 := i76; unfold In at a7)); have a8 := t_add e76 ro_109_19 i67 rfl; omega, by rw [hbs, ← e85]; exact c86, by rw [hbs]; exact e95.symm, by rw [hbs, ← e184, Int32.toInt_inj.mp c187]; exact g62_1, by rw [hbs, ← e184]; exact i184, by rw [← e122]; exact c214a⟩))) | (have nsi : SI sc62 (x1).toInt (y62_3).toInt := (by have hl3 : (y62_3).toInt = y62_3.toInt + 1 := (by (first | have a0 := in_u h1 | (have a0 := h1; unfold In at a0)); (first | have a1 := in_u ro_109_20 | (have a1 := ro_109_20; unfold In at a1)); (first | have a2 := in_u ro_109_19 | (have a2 := ro_109_19; unfold In at a2)); (first | have a3 := in_u i67 | (have a3 := i67; unfold In at a3)); (first | have a4 := in_u i187 | (have a4 := i187; unfold In at a4)); (first | have a5 := in_u j62_3 | (have a5 := j62_3; unfold In at a5)); (first | have a6 := in_u j62_2 | (have a6 := j62_2; unfold In at a6)); (first | have a7 := in_u i76 | (have a7 := i76; unfold In at a7)); have a8 := t_add e76 ro_109_19 i67 rfl; omega); rw [hl3]; exact si_push (s := sc62) (a := y62_5.toNatClampNeg) (m := y62_3.toNatClampNeg) g62_0 (by show ((y62_3.toInt.toNat : Nat) : Int) = _; (first | have a0 := in_u h1 | (have a0 := h1; unfold In at a0)); (first | have a1 := in_u ro_109_20 | (have a1 := ro_109_20; unfold In at a1)); (first | have a2 := in_u ro_109_19 | (have a2 := ro_109_19; unfold In at a2)); (first | have a3 := in_u i67 | (have a3 := i67; unfold In at a3)); (first | have a4 := in_u i187 | (have a4 := i187; unfold In at a4)); (first | have a5 := in_u j62_3 | (have a5 := j62_3; unfold In at a5)); (first | have a6 := in_u j62_2 | (have a6 := j62_2; unfold In at a6)); (first | have a7 := in_u i76 | (have a7 := i76; unfold In at a7)); have a8 := t_add e76 ro_109_19 i67 rfl; omega) (by rw [sI_p rfl, sI_q]) (by rw [sI_q, sI_p rfl]) (by rw [sI_p rfl, sI_p rfl]) (by rw [sI_p rfl, sI_p rfl]) (by rw [sI_p rfl, sI_p rfl]) (by rw [sI_p rfl, sI_p rfl]) rfl rfl rfl i95 (by rw [← e201]; exact c202) (by show y62_5.toInt.toNat < 160; (first | have a0 := in_u h1 | (have a0 := h1; unfold In at a0)); (first | have a1 := in_u ro_109_20 | (have a1 := ro_109_20; unfold In at a1)); (first | have a2 := in_u ro_109_19 | (have a2 := ro_109_19; unfold In at a2)); (first | have a3 := in_u i67 | (have a3 := i67; unfold In at a3)); (first | have a4 := in_u i187 | (have a4 := i187; unfold In at a4)); (first | have a5 := in_u j62_3 | (have a5 := j62_3; unfold In at a5)); (first | have a6 := in_u j62_2 | (have a6 := j62_2; unfold In at a6)); (first | have a7 := in_u i76 | (have a7 := i76; unfold In at a7)); have a8 := t_add e76 ro_109_19 i67 rfl; (first | exact zt_l (by decide) (by omega) | omega)) (Or.inr ⟨by show _ = 200 + ((y62_5.toInt.toNat : Nat) : Int); (first | have a0 := in_u h1 | (have a0 := h1; unfold In at a0)); (first | have a1 := in_u ro_109_20 | (have a1 := ro_109_20; unfold In at a1)); (first | have a2 := in_u ro_109_19 | (have a2 := ro_109_19; unfold In at a2)); (first | have a3 := in_u i67 | (have a3 := i67; unfold In at a3)); (first | have a4 := in_u i187 | (have a4 := i187; unfold In at a4)); (first | have a5 := in_u j62_3 | (have a5 := j62_3; unfold In at a5)); (first | have a6 := in_u j62_2 | (have a6 := j62_2; unfold In at a6)); (first | have a7 := in_u i76 | (have a7 := i76; unfold In at a7)); have a8 := t_add e76 ro_109_19 i67 rfl; omega, by rw [hbs, ← e85]; exact c86, by rw [hbs]; exact e95.symm, by rw [hbs, ← e111, Int32.toInt_inj.mp c187]; exact g62_1, by rw [hbs, ← e111]; exact i111, by rw [← e211]; exact c214a⟩))) | (have nsi : SI sc62 (x1).toInt (y62_3).toInt := (by have hl3 : (y62_3).toInt = y62_3.toInt + 1 := (by (first | have a0 := in_u h1 | (have a0 := h1; unfold In at a0)); (first | have a1 := in_u ro_109_20 | (have a1 := ro_109_20; unfold In at a1)); (first | have a2 := in_u ro_109_19 | (have a2 := ro_109_19; unfold In at a2)); (first | have a3 := in_u i67 | (have a3 := i67; unfold In at a3)); (first | have a4 := in_u i187 | (have a4 := i187; unfold In at a4)); (first | have a5 := in_u j62_3 | (have a5 := j62_3; unfold In at a5)); (first | have a6 := in_u j62_2 | (have a6 := j62_2; unfold In at a6)); (first | have a7 := in_u i76 | (have a7 := i76; unfold In at a7)); have a8 := t_add e76 ro_109_19 i67 rfl; omega); rw [hl3]; exact si_push (s := sc62) (a := y62_5.toNatClampNeg) (m := y62_3.toNatClampNeg) g62_0 (by show ((y62_3.toInt.toNat : Nat) : Int) = _; (first | have a0 := in_u h1 | (have a0 := h1; unfold In at a0)); (first | have a1 := in_u ro_109_20 | (have a1 := ro_109_20; unfold In at a1)); (first | have a2 := in_u ro_109_19 | (have a2 := ro_109_19; unfold In at a2)); (first | have a3 := in_u i67 | (have a3 := i67; unfold In at a3)); (first | have a4 := in_u i187 | (have a4 := i187; unfold In at a4)); (first | have a5 := in_u j62_3 | (have a5 := j62_3; unfold In at a5)); (first | have a6 := in_u j62_2 | (have a6 := j62_2; unfold In at a6)); (first | have a7 := in_u i76 | (have a7 := i76; unfold In at a7)); have a8 := t_add e76 ro_109_19 i67 rfl; omega) (by rw [sI_p rfl, sI_q]) (by rw [sI_q, sI_p rfl]) (by rw [sI_p rfl, sI_p rfl]) (by rw [sI_p rfl, sI_p rfl]) (by rw [sI_p rfl, sI_p rfl]) (by rw [sI_p rfl, sI_p rfl]) rfl rfl rfl i95 (by rw [← e201]; exact c202) (by show y62_5.toInt.toNat < 160; (first | have a0 := in_u h1 | (have a0 := h1; unfold In at a0)); (first | have a1 := in_u ro_109_20 | (have a1 := ro_109_20; unfold In at a1)); (first | have a2 := in_u ro_109_19 | (have a2 := ro_109_19; unfold In at a2)); (first | have a3 := in_u i67 | (have a3 := i67; unfold In at a3)); (first | have a4 := in_u i187 | (have a4 := i187; unfold In at a4)); (first | have a5 := in_u j62_3 | (have a5 := j62_3; unfold In at a5)); (first | have a6 := in_u j62_2 | (have a6 := j62_2; unfold In at a6)); (first | have a7 := in_u i76 | (have a7 := i76; unfold In at a7)); have a8 := t_add e76 ro_109_19 i67 rfl; (first | exact zt_l (by decide) (by omega) | omega)) (Or.inr ⟨by show _ = 200 + ((y62_5.toInt.toNat : Nat) : Int); (first | have a0 := in_u h1 | (have a0 := h1; unfold In at a0)); (first | have a1 := in_u ro_109_20 | (have a1 := ro_109_20; unfold In at a1)); (first | have a2 := in_u ro_109_19 | (have a2 := ro_109_19; unfold In at a2)); (first | have a3 := in_u i67 | (have a3 := i67; unfold In at a3)); (first | have a4 := in_u i187 | (have a4 := i187; unfold In at a4)); (first | have a5 := in_u j62_3 | (have a5 := j62_3; unfold In at a5)); (first | have a6 := in_u j62_2 | (have a6 := j62_2; unfold In at a6)); (first | have a7 := in_u i76 | (have a7 := i76; unfold In at a7)); have a8 := t_add e76 ro_109_19 i67 rfl; omega, by rw [hbs, ← e85]; exact c86, by rw [hbs]; exact e95.symm, by rw [hbs, ← e111, Int32.toInt_inj.mp c187]; exact g62_1, by rw [hbs, ← e111]; exact i111, by rw [← e122]; exact c214a⟩))) | skip
                      refine g_iinc 254 (gd rfl) rfl rfl (Nat.le_of_ble_eq_true rfl) (fun z251 e251 => ?_)
                      have i251 := in_add 1 160 e251 i67 (in_c 1 rfl) rfl rfl
                      refine g_goto 62 (gd rfl) rfl ?_
                      have n62 : (y62_2).toInt = y43_2.toInt + 1 := by first | exact n62_0 | ((first | have a0 := in_u h1 | (have a0 := h1; unfold In at a0)); (first | have a1 := in_u ro_109_20 | (have a1 := ro_109_20; unfold In at a1)); (first | have a2 := in_u ro_109_19 | (have a2 := ro_109_19; unfold In at a2)); (first | have a3 := in_u i67 | (have a3 := i67; unfold In at a3)); (first | have a4 := in_u i187 | (have a4 := i187; unfold In at a4)); (first | have a5 := in_u j62_3 | (have a5 := j62_3; unfold In at a5)); (first | have a6 := in_u j62_2 | (have a6 := j62_2; unfold In at a6)); (first | have a7 := in_u i76 | (have a7 := i76; unfold In at a7)); have a8 := t_add e76 ro_109_19 i67 rfl; (first | have a9 := in_u i251 | (have a9 := i251; unfold In at a9)); have a10 := t_add e251 i67 (in_c 1 rfl) rfl; (first | have a11 := in_u ((in_c 1 rfl)) | (have a11 := (in_c 1 rfl); unfold In at a11)); omega)
                      have n62a : (y62_2).toInt ≤ (y62_3).toInt := by first | exact n62_1 | ((first | have a0 := in_u h1 | (have a0 := h1; unfold In at a0)); (first | have a1 := in_u ro_109_20 | (have a1 := ro_109_20; unfold In at a1)); (first | have a2 := in_u ro_109_19 | (have a2 := ro_109_19; unfold In at a2)); (first | have a3 := in_u i67 | (have a3 := i67; unfold In at a3)); (first | have a4 := in_u i187 | (have a4 := i187; unfold In at a4)); (first | have a5 := in_u j62_3 | (have a5 := j62_3; unfold In at a5)); (first | have a6 := in_u j62_2 | (have a6 := j62_2; unfold In at a6)); (first | have a7 := in_u i76 | (have a7 := i76; unfold In at a7)); have a8 := t_add e76 ro_109_19 i67 rfl; (first | have a9 := in_u i251 | (have a9 := i251; unfold In at a9)); have a10 := t_add e251 i67 (in_c 1 rfl) rfl; (first | have a11 := in_u ((in_c 1 rfl)) | (have a11 := (in_c 1 rfl); unfold In at a11)); omega)
                      have n62b : SI sc62 (x1).toInt (y62_3).toInt := by first | exact g43_0 | exact g62_0 | exact nsi
                      have n62c : 0 ≤ (sc62.1 148 (y62_4).toNatClampNeg).toInt := by first | exact g62_1 | (first | exact g62_1 | (have h := g43_0.2.2.1 y43_2.toNatClampNeg (by show ((y43_2.toInt.toNat : Nat) : Int) < _; (first | have a0 := in_u h1 | (have a0 := h1; unfold In at a0)); (first | have a1 := in_u ro_109_20 | (have a1 := ro_109_20; unfold In at a1)); (first | have a2 := in_u ro_109_19 | (have a2 := ro_109_19; unfold In at a2)); (first | have a3 := in_u i67 | (have a3 := i67; unfold In at a3)); (first | have a4 := in_u i187 | (have a4 := i187; unfold In at a4)); (first | have a5 := in_u j62_3 | (have a5 := j62_3; unfold In at a5)); (first | have a6 := in_u j62_2 | (have a6 := j62_2; unfold In at a6)); (first | have a7 := in_u i76 | (have a7 := i76; unfold In at a7)); have a8 := t_add e76 ro_109_19 i67 rfl; (first | have a9 := in_u i251 | (have a9 := i251; unfold In at a9)); have a10 := t_add e251 i67 (in_c 1 rfl) rfl; (first | have a11 := in_u ((in_c 1 rfl)) | (have a11 := (in_c 1 rfl); unfold In at a11)); omega); rw [← e53] at h; exact h.2) | (rw [sI_p rfl, sI_q]; exact up_ge g62_1 (by (first | have a0 := in_u h1 | (have a0 := h1; unfold In at a0)); (first | have a1 := in_u ro_109_20 | (have a1 := ro_109_20; unfold In at a1)); (first | have a2 := in_u ro_109_19 | (have a2 := ro_109_19; unfold In at a2)); (first | have a3 := in_u i67 | (have a3 := i67; unfold In at a3)); (first | have a4 := in_u i187 | (have a4 := i187; unfold In at a4)); (first | have a5 := in_u j62_3 | (have a5 := j62_3; unfold In at a5)); (first | have a6 := in_u j62_2 | (have a6 := j62_2; unfold In at a6)); (first | have a7 := in_u i76 | (have a7 := i76; unfold In at a7)); have a8 := t_add e76 ro_109_19 i67 rfl; (first | have a9 := in_u i251 | (have a9 := i251; unfold In at a9)); have a10 := t_add e251 i67 (in_c 1 rfl) rfl; (first | have a11 := in_u ((in_c 1 rfl)) | (have a11 := (in_c 1 rfl); unfold In at a11)); omega)))
                      exact gg_w (by first | exact Nat.le_add_right _ _ | exact gw2 | exact gw3 | exact gwe rfl | exact gwf rfl | exact gwg rfl | exact gwh rfl | omega) (gg_f (gf_cons rfl (gf_cons rfl (gf_cons rfl (gf_cons rfl (gf_cons rfl (gf_cons rfl gf_nil)))))) (ih62 sc62 y62_2 y62_3 y62_4 z251 hIc62 hFc62 (in_w 1 32 j62_2 rfl) (in_w 0 32 j62_3 rfl) (in_w 0 1951 i187 rfl) (in_w 0 160 i251 rfl) n62 n62a n62b n62c (m_up mm62 (t_add e251 i67 (in_c 1 rfl) rfl) (in_w 1 1 (in_c 1 rfl) rfl))))
                    · skip
                      have i202 := z_lt (-1) (-1) c202 i201 rfl
                      refine g_aload_n 206 (gd rfl) rfl rfl ?_
                      refine g_getA (q2 := 147) 209 (gd rfl) rfl rfl rfl rfl ?_
                      refine g_iload 211 (gd rfl) rfl rfl ?_
                      refine g_laload 212 (gd rfl) rfl (n := 160) rfl (in_ix i67 rfl) (fun z211 e211 => ?_)
                      refine g_lconst 0 213 (gd rfl) rfl rfl ?_
                      refine g_lcmp 214 (gd rfl) rfl (fun z213 e213 => ?_)
                      have i213 := lc_in e213
                      refine g_if_le 217 251 (gd rfl) rfl rfl (fun c214 => ?_) (fun c214 => ?_)
                      · skip
                        have i214 := z_le (-1) 0 c214 i213 rfl
                        have c214a := lc_le e213 c214
                        have i214a := lr_le1 (-9223372036854775808) 0 c214a (l_rng z211) (l_c 0 rfl) rfl
                        first | (have nsi : SI sc62 (x1).toInt (y62_3).toInt := (by have hl3 : (y62_3).toInt = y62_3.toInt + 1 := (by (first | have a0 := in_u h1 | (have a0 := h1; unfold In at a0)); (first | have a1 := in_u ro_109_20 | (have a1 := ro_109_20; unfold In at a1)); (first | have a2 := in_u ro_109_19 | (have a2 := ro_109_19; unfold In at a2)); (first | have a3 := in_u i67 | (have a3 := i67; unfold In at a3)); (first | have a4 := in_u i187 | (have a4 := i187; unfold In at a4)); (first | have a5 := in_u j62_3 | (have a5 := j62_3; unfold In at a5)); (first | have a6 := in_u j62_2 | (have a6 := j62_2; unfold In at a6)); (first | have a7 := in_u i76 | (have a7 := i76; unfold In at a7)); have a8 := t_add e76 ro_109_19 i67 rfl; omega); rw [hl3]; exact si_push (s := sc62) (a := y62_5.toNatClampNeg) (m := y62_3.toNatClampNeg) g62_0 (by show ((y62_3.toInt.toNat : Nat) : Int) = _; (first | have a0 := in_u h1 | (have a0 := h1; unfold In at a0)); (first | have a1 := in_u ro_109_20 | (have a1 := ro_109_20; unfold In at a1)); (first | have a2 := in_u ro_109_19 | (have a2 := ro_109_19; unfold In at a2)); (first | have a3 := in_u i67 | (have a3 := i67; unfold In at a3)); (first | have a4 := in_u i187 | (have a4 := i187; unfold In at a4)); (first | have a5 := in_u j62_3 | (have a5 := j62_3; unfold In at a5)); (first | have a6 := in_u j62_2 | (have a6 := j62_2; unfold In at a6)); (first | have a7 := in_u i76 | (have a7 := i76; unfold In at a7)); have a8 := t_add e76 ro_109_19 i67 rfl; omega) (by rw [sI_p rfl, sI_q]) (by rw [sI_q, sI_p rfl]) (by rw [sI_p rfl, sI_p rfl]) (by rw [sI_p rfl, sI_p rfl]) (by rw [sI_p rfl, sI_p rfl]) (by rw [sI_p rfl, sI_p rfl]) rfl rfl rfl i111 (by rw [← e112]; exact c113) (by show y62_5.toInt.toNat < 160; (first | have a0 := in_u h1 | (have a0 := h1; unfold In at a0)); (first | have a1 := in_u ro_109_20 | (have a1 := ro_109_20; unfold In at a1)); (first | have a2 := in_u ro_109_19 | (have a2 := ro_109_19; unfold In at a2)); (first | have a3 := in_u i67 | (have a3 := i67; unfold In at a3)); (first | have a4 := in_u i187 | (have a4 := i187; unfold In at a4)); (first | have a5 := in_u j62_3 | (have a5 := j62_3; unfold In at a5)); (first | have a6 := in_u j62_2 | (have a6 := j62_2; unfold In at a6)); (first | have a7 := in_u i76 | (have a7 := i76; unfold In at a7)); have a8 := t_add e76 ro_109_19 i67 rfl; (first | exact zt_l (by decide) (by omega) | omega)) (Or.inl ⟨by show _ = ((y62_5.toInt.toNat : Nat) : Int); (first | have a0 := in_u h1 | (have a0 := h1; unfold In at a0)); (first | have a1 := in_u ro_109_20 | (have a1 := ro_109_20; unfold In at a1)); (first | have a2 := in_u ro_109_19 | (have a2 := ro_109_19; unfold In at a2)); (first | have a3 := in_u i67 | (have a3 := i67; unfold In at a3)); (first | have a4 := in_u i187 | (have a4 := i187; unfold In at a4)); (first | have a5 := in_u j62_3 | (have a5 := j62_3; unfold In at a5)); (first | have a6 := in_u j62_2 | (have a6 := j62_2; unfold In at a6)); (first | have a7 := in_u i76 | (have a7 := i76; unfold In at a7)); have a8 := t_add e76 ro_109_19 i67 rfl; omega, by rw [hbs, ← e85]; exact c86, by rw [hbs]; exact e111.symm, by rw [hbs, ← e95, Int32.toInt_inj.mp c98]; exact g62_1, by rw [hbs, ← e95]; exact i95, by rw [hbs, ← e122, ← e129, ← tx_i2l e130]; exact c132a⟩))) | (have nsi : SI sc62 (x1).toInt (y62_3).toInt := (by have hl3 : (y62_3).toInt = y62_3.toInt + 1 := (by (first | have a0 := in_u h1 | (have a0 := h1; unfold In at a0)); (first | have a1 := in_u ro_109_20 | (have a1 := ro_109_20; unfold In at a1)); (first | have a2 := in_u ro_109_19 | (have a2 := ro_109_19; unfold In at a2)); (first | have a3 := in_u i67 | (have a3 := i67; unfold In at a3)); (first | have a4 := in_u i187 | (have a4 := i187; unfold In at a4)); (first | have a5 := in_u j62_3 | (have a5 := j62_3; unfold In at a5)); (first | have a6 := in_u j62_2 | (have a6 := j62_2; unfold In at a6)); (first | have a7 := in_u i76 | (have a7 := i76; unfold In at a7)); have a8 := t_add e76 ro_109_19 i67 rfl; omega); rw [hl3]; exact si_push (s := sc62) (a := y62_5.toNatClampNeg) (m := y62_3.toNatClampNeg) g62_0 (by show ((y62_3.toInt.toNat : Nat) : Int) = _; (first | have a0 := in_u h1 | (have a0 := h1; unfold In at a0)); (first | have a1 := in_u ro_109_20 | (have a1 := ro_109_20; unfold In at a1)); (first | have a2 := in_u ro_109_19 | (have a2 := ro_109_19; unfold In at a2)); (first | have a3 := in_u i67 | (have a3 := i67; unfold In at a3)); (first | have a4 := in_u i187 | (have a4 := i187; unfold In at a4)); (first | have a5 := in_u j62_3 | (have a5 := j62_3; unfold In at a5)); (first | have a6 := in_u j62_2 | (have a6 := j62_2; unfold In at a6)); (first | have a7 := in_u i76 | (have a7 := i76; unfold In at a7)); have a8 := t_add e76 ro_109_19 i67 rfl; omega) (by rw [sI_p rfl, sI_q]) (by rw [sI_q, sI_p rfl]) (by rw [sI_p rfl, sI_p rfl]) (by rw [sI_p rfl, sI_p rfl]) (by rw [sI_p rfl, sI_p rfl]) (by rw [sI_p rfl, sI_p rfl]) rfl rfl rfl i95 (by rw [← e201]; exact c202) (by show y62_5.toInt.toNat < 160; (first | have a0 := in_u h1 | (have a0 := h1; unfold In at a0)); (first | have a1 := in_u ro_109_20 | (have a1 := ro_109_20; unfold In at a1)); (first | have a2 := in_u ro_109_19 | (have a2 := ro_109_19; unfold In at a2)); (first | have a3 := in_u i67 | (have a3 := i67; unfold In at a3)); (first | have a4 := in_u i187 | (have a4 := i187; unfold In at a4)); (first | have a5 := in_u j62_3 | (have a5 := j62_3; unfold In at a5)); (first | have a6 := in_u j62_2 | (have a6 := j62_2; unfold In at a6)); (first | have a7 := in_u i76 | (have a7 := i76; unfold In at a7)); have a8 := t_add e76 ro_109_19 i67 rfl; (first | exact zt_l (by decide) (by omega) | omega)) (Or.inr ⟨by show _ = 200 + ((y62_5.toInt.toNat : Nat) : Int); (first | have a0 := in_u h1 | (have a0 := h1; unfold In at a0)); (first | have a1 := in_u ro_109_20 | (have a1 := ro_109_20; unfold In at a1)); (first | have a2 := in_u ro_109_19 | (have a2 := ro_109_19; unfold In at a2)); (first | have a3 := in_u i67 | (have a3 := i67; unfold In at a3)); (first | have a4 := in_u i187 | (have a4 := i187; unfold In at a4)); (first | have a5 := in_u j62_3 | (have a5 := j62_3; unfold In at a5)); (first | have a6 := in_u j62_2 | (have a6 := j62_2; unfold In at a6)); (first | have a7 := in_u i76 | (have a7 := i76; unfold In at a7)); have a8 := t_add e76 ro_109_19 i67 rfl; omega, by rw [hbs, ← e85]; exact c86, by rw [hbs]; exact e95.symm, by rw [hbs, ← e184, Int32.toInt_inj.mp c187]; exact g62_1, by rw [hbs, ← e184]; exact i184, by rw [← e211]; exact c214a⟩))) | (have nsi : SI sc62 (x1).toInt (y62_3).toInt := (by have hl3 : (y62_3).toInt = y62_3.toInt + 1 := (by (first | have a0 := in_u h1 | (have a0 := h1; unfold In at a0)); (first | have a1 := in_u ro_109_20 | (have a1 := ro_109_20; unfold In at a1)); (first | have a2 := in_u ro_109_19 | (have a2 := ro_109_19; unfold In at a2)); (first | have a3 := in_u i67 | (have a3 := i67; unfold In at a3)); (first | have a4 := in_u i187 | (have a4 := i187; unfold In at a4)); (first | have a5 := in_u j62_3 | (have a5 := j62_3; unfold In at a5)); (first | have a6 := in_u j62_2 | (have a6 := j62_2; unfold In at a6)); (first | have a7 := in_u i76 | (have a7 := i76; unfold In at a7)); have a8 := t_add e76 ro_109_19 i67 rfl; omega); rw [hl3]; exact si_push (s := sc62) (a := y62_5.toNatClampNeg) (m := y62_3.toNatClampNeg) g62_0 (by show ((y62_3.toInt.toNat : Nat) : Int) = _; (first | have a0 := in_u h1 | (have a0 := h1; unfold In at a0)); (first | have a1 := in_u ro_109_20 | (have a1 := ro_109_20; unfold In at a1)); (first | have a2 := in_u ro_109_19 | (have a2 := ro_109_19; unfold In at a2)); (first | have a3 := in_u i67 | (have a3 := i67; unfold In at a3)); (first | have a4 := in_u i187 | (have a4 := i187; unfold In at a4)); (first | have a5 := in_u j62_3 | (have a5 := j62_3; unfold In at a5)); (first | have a6 := in_u j62_2 | (have a6 := j62_2; unfold In at a6)); (first | have a7 := in_u i76 | (have a7 := i76; unfold In at a7)); have a8 := t_add e76 ro_109_19 i67 rfl; omega) (by rw [sI_p rfl, sI_q]) (by rw [sI_q, sI_p rfl]) (by rw [sI_p rfl, sI_p rfl]) (by rw [sI_p rfl, sI_p rfl]) (by rw [sI_p rfl, sI_p rfl]) (by rw [sI_p rfl, sI_p rfl]) rfl rfl rfl i95 (by rw [← e201]; exact c202) (by show y62_5.toInt.toNat < 160; (first | have a0 := in_u h1 | (have a0 := h1; unfold In at a0)); (first | have a1 := in_u ro_109_20 | (have a1 := ro_109_20; unfold In at a1)); (first | have a2 := in_u ro_109_19 | (have a2 := ro_109_19; unfold In at a2)); (first | have a3 := in_u i67 | (have a3 := i67; unfold In at a3)); (first | have a4 := in_u i187 | (have a4 := i187; unfold In at a4)); (first | have a5 := in_u j62_3 | (have a5 := j62_3; unfold In at a5)); (first | have a6 := in_u j62_2 | (have a6 := j62_2; unfold In at a6)); (first | have a7 := in_u i76 | (have a7 := i76; unfold In at a7)); have a8 := t_add e76 ro_109_19 i67 rfl; (first | exact zt_l (by decide) (by omega) | omega)) (Or.inr ⟨by show _ = 200 + ((y62_5.toInt.toNat : Nat) : Int); (first | have a0 := in_u h1 | (have a0 := h1; unfold In at a0)); (first | have a1 := in_u ro_109_20 | (have a1 := ro_109_20; unfold In at a1)); (first | have a2 := in_u ro_109_19 | (have a2 := ro_109_19; unfold In at a2)); (first | have a3 := in_u i67 | (have a3 := i67; unfold In at a3)); (first | have a4 := in_u i187 | (have a4 := i187; unfold In at a4)); (first | have a5 := in_u j62_3 | (have a5 := j62_3; unfold In at a5)); (first | have a6 := in_u j62_2 | (have a6 := j62_2; unfold In at a6)); (first | have a7 := in_u i76 | (have a7 := i76; unfold In at a7)); have a8 := t_add e76 ro_109_19 i67 rfl; omega, by rw [hbs, ← e85]; exact c86, by rw [hbs]; exact e95.symm, by rw [hbs, ← e184, Int32.toInt_inj.mp c187]; exact g62_1, by rw [hbs, ← e184]; exact i184, by rw [← e122]; exact c214a⟩))) | (have nsi : SI sc62 (x1).toInt (y62_3).toInt := (by have hl3 : (y62_3).toInt = y62_3.toInt + 1 := (by (first | have a0 := in_u h1 | (have a0 := h1; unfold In at a0)); (first | have a1 := in_u ro_109_20 | (have a1 := ro_109_20; unfold In at a1)); (first | have a2 := in_u ro_109_19 | (have a2 := ro_109_19; unfold In at a2)); (first | have a3 := in_u i67 | (have a3 := i67; unfold In at a3)); (first | have a4 := in_u i187 | (have a4 := i187; unfold In at a4)); (first | have a5 := in_u j62_3 | (have a5 := j62_3; unfold In at a5)); (first | have a6 := in_u j62_2 | (have a6 := j62_2; unfold In at a6)); (first | have a7 := in_u i76 | (have a7 := i76; unfold In at a7)); have a8 := t_add e76 ro_109_19 i67 rfl; omega); rw [hl3]; exact si_push (s := sc62) (a := y62_5.toNatClampNeg) (m := y62_3.toNatClampNeg) g62_0 (by show ((y62_3.toInt.toNat : Nat) : Int) = _; (first | have a0 := in_u h1 | (have a0 := h1; unfold In at a0)); (first | have a1 := in_u ro_109_20 | (have a1 := ro_109_20; unfold In at a1)); (first | have a2 := in_u ro_109_19 | (have a2 := ro_109_19; unfold In at a2)); (first | have a3 := in_u i67 | (have a3 := i67; unfold In at a3)); (first | have a4 := in_u i187 | (have a4 := i187; unfold In at a4)); (first | have a5 := in_u j62_3 | (have a5 := j62_3; unfold In at a5)); (first | have a6 := in_u j62_2 | (have a6 := j62_2; unfold In at a6)); (first | have a7 := in_u i76 | (have a7 := i76; unfold In at a7)); have a8 := t_add e76 ro_109_19 i67 rfl; omega) (by rw [sI_p rfl, sI_q]) (by rw [sI_q, sI_p rfl]) (by rw [sI_p rfl, sI_p rfl]) (by rw [sI_p rfl, sI_p rfl]) (by rw [sI_p rfl, sI_p rfl]) (by rw [sI_p rfl, sI_p rfl]) rfl rfl rfl i95 (by rw [← e201]; exact c202) (by show y62_5.toInt.toNat < 160; (first | have a0 := in_u h1 | (have a0 := h1; unfold In at a0)); (first | have a1 := in_u ro_109_20 | (have a1 := ro_109_20; unfold In at a1)); (first | have a2 := in_u ro_109_19 | (have a2 := ro_109_19; unfold In at a2)); (first | have a3 := in_u i67 | (have a3 := i67; unfold In at a3)); (first | have a4 := in_u i187 | (have a4 := i187; unfold In at a4)); (first | have a5 := in_u j62_3 | (have a5 := j62_3; unfold In at a5)); (first | have a6 := in_u j62_2 | (have a6 := j62_2; unfold In at a6)); (first | have a7 := in_u i76 | (have a7 := i76; unfold In at a7)); have a8 := t_add e76 ro_109_19 i67 rfl; (first | exact zt_l (by decide) (by omega) | omega)) (Or.inr ⟨by show _ = 200 + ((y62_5.toInt.toNat : Nat) : Int); (first | have a0 := in_u h1 | (have a0 := h1; unfold In at a0)); (first | have a1 := in_u ro_109_20 | (have a1 := ro_109_20; unfold In at a1)); (first | have a2 := in_u ro_109_19 | (have a2 := ro_109_19; unfold In at a2)); (first | have a3 := in_u i67 | (have a3 := i67; unfold In at a3)); (first | have a4 := in_u i187 | (have a4 := i187; unfold In at a4)); (first | have a5 := in_u j62_3 | (have a5 := j62_3; unfold In at a5)); (first | have a6 := in_u j62_2 | (have a6 := j62_2; unfold In at a6)); (first | have a7 := in_u i76 | (have a7 := i76; unfold In at a7)); have a8 := t_add e76 ro_109_19 i67 rfl; omega, by rw [hbs, ← e85]; exact c86, by rw [hbs]; exact e95.symm, by rw [hbs, ← e111, Int32.toInt_inj.mp c187]; exact g62_1, by rw [hbs, ← e111]; exact i111, by rw [← e211]; exact c214a⟩))) | (have nsi : SI sc62 (x1).toInt (y62_3).toInt := (by have hl3 : (y62_3).toInt = y62_3.toInt + 1 := (by (first | have a0 := in_u h1 | (have a0 := h1; unfold In at a0)); (first | have a1 := in_u ro_109_20 | (have a1 := ro_109_20; unfold In at a1)); (first | have a2 := in_u ro_109_19 | (have a2 := ro_109_19; unfold In at a2)); (first | have a3 := in_u i67 | (have a3 := i67; unfold In at a3)); (first | have a4 := in_u i187 | (have a4 := i187; unfold In at a4)); (first | have a5 := in_u j62_3 | (have a5 := j62_3; unfold In at a5)); (first | have a6 := in_u j62_2 | (have a6 := j62_2; unfold In at a6)); (first | have a7 := in_u i76 | (have a7 := i76; unfold In at a7)); have a8 := t_add e76 ro_109_19 i67 rfl; omega); rw [hl3]; exact si_push (s := sc62) (a := y62_5.toNatClampNeg) (m := y62_3.toNatClampNeg) g62_0 (by show ((y62_3.toInt.toNat : Nat) : Int) = _; (first | have a0 := in_u h1 | (have a0 := h1; unfold In at a0)); (first | have a1 := in_u ro_109_20 | (have a1 := ro_109_20; unfold In at a1)); (first | have a2 := in_u ro_109_19 | (have a2 := ro_109_19; unfold In at a2)); (first | have a3 := in_u i67 | (have a3 := i67; unfold In at a3)); (first | have a4 := in_u i187 | (have a4 := i187; unfold In at a4)); (first | have a5 := in_u j62_3 | (have a5 := j62_3; unfold In at a5)); (first | have a6 := in_u j62_2 | (have a6 := j62_2; unfold In at a6)); (first | have a7 := in_u i76 | (have a7 := i76; unfold In at a7)); have a8 := t_add e76 ro_109_19 i67 rfl; omega) (by rw [sI_p rfl, sI_q]) (by rw [sI_q, sI_p rfl]) (by rw [sI_p rfl, sI_p rfl]) (by rw [sI_p rfl, sI_p rfl]) (by rw [sI_p rfl, sI_p rfl]) (by rw [sI_p rfl, sI_p rfl]) rfl rfl rfl i95 (by rw [← e201]; exact c202) (by show y62_5.toInt.toNat < 160; (first | have a0 := in_u h1 | (have a0 := h1; unfold In at a0)); (first | have a1 := in_u ro_109_20 | (have a1 := ro_109_20; unfold In at a1)); (first | have a2 := in_u ro_109_19 | (have a2 := ro_109_19; unfold In at a2)); (first | have a3 := in_u i67 | (have a3 := i67; unfold In at a3)); (first | have a4 := in_u i187 | (have a4 := i187; unfold In at a4)); (first | have a5 := in_u j62_3 | (have a5 := j62_3; unfold In at a5)); (first | have a6 := in_u j62_2 | (have a6 := j62_2; unfold In at a6)); (first | have a7 := in_u i76 | (have a7 := i76; unfold In at a7)); have a8 := t_add e76 ro_109_19 i67 rfl; (first | exact zt_l (by decide) (by omega) | omega)) (Or.inr ⟨by show _ = 200 + ((y62_5.toInt.toNat : Nat) : Int); (first | have a0 := in_u h1 | (have a0 := h1; unfold In at a0)); (first | have a1 := in_u ro_109_20 | (have a1 := ro_109_20; unfold In at a1)); (first | have a2 := in_u ro_109_19 | (have a2 := ro_109_19; unfold In at a2)); (first | have a3 := in_u i67 | (have a3 := i67; unfold In at a3)); (first | have a4 := in_u i187 | (have a4 := i187; unfold In at a4)); (first | have a5 := in_u j62_3 | (have a5 := j62_3; unfold In at a5)); (first | have a6 := in_u j62_2 | (have a6 := j62_2; unfold In at a6)); (first | have a7 := in_u i76 | (have a7 := i76; unfold In at a7)); have a8 := t_add e76 ro_109_19 i67 rfl; omega, by rw [hbs, ← e85]; exact c86, by rw [hbs]; exact e95.symm, by rw [hbs, ← e111, Int32.toInt_inj.mp c187]; exact g62_1, by rw [hbs, ← e111]; exact i111, by rw [← e122]; exact c214a⟩))) | skip
                        refine g_iinc 254 (gd rfl) rfl rfl (Nat.le_of_ble_eq_true rfl) (fun z251 e251 => ?_)
                        have i251 := in_add 1 160 e251 i67 (in_c 1 rfl) rfl rfl
                        refine g_goto 62 (gd rfl) rfl ?_
                        have n62 : (y62_2).toInt = y43_2.toInt + 1 := by first | exact n62_0 | ((first | have a0 := in_u h1 | (have a0 := h1; unfold In at a0)); (first | have a1 := in_u ro_109_20 | (have a1 := ro_109_20; unfold In at a1)); (first | have a2 := in_u ro_109_19 | (have a2 := ro_109_19; unfold In at a2)); (first | have a3 := in_u i67 | (have a3 := i67; unfold In at a3)); (first | have a4 := in_u i187 | (have a4 := i187; unfold In at a4)); (first | have a5 := in_u j62_3 | (have a5 := j62_3; unfold In at a5)); (first | have a6 := in_u j62_2 | (have a6 := j62_2; unfold In at a6)); (first | have a7 := in_u i76 | (have a7 := i76; unfold In at a7)); have a8 := t_add e76 ro_109_19 i67 rfl; (first | have a9 := in_u i251 | (have a9 := i251; unfold In at a9)); have a10 := t_add e251 i67 (in_c 1 rfl) rfl; (first | have a11 := in_u ((in_c 1 rfl)) | (have a11 := (in_c 1 rfl); unfold In at a11)); omega)
                        have n62a : (y62_2).toInt ≤ (y62_3).toInt := by first | exact n62_1 | ((first | have a0 := in_u h1 | (have a0 := h1; unfold In at a0)); (first | have a1 := in_u ro_109_20 | (have a1 := ro_109_20; unfold In at a1)); (first | have a2 := in_u ro_109_19 | (have a2 := ro_109_19; unfold In at a2)); (first | have a3 := in_u i67 | (have a3 := i67; unfold In at a3)); (first | have a4 := in_u i187 | (have a4 := i187; unfold In at a4)); (first | have a5 := in_u j62_3 | (have a5 := j62_3; unfold In at a5)); (first | have a6 := in_u j62_2 | (have a6 := j62_2; unfold In at a6)); (first | have a7 := in_u i76 | (have a7 := i76; unfold In at a7)); have a8 := t_add e76 ro_109_19 i67 rfl; (first | have a9 := in_u i251 | (have a9 := i251; unfold In at a9)); have a10 := t_add e251 i67 (in_c 1 rfl) rfl; (first | have a11 := in_u ((in_c 1 rfl)) | (have a11 := (in_c 1 rfl); unfold In at a11)); omega)
                        have n62b : SI sc62 (x1).toInt (y62_3).toInt := by first | exact g43_0 | exact g62_0 | exact nsi
                        have n62c : 0 ≤ (sc62.1 148 (y62_4).toNatClampNeg).toInt := by first | exact g62_1 | (first | exact g62_1 | (have h := g43_0.2.2.1 y43_2.toNatClampNeg (by show ((y43_2.toInt.toNat : Nat) : Int) < _; (first | have a0 := in_u h1 | (have a0 := h1; unfold In at a0)); (first | have a1 := in_u ro_109_20 | (have a1 := ro_109_20; unfold In at a1)); (first | have a2 := in_u ro_109_19 | (have a2 := ro_109_19; unfold In at a2)); (first | have a3 := in_u i67 | (have a3 := i67; unfold In at a3)); (first | have a4 := in_u i187 | (have a4 := i187; unfold In at a4)); (first | have a5 := in_u j62_3 | (have a5 := j62_3; unfold In at a5)); (first | have a6 := in_u j62_2 | (have a6 := j62_2; unfold In at a6)); (first | have a7 := in_u i76 | (have a7 := i76; unfold In at a7)); have a8 := t_add e76 ro_109_19 i67 rfl; (first | have a9 := in_u i251 | (have a9 := i251; unfold In at a9)); have a10 := t_add e251 i67 (in_c 1 rfl) rfl; (first | have a11 := in_u ((in_c 1 rfl)) | (have a11 := (in_c 1 rfl); unfold In at a11)); omega); rw [← e53] at h; exact h.2) | (rw [sI_p rfl, sI_q]; exact up_ge g62_1 (by (first | have a0 := in_u h1 | (have a0 := h1; unfold In at a0)); (first | have a1 := in_u ro_109_20 | (have a1 := ro_109_20; unfold In at a1)); (first | have a2 := in_u ro_109_19 | (have a2 := ro_109_19; unfold In at a2)); (first | have a3 := in_u i67 | (have a3 := i67; unfold In at a3)); (first | have a4 := in_u i187 | (have a4 := i187; unfold In at a4)); (first | have a5 := in_u j62_3 | (have a5 := j62_3; unfold In at a5)); (first | have a6 := in_u j62_2 | (have a6 := j62_2; unfold In at a6)); (first | have a7 := in_u i76 | (have a7 := i76; unfold In at a7)); have a8 := t_add e76 ro_109_19 i67 rfl; (first | have a9 := in_u i251 | (have a9 := i251; unfold In at a9)); have a10 := t_add e251 i67 (in_c 1 rfl) rfl; (first | have a11 := in_u ((in_c 1 rfl)) | (have a11 := (in_c 1 rfl); unfold In at a11)); omega)))
                        exact gg_w (by first | exact Nat.le_add_right _ _ | exact gw2 | exact gw3 | exact gwe rfl | exact gwf rfl | exact gwg rfl | exact gwh rfl | omega) (gg_f (gf_cons rfl (gf_cons rfl (gf_cons rfl (gf_cons rfl (gf_cons rfl (gf_cons rfl gf_nil)))))) (ih62 sc62 y62_2 y62_3 y62_4 z251 hIc62 hFc62 (in_w 1 32 j62_2 rfl) (in_w 0 32 j62_3 rfl) (in_w 0 1951 i187 rfl) (in_w 0 160 i251 rfl) n62 n62a n62b n62c (m_up mm62 (t_add e251 i67 (in_c 1 rfl) rfl) (in_w 1 1 (in_c 1 rfl) rfl))))
                      · skip
                        have i214 := z_gt 1 1 c214 i213 rfl
                        have c214a := lc_gt e213 c214
                        have i214a := lr_lt2 1 9223372036854775807 c214a (l_c 0 rfl) (l_rng z211) rfl
                        refine g_aload_n 218 (gd rfl) rfl rfl ?_
                        refine g_getA (q2 := 148) 221 (gd rfl) rfl rfl rfl rfl ?_
                        refine g_aload_n 222 (gd rfl) rfl rfl ?_
                        refine g_getA (q2 := 113) 225 (gd rfl) rfl rfl rfl rfl ?_
                        refine g_iload 227 (gd rfl) rfl rfl ?_
                        refine g_iaload 228 (gd rfl) rfl (n := 480) rfl (in_ix i76 rfl) (fun z227 e227 => ?_)
                        have q227 : z95 = z227 := (e95).trans e227.symm
                        subst q227
                        refine g_sipush 200 231 (gd rfl) rfl rfl ?_
                        refine g_iload 233 (gd rfl) rfl rfl ?_
                        refine g_iadd 234 (gd rfl) rfl (fun z233 e233 => ?_)
                        have i233 := in_add 200 359 e233 (in_c 200 rfl) i67 rfl rfl
                        refine g_iastore 235 (gd rfl) rfl (n := 34) rfl (in_ix i95 rfl) ?_
                        have hI234 := inv_sI (q := 148) (j := z95.toNatClampNeg) hIc62 rfl (in_w (-1) 1000 i233 rfl)
                        refine g_aload_n 236 (gd rfl) rfl rfl ?_
                        refine g_getA (q2 := 132) 239 (gd rfl) rfl rfl rfl rfl ?_
                        refine g_iload_n 240 (gd rfl) rfl rfl ?_
                        refine g_aload_n 241 (gd rfl) rfl rfl ?_
                        refine g_getA (q2 := 113) 244 (gd rfl) rfl rfl rfl rfl ?_
                        refine g_iload 246 (gd rfl) rfl rfl ?_
                        refine g_iaload 247 (gd rfl) rfl (n := 480) rfl (in_ix i76 rfl) (fun z246 e246 => ?_)
                        have q246 : z95 = z246 := (sI_ne rfl (e95)).trans e246.symm
                        subst q246
                        refine g_iastore 248 (gd rfl) rfl (n := 4000) rfl (in_ix j62_3 rfl) ?_
                        have hI247 := inv_sI (q := 132) (j := y62_3.toNatClampNeg) hI234 rfl (in_w 0 1951 i95 rfl)
                        refine g_iinc 251 (gd rfl) rfl rfl (Nat.le_of_ble_eq_true rfl) (fun z248 e248 => ?_)
                        have i248 := in_add 1 33 e248 j62_3 (in_c 1 rfl) rfl rfl
                        first | (have nsi : SI (sI (sI sc62 148 z95.toNatClampNeg z233) 132 y62_3.toNatClampNeg z95) (x1).toInt (z248).toInt := (by have hl3 : (z248).toInt = y62_3.toInt + 1 := (by (first | have a0 := in_u h1 | (have a0 := h1; unfold In at a0)); (first | have a1 := in_u ro_109_20 | (have a1 := ro_109_20; unfold In at a1)); (first | have a2 := in_u ro_109_19 | (have a2 := ro_109_19; unfold In at a2)); (first | have a3 := in_u i67 | (have a3 := i67; unfold In at a3)); (first | have a4 := in_u i187 | (have a4 := i187; unfold In at a4)); (first | have a5 := in_u j62_3 | (have a5 := j62_3; unfold In at a5)); (first | have a6 := in_u j62_2 | (have a6 := j62_2; unfold In at a6)); (first | have a7 := in_u i76 | (have a7 := i76; unfold In at a7)); have a8 := t_add e76 ro_109_19 i67 rfl; (first | have a9 := in_u i248 | (have a9 := i248; unfold In at a9)); have a10 := t_add e248 j62_3 (in_c 1 rfl) rfl; (first | have a11 := in_u ((in_c 1 rfl)) | (have a11 := (in_c 1 rfl); unfold In at a11)); (first | have a12 := in_u i233 | (have a12 := i233; unfold In at a12)); have a13 := t_add e233 (in_c 200 rfl) i67 rfl; (first | have a14 := in_u ((in_c 200 rfl)) | (have a14 := (in_c 200 rfl); unfold In at a14)); omega); rw [hl3]; exact si_push (s := sc62) (a := y62_5.toNatClampNeg) (m := y62_3.toNatClampNeg) g62_0 (by show ((y62_3.toInt.toNat : Nat) : Int) = _; (first | have a0 := in_u h1 | (have a0 := h1; unfold In at a0)); (first | have a1 := in_u ro_109_20 | (have a1 := ro_109_20; unfold In at a1)); (first | have a2 := in_u ro_109_19 | (have a2 := ro_109_19; unfold In at a2)); (first | have a3 := in_u i67 | (have a3 := i67; unfold In at a3)); (first | have a4 := in_u i187 | (have a4 := i187; unfold In at a4)); (first | have a5 := in_u j62_3 | (have a5 := j62_3; unfold In at a5)); (first | have a6 := in_u j62_2 | (have a6 := j62_2; unfold In at a6)); (first | have a7 := in_u i76 | (have a7 := i76; unfold In at a7)); have a8 := t_add e76 ro_109_19 i67 rfl; (first | have a9 := in_u i248 | (have a9 := i248; unfold In at a9)); have a10 := t_add e248 j62_3 (in_c 1 rfl) rfl; (first | have a11 := in_u ((in_c 1 rfl)) | (have a11 := (in_c 1 rfl); unfold In at a11)); (first | have a12 := in_u i233 | (have a12 := i233; unfold In at a12)); have a13 := t_add e233 (in_c 200 rfl) i67 rfl; (first | have a14 := in_u ((in_c 200 rfl)) | (have a14 := (in_c 200 rfl); unfold In at a14)); omega) (by rw [sI_p rfl, sI_q]) (by rw [sI_q, sI_p rfl]) (by rw [sI_p rfl, sI_p rfl]) (by rw [sI_p rfl, sI_p rfl]) (by rw [sI_p rfl, sI_p rfl]) (by rw [sI_p rfl, sI_p rfl]) rfl rfl rfl i111 (by rw [← e112]; exact c113) (by show y62_5.toInt.toNat < 160; (first | have a0 := in_u h1 | (have a0 := h1; unfold In at a0)); (first | have a1 := in_u ro_109_20 | (have a1 := ro_109_20; unfold In at a1)); (first | have a2 := in_u ro_109_19 | (have a2 := ro_109_19; unfold In at a2)); (first | have a3 := in_u i67 | (have a3 := i67; unfold In at a3)); (first | have a4 := in_u i187 | (have a4 := i187; unfold In at a4)); (first | have a5 := in_u j62_3 | (have a5 := j62_3; unfold In at a5)); (first | have a6 := in_u j62_2 | (have a6 := j62_2; unfold In at a6)); (first | have a7 := in_u i76 | (have a7 := i76; unfold In at a7)); have a8 := t_add e76 ro_109_19 i67 rfl; (first | have a9 := in_u i248 | (have a9 := i248; unfold In at a9)); have a10 := t_add e248 j62_3 (in_c 1 rfl) rfl; (first | have a11 := in_u ((in_c 1 rfl)) | (have a11 := (in_c 1 rfl); unfold In at a11)); (first | have a12 := in_u i233 | (have a12 := i233; unfold In at a12)); have a13 := t_add e233 (in_c 200 rfl) i67 rfl; (first | have a14 := in_u ((in_c 200 rfl)) | (have a14 := (in_c 200 rfl); unfold In at a14)); (first | exact zt_l (by decide) (by omega) | omega)) (Or.inl ⟨by show _ = ((y62_5.toInt.toNat : Nat) : Int); (first | have a0 := in_u h1 | (have a0 := h1; unfold In at a0)); (first | have a1 := in_u ro_109_20 | (have a1 := ro_109_20; unfold In at a1)); (first | have a2 := in_u ro_109_19 | (have a2 := ro_109_19; unfold In at a2)); (first | have a3 := in_u i67 | (have a3 := i67; unfold In at a3)); (first | have a4 := in_u i187 | (have a4 := i187; unfold In at a4)); (first | have a5 := in_u j62_3 | (have a5 := j62_3; unfold In at a5)); (first | have a6 := in_u j62_2 | (have a6 := j62_2; unfold In at a6)); (first | have a7 := in_u i76 | (have a7 := i76; unfold In at a7)); have a8 := t_add e76 ro_109_19 i67 rfl; (first | have a9 := in_u i248 | (have a9 := i248; unfold In at a9)); have a10 := t_add e248 j62_3 (in_c 1 rfl) rfl; (first | have a11 := in_u ((in_c 1 rfl)) | (have a11 := (in_c 1 rfl); unfold In at a11)); (first | have a12 := in_u i233 | (have a12 := i233; unfold In at a12)); have a13 := t_add e233 (in_c 200 rfl) i67 rfl; (first | have a14 := in_u ((in_c 200 rfl)) | (have a14 := (in_c 200 rfl); unfold In at a14)); omega, by rw [hbs, ← e85]; exact c86, by rw [hbs]; exact e111.symm, by rw [hbs, ← e95, Int32.toInt_inj.mp c98]; exact g62_1, by rw [hbs, ← e95]; exact i95, by rw [hbs, ← e122, ← e129, ← tx_i2l e130]; exact c132a⟩))) | (have nsi : SI (sI (sI sc62 148 z95.toNatClampNeg z233) 132 y62_3.toNatClampNeg z95) (x1).toInt (z248).toInt := (by have hl3 : (z248).toInt = y62_3.toInt + 1 := (by (first | have a0 := in_u h1 | (have a0 := h1; unfold In at a0)); (first | have a1 := in_u ro_109_20 | (have a1 := ro_109_20; unfold In at a1)); (first | have a2 := in_u ro_109_19 | (have a2 := ro_109_19; unfold In at a2)); (first | have a3 := in_u i67 | (have a3 := i67; unfold In at a3)); (first | have a4 := in_u i187 | (have a4 := i187; unfold In at a4)); (first | have a5 := in_u j62_3 | (have a5 := j62_3; unfold In at a5)); (first | have a6 := in_u j62_2 | (have a6 := j62_2; unfold In at a6)); (first | have a7 := in_u i76 | (have a7 := i76; unfold In at a7)); have a8 := t_add e76 ro_109_19 i67 rfl; (first | have a9 := in_u i248 | (have a9 := i248; unfold In at a9)); have a10 := t_add e248 j62_3 (in_c 1 rfl) rfl; (first | have a11 := in_u ((in_c 1 rfl)) | (have a11 := (in_c 1 rfl); unfold In at a11)); (first | have a12 := in_u i233 | (have a12 := i233; unfold In at a12)); have a13 := t_add e233 (in_c 200 rfl) i67 rfl; (first | have a14 := in_u ((in_c 200 rfl)) | (have a14 := (in_c 200 rfl); unfold In at a14)); omega); rw [hl3]; exact si_push (s := sc62) (a := y62_5.toNatClampNeg) (m := y62_3.toNatClampNeg) g62_0 (by show ((y62_3.toInt.toNat : Nat) : Int) = _; (first | have a0 := in_u h1 | (have a0 := h1; unfold In at a0)); (first | have a1 := in_u ro_109_20 | (have a1 := ro_109_20; unfold In at a1)); (first | have a2 := in_u ro_109_19 | (have a2 := ro_109_19; unfold In at a2)); (first | have a3 := in_u i67 | (have a3 := i67; unfold In at a3)); (first | have a4 := in_u i187 | (have a4 := i187; unfold In at a4)); (first | have a5 := in_u j62_3 | (have a5 := j62_3; unfold In at a5)); (first | have a6 := in_u j62_2 | (have a6 := j62_2; unfold In at a6)); (first | have a7 := in_u i76 | (have a7 := i76; unfold In at a7)); have a8 := t_add e76 ro_109_19 i67 rfl; (first | have a9 := in_u i248 | (have a9 := i248; unfold In at a9)); have a10 := t_add e248 j62_3 (in_c 1 rfl) rfl; (first | have a11 := in_u ((in_c 1 rfl)) | (have a11 := (in_c 1 rfl); unfold In at a11)); (first | have a12 := in_u i233 | (have a12 := i233; unfold In at a12)); have a13 := t_add e233 (in_c 200 rfl) i67 rfl; (first | have a14 := in_u ((in_c 200 rfl)) | (have a14 := (in_c 200 rfl); unfold In at a14)); omega) (by rw [sI_p rfl, sI_q]) (by rw [sI_q, sI_p rfl]) (by rw [sI_p rfl, sI_p rfl]) (by rw [sI_p rfl, sI_p rfl]) (by rw [sI_p rfl, sI_p rfl]) (by rw [sI_p rfl, sI_p rfl]) rfl rfl rfl i95 (by rw [← e201]; exact c202) (by show y62_5.toInt.toNat < 160; (first | have a0 := in_u h1 | (have a0 := h1; unfold In at a0)); (first | have a1 := in_u ro_109_20 | (have a1 := ro_109_20; unfold In at a1)); (first | have a2 := in_u ro_109_19 | (have a2 := ro_109_19; unfold In at a2)); (first | have a3 := in_u i67 | (have a3 := i67; unfold In at a3)); (first | have a4 := in_u i187 | (have a4 := i187; unfold In at a4)); (first | have a5 := in_u j62_3 | (have a5 := j62_3; unfold In at a5)); (first | have a6 := in_u j62_2 | (have a6 := j62_2; unfold In at a6)); (first | have a7 := in_u i76 | (have a7 := i76; unfold In at a7)); have a8 := t_add e76 ro_109_19 i67 rfl; (first | have a9 := in_u i248 | (have a9 := i248; unfold In at a9)); have a10 := t_add e248 j62_3 (in_c 1 rfl) rfl; (first | have a11 := in_u ((in_c 1 rfl)) | (have a11 := (in_c 1 rfl); unfold In at a11)); (first | have a12 := in_u i233 | (have a12 := i233; unfold In at a12)); have a13 := t_add e233 (in_c 200 rfl) i67 rfl; (first | have a14 := in_u ((in_c 200 rfl)) | (have a14 := (in_c 200 rfl); unfold In at a14)); (first | exact zt_l (by decide) (by omega) | omega)) (Or.inr ⟨by show _ = 200 + ((y62_5.toInt.toNat : Nat) : Int); (first | have a0 := in_u h1 | (have a0 := h1; unfold In at a0)); (first | have a1 := in_u ro_109_20 | (have a1 := ro_109_20; unfold In at a1)); (first | have a2 := in_u ro_109_19 | (have a2 := ro_109_19; unfold In at a2)); (first | have a3 := in_u i67 | (have a3 := i67; unfold In at a3)); (first | have a4 := in_u i187 | (have a4 := i187; unfold In at a4)); (first | have a5 := in_u j62_3 | (have a5 := j62_3; unfold In at a5)); (first | have a6 := in_u j62_2 | (have a6 := j62_2; unfold In at a6)); (first | have a7 := in_u i76 | (have a7 := i76; unfold In at a7)); have a8 := t_add e76 ro_109_19 i67 rfl; (first | have a9 := in_u i248 | (have a9 := i248; unfold In at a9)); have a10 := t_add e248 j62_3 (in_c 1 rfl) rfl; (first | have a11 := in_u ((in_c 1 rfl)) | (have a11 := (in_c 1 rfl); unfold In at a11)); (first | have a12 := in_u i233 | (have a12 := i233; unfold In at a12)); have a13 := t_add e233 (in_c 200 rfl) i67 rfl; (first | have a14 := in_u ((in_c 200 rfl)) | (have a14 := (in_c 200 rfl); unfold In at a14)); omega, by rw [hbs, ← e85]; exact c86, by rw [hbs]; exact e95.symm, by rw [hbs, ← e184, Int32.toInt_inj.mp c187]; exact g62_1, by rw [hbs, ← e184]; exact i184, by rw [← e211]; exact c214a⟩))) | (have nsi : SI (sI (sI sc62 148 z95.toNatClampNeg z233) 132 y62_3.toNatClampNeg z95) (x1).toInt (z248).toInt := (by have hl3 : (z248).toInt = y62_3.toInt + 1 := (by (first | have a0 := in_u h1 | (have a0 := h1; unfold In at a0)); (first | have a1 := in_u ro_109_20 | (have a1 := ro_109_20; unfold In at a1)); (first | have a2 := in_u ro_109_19 | (have a2 := ro_109_19; unfold In at a2)); (first | have a3 := in_u i67 | (have a3 := i67; unfold In at a3)); (first | have a4 := in_u i187 | (have a4 := i187; unfold In at a4)); (first | have a5 := in_u j62_3 | (have a5 := j62_3; unfold In at a5)); (first | have a6 := in_u j62_2 | (have a6 := j62_2; unfold In at a6)); (first | have a7 := in_u i76 | (have a7 := i76; unfold In at a7)); have a8 := t_add e76 ro_109_19 i67 rfl; (first | have a9 := in_u i248 | (have a9 := i248; unfold In at a9)); have a10 := t_add e248 j62_3 (in_c 1 rfl) rfl; (first | have a11 := in_u ((in_c 1 rfl)) | (have a11 := (in_c 1 rfl); unfold In at a11)); (first | have a12 := in_u i233 | (have a12 := i233; unfold In at a12)); have a13 := t_add e233 (in_c 200 rfl) i67 rfl; (first | have a14 := in_u ((in_c 200 rfl)) | (have a14 := (in_c 200 rfl); unfold In at a14)); omega); rw [hl3]; exact si_push (s := sc62) (a := y62_5.toNatClampNeg) (m := y62_3.toNatClampNeg) g62_0 (by show ((y62_3.toInt.toNat : Nat) : Int) = _; (first | have a0 := in_u h1 | (have a0 := h1; unfold In at a0)); (first | have a1 := in_u ro_109_20 | (have a1 := ro_109_20; unfold In at a1)); (first | have a2 := in_u ro_109_19 | (have a2 := ro_109_19; unfold In at a2)); (first | have a3 := in_u i67 | (have a3 := i67; unfold In at a3)); (first | have a4 := in_u i187 | (have a4 := i187; unfold In at a4)); (first | have a5 := in_u j62_3 | (have a5 := j62_3; unfold In at a5)); (first | have a6 := in_u j62_2 | (have a6 := j62_2; unfold In at a6)); (first | have a7 := in_u i76 | (have a7 := i76; unfold In at a7)); have a8 := t_add e76 ro_109_19 i67 rfl; (first | have a9 := in_u i248 | (have a9 := i248; unfold In at a9)); have a10 := t_add e248 j62_3 (in_c 1 rfl) rfl; (first | have a11 := in_u ((in_c 1 rfl)) | (have a11 := (in_c 1 rfl); unfold In at a11)); (first | have a12 := in_u i233 | (have a12 := i233; unfold In at a12)); have a13 := t_add e233 (in_c 200 rfl) i67 rfl; (first | have a14 := in_u ((in_c 200 rfl)) | (have a14 := (in_c 200 rfl); unfold In at a14)); omega) (by rw [sI_p rfl, sI_q]) (by rw [sI_q, sI_p rfl]) (by rw [sI_p rfl, sI_p rfl]) (by rw [sI_p rfl, sI_p rfl]) (by rw [sI_p rfl, sI_p rfl]) (by rw [sI_p rfl, sI_p rfl]) rfl rfl rfl i95 (by rw [← e201]; exact c202) (by show y62_5.toInt.toNat < 160; (first | have a0 := in_u h1 | (have a0 := h1; unfold In at a0)); (first | have a1 := in_u ro_109_20 | (have a1 := ro_109_20; unfold In at a1)); (first | have a2 := in_u ro_109_19 | (have a2 := ro_109_19; unfold In at a2)); (first | have a3 := in_u i67 | (have a3 := i67; unfold In at a3)); (first | have a4 := in_u i187 | (have a4 := i187; unfold In at a4)); (first | have a5 := in_u j62_3 | (have a5 := j62_3; unfold In at a5)); (first | have a6 := in_u j62_2 | (have a6 := j62_2; unfold In at a6)); (first | have a7 := in_u i76 | (have a7 := i76; unfold In at a7)); have a8 := t_add e76 ro_109_19 i67 rfl; (first | have a9 := in_u i248 | (have a9 := i248; unfold In at a9)); have a10 := t_add e248 j62_3 (in_c 1 rfl) rfl; (first | have a11 := in_u ((in_c 1 rfl)) | (have a11 := (in_c 1 rfl); unfold In at a11)); (first | have a12 := in_u i233 | (have a12 := i233; unfold In at a12)); have a13 := t_add e233 (in_c 200 rfl) i67 rfl; (first | have a14 := in_u ((in_c 200 rfl)) | (have a14 := (in_c 200 rfl); unfold In at a14)); (first | exact zt_l (by decide) (by omega) | omega)) (Or.inr ⟨by show _ = 200 + ((y62_5.toInt.toNat : Nat) : Int); (first | have a0 := in_u h1 | (have a0 := h1; unfold In at a0)); (first | have a1 := in_u ro_109_20 | (have a1 := ro_109_20; unfold In at a1)); (first | have a2 := in_u ro_109_19 | (have a2 := ro_109_19; unfold In at a2)); (first | have a3 := in_u i67 | (have a3 := i67; unfold In at a3)); (first | have a4 := in_u i187 | (have a4 := i187; unfold In at a4)); (first | have a5 := in_u j62_3 | (have a5 := j62_3; unfold In at a5)); (first | have a6 := in_u j62_2 | (have a6 := j62_2; unfold In at a6)); (first | have a7 := in_u i76 | (have a7 := i76; unfold In at a7)); have a8 := t_add e76 ro_109_19 i67 rfl; (first | have a9 := in_u i248 | (have a9 := i248; unfold In at a9)); have a10 := t_add e248 j62_3 (in_c 1 rfl) rfl; (first | have a11 := in_u ((in_c 1 rfl)) | (have a11 := (in_c 1 rfl); unfold In at a11)); (first | have a12 := in_u i233 | (have a12 := i233; unfold In at a12)); have a13 := t_add e233 (in_c 200 rfl) i67 rfl; (first | have a14 := in_u ((in_c 200 rfl)) | (have a14 := (in_c 200 rfl); unfold In at a14)); omega, by rw [hbs, ← e85]; exact c86, by rw [hbs]; exact e95.symm, by rw [hbs, ← e184, Int32.toInt_inj.mp c187]; exact g62_1, by rw [hbs, ← e184]; exact i184, by rw [← e122]; exact c214a⟩))) | (have nsi : SI (sI (sI sc62 148 z95.toNatClampNeg z233) 132 y62_3.toNatClampNeg z95) (x1).toInt (z248).toInt := (by have hl3 : (z248).toInt = y62_3.toInt + 1 := (by (first | have a0 := in_u h1 | (have a0 := h1; unfold In at a0)); (first | have a1 := in_u ro_109_20 | (have a1 := ro_109_20; unfold In at a1)); (first | have a2 := in_u ro_109_19 | (have a2 := ro_109_19; unfold In at a2)); (first | have a3 := in_u i67 | (have a3 := i67; unfold In at a3)); (first | have a4 := in_u i187 | (have a4 := i187; unfold In at a4)); (first | have a5 := in_u j62_3 | (have a5 := j62_3; unfold In at a5)); (first | have a6 := in_u j62_2 | (have a6 := j62_2; unfold In at a6)); (first | have a7 := in_u i76 | (have a7 := i76; unfold In at a7)); have a8 := t_add e76 ro_109_19 i67 rfl; (first | have a9 := in_u i248 | (have a9 := i248; unfold In at a9)); have a10 := t_add e248 j62_3 (in_c 1 rfl) rfl; (first | have a11 := in_u ((in_c 1 rfl)) | (have a11 := (in_c 1 rfl); unfold In at a11)); (first | have a12 := in_u i233 | (have a12 := i233; unfold In at a12)); have a13 := t_add e233 (in_c 200 rfl) i67 rfl; (first | have a14 := in_u ((in_c 200 rfl)) | (have a14 := (in_c 200 rfl); unfold In at a14)); omega); rw [hl3]; exact si_push (s := sc62) (a := y62_5.toNatClampNeg) (m := y62_3.toNatClampNeg) g62_0 (by show ((y62_3.toInt.toNat : Nat) : Int) = _; (first | have a0 := in_u h1 | (have a0 := h1; unfold In at a0)); (first | have a1 := in_u ro_109_20 | (have a1 := ro_109_20; unfold In at a1)); (first | have a2 := in_u ro_109_19 | (have a2 := ro_109_19; unfold In at a2)); (first | have a3 := in_u i67 | (have a3 := i67; unfold In at a3)); (first | have a4 := in_u i187 | (have a4 := i187; unfold In at a4)); (first | have a5 := in_u j62_3 | (have a5 := j62_3; unfold In at a5)); (first | have a6 := in_u j62_2 | (have a6 := j62_2; unfold In at a6)); (first | have a7 := in_u i76 | (have a7 := i76; unfold In at a7)); have a8 := t_add e76 ro_109_19 i67 rfl; (first | have a9 := in_u i248 | (have a9 := i248; unfold In at a9)); have a10 := t_add e248 j62_3 (in_c 1 rfl) rfl; (first | have a11 := in_u ((in_c 1 rfl)) | (have a11 := (in_c 1 rfl); unfold In at a11)); (first | have a12 := in_u i233 | (have a12 := i233; unfold In at a12)); have a13 := t_add e233 (in_c 200 rfl) i67 rfl; (first | have a14 := in_u ((in_c 200 rfl)) | (have a14 := (in_c 200 rfl); unfold In at a14)); omega) (by rw [sI_p rfl, sI_q]) (by rw [sI_q, sI_p rfl]) (by rw [sI_p rfl, sI_p rfl]) (by rw [sI_p rfl, sI_p rfl]) (by rw [sI_p rfl, sI_p rfl]) (by rw [sI_p rfl, sI_p rfl]) rfl rfl rfl i95 (by rw [← e201]; exact c202) (by show y62_5.toInt.toNat < 160; (first | have a0 := in_u h1 | (have a0 := h1; unfold In at a0)); (first | have a1 := in_u ro_109_20 | (have a1 := ro_109_20; unfold In at a1)); (first | have a2 := in_u ro_109_19 | (have a2 := ro_109_19; unfold In at a2)); (first | have a3 := in_u i67 | (have a3 := i67; unfold In at a3)); (first | have a4 := in_u i187 | (have a4 := i187; unfold In at a4)); (first | have a5 := in_u j62_3 | (have a5 := j62_3; unfold In at a5)); (first | have a6 := in_u j62_2 | (have a6 := j62_2; unfold In at a6)); (first | have a7 := in_u i76 | (have a7 := i76; unfold In at a7)); have a8 := t_add e76 ro_109_19 i67 rfl; (first | have a9 := in_u i248 | (have a9 := i248; unfold In at a9)); have a10 := t_add e248 j62_3 (in_c 1 rfl) rfl; (first | have a11 := in_u ((in_c 1 rfl)) | (have a11 := (in_c 1 rfl); unfold In at a11)); (first | have a12 := in_u i233 | (have a12 := i233; unfold In at a12)); have a13 := t_add e233 (in_c 200 rfl) i67 rfl; (first | have a14 := in_u ((in_c 200 rfl)) | (have a14 := (in_c 200 rfl); unfold In at a14)); (first | exact zt_l (by decide) (by omega) | omega)) (Or.inr ⟨by show _ = 200 + ((y62_5.toInt.toNat : Nat) : Int); (first | have a0 := in_u h1 | (have a0 := h1; unfold In at a0)); (first | have a1 := in_u ro_109_20 | (have a1 := ro_109_20; unfold In at a1)); (first | have a2 := in_u ro_109_19 | (have a2 := ro_109_19; unfold In at a2)); (first | have a3 := in_u i67 | (have a3 := i67; unfold In at a3)); (first | have a4 := in_u i187 | (have a4 := i187; unfold In at a4)); (first | have a5 := in_u j62_3 | (have a5 := j62_3; unfold In at a5)); (first | have a6 := in_u j62_2 | (have a6 := j62_2; unfold In at a6)); (first | have a7 := in_u i76 | (have a7 := i76; unfold In at a7)); have a8 := t_add e76 ro_109_19 i67 rfl; (first | have a9 := in_u i248 | (have a9 := i248; unfold In at a9)); have a10 := t_add e248 j62_3 (in_c 1 rfl) rfl; (first | have a11 := in_u ((in_c 1 rfl)) | (have a11 := (in_c 1 rfl); unfold In at a11)); (first | have a12 := in_u i233 | (have a12 := i233; unfold In at a12)); have a13 := t_add e233 (in_c 200 rfl) i67 rfl; (first | have a14 := in_u ((in_c 200 rfl)) | (have a14 := (in_c 200 rfl); unfold In at a14)); omega, by rw [hbs, ← e85]; exact c86, by rw [hbs]; exact e95.symm, by rw [hbs, ← e111, Int32.toInt_inj.mp c187]; exact g62_1, by rw [hbs, ← e111]; exact i111, by rw [← e211]; exact c214a⟩))) | (have nsi : SI (sI (sI sc62 148 z95.toNatClampNeg z233) 132 y62_3.toNatClampNeg z95) (x1).toInt (z248).toInt := (by have hl3 : (z248).toInt = y62_3.toInt + 1 := (by (first | have a0 := in_u h1 | (have a0 := h1; unfold In at a0)); (first | have a1 := in_u ro_109_20 | (have a1 := ro_109_20; unfold In at a1)); (first | have a2 := in_u ro_109_19 | (have a2 := ro_109_19; unfold In at a2)); (first | have a3 := in_u i67 | (have a3 := i67; unfold In at a3)); (first | have a4 := in_u i187 | (have a4 := i187; unfold In at a4)); (first | have a5 := in_u j62_3 | (have a5 := j62_3; unfold In at a5)); (first | have a6 := in_u j62_2 | (have a6 := j62_2; unfold In at a6)); (first | have a7 := in_u i76 | (have a7 := i76; unfold In at a7)); have a8 := t_add e76 ro_109_19 i67 rfl; (first | have a9 := in_u i248 | (have a9 := i248; unfold In at a9)); have a10 := t_add e248 j62_3 (in_c 1 rfl) rfl; (first | have a11 := in_u ((in_c 1 rfl)) | (have a11 := (in_c 1 rfl); unfold In at a11)); (first | have a12 := in_u i233 | (have a12 := i233; unfold In at a12)); have a13 := t_add e233 (in_c 200 rfl) i67 rfl; (first | have a14 := in_u ((in_c 200 rfl)) | (have a14 := (in_c 200 rfl); unfold In at a14)); omega); rw [hl3]; exact si_push (s := sc62) (a := y62_5.toNatClampNeg) (m := y62_3.toNatClampNeg) g62_0 (by show ((y62_3.toInt.toNat : Nat) : Int) = _; (first | have a0 := in_u h1 | (have a0 := h1; unfold In at a0)); (first | have a1 := in_u ro_109_20 | (have a1 := ro_109_20; unfold In at a1)); (first | have a2 := in_u ro_109_19 | (have a2 := ro_109_19; unfold In at a2)); (first | have a3 := in_u i67 | (have a3 := i67; unfold In at a3)); (first | have a4 := in_u i187 | (have a4 := i187; unfold In at a4)); (first | have a5 := in_u j62_3 | (have a5 := j62_3; unfold In at a5)); (first | have a6 := in_u j62_2 | (have a6 := j62_2; unfold In at a6)); (first | have a7 := in_u i76 | (have a7 := i76; unfold In at a7)); have a8 := t_add e76 ro_109_19 i67 rfl; (first | have a9 := in_u i248 | (have a9 := i248; unfold In at a9)); have a10 := t_add e248 j62_3 (in_c 1 rfl) rfl; (first | have a11 := in_u ((in_c 1 rfl)) | (have a11 := (in_c 1 rfl); unfold In at a11)); (first | have a12 := in_u i233 | (have a12 := i233; unfold In at a12)); have a13 := t_add e233 (in_c 200 rfl) i67 rfl; (first | have a14 := in_u ((in_c 200 rfl)) | (have a14 := (in_c 200 rfl); unfold In at a14)); omega) (by rw [sI_p rfl, sI_q]) (by rw [sI_q, sI_p rfl]) (by rw [sI_p rfl, sI_p rfl]) (by rw [sI_p rfl, sI_p rfl]) (by rw [sI_p rfl, sI_p rfl]) (by rw [sI_p rfl, sI_p rfl]) rfl rfl rfl i95 (by rw [← e201]; exact c202) (by show y62_5.toInt.toNat < 160; (first | have a0 := in_u h1 | (have a0 := h1; unfold In at a0)); (first | have a1 := in_u ro_109_20 | (have a1 := ro_109_20; unfold In at a1)); (first | have a2 := in_u ro_109_19 | (have a2 := ro_109_19; unfold In at a2)); (first | have a3 := in_u i67 | (have a3 := i67; unfold In at a3)); (first | have a4 := in_u i187 | (have a4 := i187; unfold In at a4)); (first | have a5 := in_u j62_3 | (have a5 := j62_3; unfold In at a5)); (first | have a6 := in_u j62_2 | (have a6 := j62_2; unfold In at a6)); (first | have a7 := in_u i76 | (have a7 := i76; unfold In at a7)); have a8 := t_add e76 ro_109_19 i67 rfl; (first | have a9 := in_u i248 | (have a9 := i248; unfold In at a9)); have a10 := t_add e248 j62_3 (in_c 1 rfl) rfl; (first | have a11 := in_u ((in_c 1 rfl)) | (have a11 := (in_c 1 rfl); unfold In at a11)); (first | have a12 := in_u i233 | (have a12 := i233; unfold In at a12)); have a13 := t_add e233 (in_c 200 rfl) i67 rfl; (first | have a14 := in_u ((in_c 200 rfl)) | (have a14 := (in_c 200 rfl); unfold In at a14)); (first | exact zt_l (by decide) (by omega) | omega)) (Or.inr ⟨by show _ = 200 + ((y62_5.toInt.toNat : Nat) : Int); (first | have a0 := in_u h1 | (have a0 := h1; unfold In at a0)); (first | have a1 := in_u ro_109_20 | (have a1 := ro_109_20; unfold In at a1)); (first | have a2 := in_u ro_109_19 | (have a2 := ro_109_19; unfold In at a2)); (first | have a3 := in_u i67 | (have a3 := i67; unfold In at a3)); (first | have a4 := in_u i187 | (have a4 := i187; unfold In at a4)); (first | have a5 := in_u j62_3 | (have a5 := j62_3; unfold In at a5)); (first | have a6 := in_u j62_2 | (have a6 := j62_2; unfold In at a6)); (first | have a7 := in_u i76 | (have a7 := i76; unfold In at a7)); have a8 := t_add e76 ro_109_19 i67 rfl; (first | have a9 := in_u i248 | (have a9 := i248; unfold In at a9)); have a10 := t_add e248 j62_3 (in_c 1 rfl) rfl; (first | have a11 := in_u ((in_c 1 rfl)) | (have a11 := (in_c 1 rfl); unfold In at a11)); (first | have a12 := in_u i233 | (have a12 := i233; unfold In at a12)); have a13 := t_add e233 (in_c 200 rfl) i67 rfl; (first | have a14 := in_u ((in_c 200 rfl)) | (have a14 := (in_c 200 rfl); unfold In at a14)); omega, by rw [hbs, ← e85]; exact c86, by rw [hbs]; exact e95.symm, by rw [hbs, ← e111, Int32.toInt_inj.mp c187]; exact g62_1, by rw [hbs, ← e111]; exact i111, by rw [← e122]; exact c214a⟩))) | skip
                        refine g_iinc 254 (gd rfl) rfl rfl (Nat.le_of_ble_eq_true rfl) (fun z251 e251 => ?_)
                        have i251 := in_add 1 160 e251 i67 (in_c 1 rfl) rfl rfl
                        refine g_goto 62 (gd rfl) rfl ?_
                        have i62 : In z248 0 32 := by first | (exact ⟨by (first | have a0 := in_u h1 | (have a0 := h1; unfold In at a0)); (first | have a1 := in_u ro_109_20 | (have a1 := ro_109_20; unfold In at a1)); (first | have a2 := in_u ro_109_19 | (have a2 := ro_109_19; unfold In at a2)); (first | have a3 := in_u i67 | (have a3 := i67; unfold In at a3)); (first | have a4 := in_u i187 | (have a4 := i187; unfold In at a4)); (first | have a5 := in_u j62_3 | (have a5 := j62_3; unfold In at a5)); (first | have a6 := in_u j62_2 | (have a6 := j62_2; unfold In at a6)); (first | have a7 := in_u i76 | (have a7 := i76; unfold In at a7)); have a8 := t_add e76 ro_109_19 i67 rfl; (first | have a9 := in_u i251 | (have a9 := i251; unfold In at a9)); have a10 := t_add e251 i67 (in_c 1 rfl) rfl; (first | have a11 := in_u ((in_c 1 rfl)) | (have a11 := (in_c 1 rfl); unfold In at a11)); (first | have a12 := in_u i248 | (have a12 := i248; unfold In at a12)); have a13 := t_add e248 j62_3 (in_c 1 rfl) rfl; (first | have a14 := in_u i233 | (have a14 := i233; unfold In at a14)); have a15 := t_add e233 (in_c 200 rfl) i67 rfl; (first | have a16 := in_u ((in_c 200 rfl)) | (have a16 := (in_c 200 rfl); unfold In at a16)); omega, by (first | have a0 := in_u h1 | (have a0 := h1; unfold In at a0)); (first | have a1 := in_u ro_109_20 | (have a1 := ro_109_20; unfold In at a1)); (first | have a2 := in_u ro_109_19 | (have a2 := ro_109_19; unfold In at a2)); (first | have a3 := in_u i67 | (have a3 := i67; unfold In at a3)); (first | have a4 := in_u i187 | (have a4 := i187; unfold In at a4)); (first | have a5 := in_u j62_3 | (have a5 := j62_3; unfold In at a5)); (first | have a6 := in_u j62_2 | (have a6 := j62_2; unfold In at a6)); (first | have a7 := in_u i76 | (have a7 := i76; unfold In at a7)); have a8 := t_add e76 ro_109_19 i67 rfl; (first | have a9 := in_u i251 | (have a9 := i251; unfold In at a9)); have a10 := t_add e251 i67 (in_c 1 rfl) rfl; (first | have a11 := in_u ((in_c 1 rfl)) | (have a11 := (in_c 1 rfl); unfold In at a11)); (first | have a12 := in_u i248 | (have a12 := i248; unfold In at a12)); have a13 := t_add e248 j62_3 (in_c 1 rfl) rfl; (first | have a14 := in_u i233 | (have a14 := i233; unfold In at a14)); have a15 := t_add e233 (in_c 200 rfl) i67 rfl; (first | have a16 := in_u ((in_c 200 rfl)) | (have a16 := (in_c 200 rfl); unfold In at a16)); omega⟩) | (have hq := si_le nsi; exact ⟨by (first | have a0 := in_u h1 | (have a0 := h1; unfold In at a0)); (first | have a1 := in_u ro_109_20 | (have a1 := ro_109_20; unfold In at a1)); (first | have a2 := in_u ro_109_19 | (have a2 := ro_109_19; unfold In at a2)); (first | have a3 := in_u i67 | (have a3 := i67; unfold In at a3)); (first | have a4 := in_u i187 | (have a4 := i187; unfold In at a4)); (first | have a5 := in_u j62_3 | (have a5 := j62_3; unfold In at a5)); (first | have a6 := in_u j62_2 | (have a6 := j62_2; unfold In at a6)); (first | have a7 := in_u i76 | (have a7 := i76; unfold In at a7)); have a8 := t_add e76 ro_109_19 i67 rfl; (first | have a9 := in_u i251 | (have a9 := i251; unfold In at a9)); have a10 := t_add e251 i67 (in_c 1 rfl) rfl; (first | have a11 := in_u ((in_c 1 rfl)) | (have a11 := (in_c 1 rfl); unfold In at a11)); (first | have a12 := in_u i248 | (have a12 := i248; unfold In at a12)); have a13 := t_add e248 j62_3 (in_c 1 rfl) rfl; (first | have a14 := in_u i233 | (have a14 := i233; unfold In at a14)); have a15 := t_add e233 (in_c 200 rfl) i67 rfl; (first | have a16 := in_u ((in_c 200 rfl)) | (have a16 := (in_c 200 rfl); unfold In at a16)); omega, by (first | have a0 := in_u h1 | (have a0 := h1; unfold In at a0)); (first | have a1 := in_u ro_109_20 | (have a1 := ro_109_20; unfold In at a1)); (first | have a2 := in_u ro_109_19 | (have a2 := ro_109_19; unfold In at a2)); (first | have a3 := in_u i67 | (have a3 := i67; unfold In at a3)); (first | have a4 := in_u i187 | (have a4 := i187; unfold In at a4)); (first | have a5 := in_u j62_3 | (have a5 := j62_3; unfold In at a5)); (first | have a6 := in_u j62_2 | (have a6 := j62_2; unfold In at a6)); (first | have a7 := in_u i76 | (have a7 := i76; unfold In at a7)); have a8 := t_add e76 ro_109_19 i67 rfl; (first | have a9 := in_u i251 | (have a9 := i251; unfold In at a9)); have a10 := t_add e251 i67 (in_c 1 rfl) rfl; (first | have a11 := in_u ((in_c 1 rfl)) | (have a11 := (in_c 1 rfl); unfold In at a11)); (first | have a12 := in_u i248 | (have a12 := i248; unfold In at a12)); have a13 := t_add e248 j62_3 (in_c 1 rfl) rfl; (first | have a14 := in_u i233 | (have a14 := i233; unfold In at a14)); have a15 := t_add e233 (in_c 200 rfl) i67 rfl; (first | have a16 := in_u ((in_c 200 rfl)) | (have a16 := (in_c 200 rfl); unfold In at a16)); omega⟩)
                        have n62 : (y62_2).toInt = y43_2.toInt + 1 := by first | exact n62_0 | ((first | have a0 := in_u h1 | (have a0 := h1; unfold In at a0)); (first | have a1 := in_u ro_109_20 | (have a1 := ro_109_20; unfold In at a1)); (first | have a2 := in_u ro_109_19 | (have a2 := ro_109_19; unfold In at a2)); (first | have a3 := in_u i67 | (have a3 := i67; unfold In at a3)); (first | have a4 := in_u i187 | (have a4 := i187; unfold In at a4)); (first | have a5 := in_u j62_3 | (have a5 := j62_3; unfold In at a5)); (first | have a6 := in_u j62_2 | (have a6 := j62_2; unfold In at a6)); (first | have a7 := in_u i76 | (have a7 := i76; unfold In at a7)); have a8 := t_add e76 ro_109_19 i67 rfl; (first | have a9 := in_u i251 | (have a9 := i251; unfold In at a9)); have a10 := t_add e251 i67 (in_c 1 rfl) rfl; (first | have a11 := in_u ((in_c 1 rfl)) | (have a11 := (in_c 1 rfl); unfold In at a11)); (first | have a12 := in_u i62 | (have a12 := i62; unfold In at a12)); have a13 := t_add e248 j62_3 (in_c 1 rfl) rfl; (first | have a14 := in_u i233 | (have a14 := i233; unfold In at a14)); have a15 := t_add e233 (in_c 200 rfl) i67 rfl; (first | have a16 := in_u ((in_c 200 rfl)) | (have a16 := (in_c 200 rfl); unfold In at a16)); omega)
                        have n62a : (y62_2).toInt ≤ (z248).toInt := by (first | have a0 := in_u h1 | (have a0 := h1; unfold In at a0)); (first | have a1 := in_u ro_109_20 | (have a1 := ro_109_20; unfold In at a1)); (first | have a2 := in_u ro_109_19 | (have a2 := ro_109_19; unfold In at a2)); (first | have a3 := in_u i67 | (have a3 := i67; unfold In at a3)); (first | have a4 := in_u i187 | (have a4 := i187; unfold In at a4)); (first | have a5 := in_u j62_3 | (have a5 := j62_3; unfold In at a5)); (first | have a6 := in_u j62_2 | (have a6 := j62_2; unfold In at a6)); (first | have a7 := in_u i76 | (have a7 := i76; unfold In at a7)); have a8 := t_add e76 ro_109_19 i67 rfl; (first | have a9 := in_u i251 | (have a9 := i251; unfold In at a9)); have a10 := t_add e251 i67 (in_c 1 rfl) rfl; (first | have a11 := in_u ((in_c 1 rfl)) | (have a11 := (in_c 1 rfl); unfold In at a11)); (first | have a12 := in_u i62 | (have a12 := i62; unfold In at a12)); have a13 := t_add e248 j62_3 (in_c 1 rfl) rfl; (first | have a14 := in_u i233 | (have a14 := i233; unfold In at a14)); have a15 := t_add e233 (in_c 200 rfl) i67 rfl; (first | have a16 := in_u ((in_c 200 rfl)) | (have a16 := (in_c 200 rfl); unfold In at a16)); omega
                        have n62b : SI (sI (sI sc62 148 z95.toNatClampNeg z233) 132 y62_3.toNatClampNeg z95) (x1).toInt (z248).toInt := by first | exact g43_0 | exact g62_0 | exact nsi
                        have n62c : 0 ≤ ((sI (sI sc62 148 z95.toNatClampNeg z233) 132 y62_3.toNatClampNeg z95).1 148 (y62_4).toNatClampNeg).toInt := by first | exact g62_1 | (have h := g43_0.2.2.1 y43_2.toNatClampNeg (by show ((y43_2.toInt.toNat : Nat) : Int) < _; (first | have a0 := in_u h1 | (have a0 := h1; unfold In at a0)); (first | have a1 := in_u ro_109_20 | (have a1 := ro_109_20; unfold In at a1)); (first | have a2 := in_u ro_109_19 | (have a2 := ro_109_19; unfold In at a2)); (first | have a3 := in_u i67 | (have a3 := i67; unfold In at a3)); (first | have a4 := in_u i187 | (have a4 := i187; unfold In at a4)); (first | have a5 := in_u j62_3 | (have a5 := j62_3; unfold In at a5)); (first | have a6 := in_u j62_2 | (have a6 := j62_2; unfold In at a6)); (first | have a7 := in_u i76 | (have a7 := i76; unfold In at a7)); have a8 := t_add e76 ro_109_19 i67 rfl; (first | have a9 := in_u i251 | (have a9 := i251; unfold In at a9)); have a10 := t_add e251 i67 (in_c 1 rfl) rfl; (first | have a11 := in_u ((in_c 1 rfl)) | (have a11 := (in_c 1 rfl); unfold In at a11)); (first | have a12 := in_u i62 | (have a12 := i62; unfold In at a12)); have a13 := t_add e248 j62_3 (in_c 1 rfl) rfl; (first | have a14 := in_u i233 | (have a14 := i233; unfold In at a14)); have a15 := t_add e233 (in_c 200 rfl) i67 rfl; (first | have a16 := in_u ((in_c 200 rfl)) | (have a16 := (in_c 200 rfl); unfold In at a16)); omega); rw [← e53] at h; exact h.2) | (rw [sI_p rfl, sI_q]; exact up_ge g62_1 (by (first | have a0 := in_u h1 | (have a0 := h1; unfold In at a0)); (first | have a1 := in_u ro_109_20 | (have a1 := ro_109_20; unfold In at a1)); (first | have a2 := in_u ro_109_19 | (have a2 := ro_109_19; unfold In at a2)); (first | have a3 := in_u i67 | (have a3 := i67; unfold In at a3)); (first | have a4 := in_u i187 | (have a4 := i187; unfold In at a4)); (first | have a5 := in_u j62_3 | (have a5 := j62_3; unfold In at a5)); (first | have a6 := in_u j62_2 | (have a6 := j62_2; unfold In at a6)); (first | have a7 := in_u i76 | (have a7 := i76; unfold In at a7)); have a8 := t_add e76 ro_109_19 i67 rfl; (first | have a9 := in_u i251 | (have a9 := i251; unfold In at a9)); have a10 := t_add e251 i67 (in_c 1 rfl) rfl; (first | have a11 := in_u ((in_c 1 rfl)) | (have a11 := (in_c 1 rfl); unfold In at a11)); (first | have a12 := in_u i62 | (have a12 := i62; unfold In at a12)); have a13 := t_add e248 j62_3 (in_c 1 rfl) rfl; (first | have a14 := in_u i233 | (have a14 := i233; unfold In at a14)); have a15 := t_add e233 (in_c 200 rfl) i67 rfl; (first | have a16 := in_u ((in_c 200 rfl)) | (have a16 := (in_c 200 rfl); unfold In at a16)); omega))
                        exact gg_w (by first | exact Nat.le_add_right _ _ | exact gw2 | exact gw3 | exact gwe rfl | exact gwf rfl | exact gwg rfl | exact gwh rfl | omega) (gg_f (gf_cons rfl (gf_cons rfl (gf_cons rfl (gf_cons rfl (gf_cons rfl (gf_cons rfl gf_nil)))))) (ih62 (sI (sI sc62 148 z95.toNatClampNeg z233) 132 y62_3.toNatClampNeg z95) y62_2 z248 y62_4 z251 hI247 (fr_sI rfl (fr_sI rfl hFc62)) (in_w 1 32 j62_2 rfl) i62 (in_w 0 1951 i187 rfl) (in_w 0 160 i251 rfl) n62 n62a n62b n62c (m_up mm62 (t_add e251 i67 (in_c 1 rfl) rfl) (in_w 1 1 (in_c 1 rfl) rfl))))
              · skip
                have i98 := r_eq2 0 31 c98 i95 j62_4 rfl
                refine g_aload_n 102 (gd rfl) rfl rfl ?_
                refine g_getA (q2 := 148) 105 (gd rfl) rfl rfl rfl rfl ?_
                refine g_aload_n 106 (gd rfl) rfl rfl ?_
                refine g_getA (q2 := 114) 109 (gd rfl) rfl rfl rfl rfl ?_
                refine g_iload 111 (gd rfl) rfl rfl ?_
                refine g_iaload 112 (gd rfl) rfl (n := 480) rfl (in_ix i76 rfl) (fun z111 e111 => ?_)
                have i111 := inv_I hIc62 (n := 480) (t := 0) 0 31 rfl (in_ix i76 rfl) rfl e111
                refine g_iaload 113 (gd rfl) rfl (n := 34) rfl (in_ix i111 rfl) (fun z112 e112 => ?_)
                have i112 := inv_I hIc62 (n := 34) (t := 0) (-1) 1000 rfl (in_ix i111 rfl) rfl e112
                refine g_if_ge 116 168 (gd rfl) rfl rfl (fun c113 => ?_) (fun c113 => ?_)
                · skip
                  have i113 := z_ge 0 1000 c113 i112 rfl
                  refine g_aload_n 169 (gd rfl) rfl rfl ?_
                  refine g_getA (q2 := 112) 172 (gd rfl) rfl rfl rfl rfl ?_
                  refine g_iload 174 (gd rfl) rfl rfl ?_
                  refine g_baload 175 (gd rfl) rfl (n := 480) rfl (in_ix i76 rfl) (fun z174 e174 => ?_)
                  have q174 : z85 = z174 := (e85).trans e174.symm
                  subst q174
                  refine g_if_eq 178 251 (gd rfl) rfl rfl (fun c175 => ?_) (fun c175 => ?_)
                  · skip
                    exact zn_eq c175 i86 rfl
                  · skip
                    refine g_aload_n 179 (gd rfl) rfl rfl ?_
                    refine g_getA (q2 := 114) 182 (gd rfl) rfl rfl rfl rfl ?_
                    refine g_iload 184 (gd rfl) rfl rfl ?_
                    refine g_iaload 185 (gd rfl) rfl (n := 480) rfl (in_ix i76 rfl) (fun z184 e184 => ?_)
                    have q184 : z111 = z184 := (e111).trans e184.symm
                    subst q184
                    refine g_iload 187 (gd rfl) rfl rfl ?_
                    refine g_cmp_ne 190 251 (gd rfl) rfl rfl (fun c187 => ?_) (fun c187 => ?_)
                    · skip
                      first | (have nsi : SI sc62 (x1).toInt (y62_3).toInt := (by have hl3 : (y62_3).toInt = y62_3.toInt + 1 := (by (first | have a0 := in_u h1 | (have a0 := h1; unfold In at a0)); (first | have a1 := in_u ro_109_20 | (have a1 := ro_109_20; unfold In at a1)); (first | have a2 := in_u ro_109_19 | (have a2 := ro_109_19; unfold In at a2)); (first | have a3 := in_u i67 | (have a3 := i67; unfold In at a3)); (first | have a4 := in_u i98 | (have a4 := i98; unfold In at a4)); (first | have a5 := in_u j62_3 | (have a5 := j62_3; unfold In at a5)); (first | have a6 := in_u j62_2 | (have a6 := j62_2; unfold In at a6)); (first | have a7 := in_u i76 | (have a7 := i76; unfold In at a7)); have a8 := t_add e76 ro_109_19 i67 rfl; omega); rw [hl3]; exact si_push (s := sc62) (a := y62_5.toNatClampNeg) (m := y62_3.toNatClampNeg) g62_0 (by show ((y62_3.toInt.toNat : Nat) : Int) = _; (first | have a0 := in_u h1 | (have a0 := h1; unfold In at a0)); (first | have a1 := in_u ro_109_20 | (have a1 := ro_109_20; unfold In at a1)); (first | have a2 := in_u ro_109_19 | (have a2 := ro_109_19; unfold In at a2)); (first | have a3 := in_u i67 | (have a3 := i67; unfold In at a3)); (first | have a4 := in_u i98 | (have a4 := i98; unfold In at a4)); (first | have a5 := in_u j62_3 | (have a5 := j62_3; unfold In at a5)); (first | have a6 := in_u j62_2 | (have a6 := j62_2; unfold In at a6)); (first | have a7 := in_u i76 | (have a7 := i76; unfold In at a7)); have a8 := t_add e76 ro_109_19 i67 rfl; omega) (by rw [sI_p rfl, sI_q]) (by rw [sI_q, sI_p rfl]) (by rw [sI_p rfl, sI_p rfl]) (by rw [sI_p rfl, sI_p rfl]) (by rw [sI_p rfl, sI_p rfl]) (by rw [sI_p rfl, sI_p rfl]) rfl rfl rfl i111 (by rw [← e112]; exact c113) (by show y62_5.toInt.toNat < 160; (first | have a0 := in_u h1 | (have a0 := h1; unfold In at a0)); (first | have a1 := in_u ro_109_20 | (have a1 := ro_109_20; unfold In at a1)); (first | have a2 := in_u ro_109_19 | (have a2 := ro_109_19; unfold In at a2)); (first | have a3 := in_u i67 | (have a3 := i67; unfold In at a3)); (first | have a4 := in_u i98 | (have a4 := i98; unfold In at a4)); (first | have a5 := in_u j62_3 | (have a5 := j62_3; unfold In at a5)); (first | have a6 := in_u j62_2 | (have a6 := j62_2; unfold In at a6)); (first | have a7 := in_u i76 | (have a7 := i76; unfold In at a7)); have a8 := t_add e76 ro_109_19 i67 rfl; (first | exact zt_l (by decide) (by omega) | omega)) (Or.inl ⟨by show _ = ((y62_5.toInt.toNat : Nat) : Int); (first | have a0 := in_u h1 | (have a0 := h1; unfold In at a0)); (first | have a1 := in_u ro_109_20 | (have a1 := ro_109_20; unfold In at a1)); (first | have a2 := in_u ro_109_19 | (have a2 := ro_109_19; unfold In at a2)); (first | have a3 := in_u i67 | (have a3 := i67; unfold In at a3)); (first | have a4 := in_u i98 | (have a4 := i98; unfold In at a4)); (first | have a5 := in_u j62_3 | (have a5 := j62_3; unfold In at a5)); (first | have a6 := in_u j62_2 | (have a6 := j62_2; unfold In at a6)); (first | have a7 := in_u i76 | (have a7 := i76; unfold In at a7)); have a8 := t_add e76 ro_109_19 i67 rfl; omega, by rw [hbs, ← e85]; exact c86, by rw [hbs]; exact e111.symm, by rw [hbs, ← e95, Int32.toInt_inj.mp c98]; exact g62_1, by rw [hbs, ← e95]; exact i95, by rw [hbs, ← e122, ← e129, ← tx_i2l e130]; exact c132a⟩))) | (have nsi : SI sc62 (x1).toInt (y62_3).toInt := (by have hl3 : (y62_3).toInt = y62_3.toInt + 1 := (by (first | have a0 := in_u h1 | (have a0 := h1; unfold In at a0)); (first | have a1 := in_u ro_109_20 | (have a1 := ro_109_20; unfold In at a1)); (first | have a2 := in_u ro_109_19 | (have a2 := ro_109_19; unfold In at a2)); (first | have a3 := in_u i67 | (have a3 := i67; unfold In at a3)); (first | have a4 := in_u i98 | (have a4 := i98; unfold In at a4)); (first | have a5 := in_u j62_3 | (have a5 := j62_3; unfold In at a5)); (first | have a6 := in_u j62_2 | (have a6 := j62_2; unfold In at a6)); (first | have a7 := in_u i76 | (have a7 := i76; unfold In at a7)); have a8 := t_add e76 ro_109_19 i67 rfl; omega); rw [hl3]; exact si_push (s := sc62) (a := y62_5.toNatClampNeg) (m := y62_3.toNatClampNeg) g62_0 (by show ((y62_3.toInt.toNat : Nat) : Int) = _; (first | have a0 := in_u h1 | (have a0 := h1; unfold In at a0)); (first | have a1 := in_u ro_109_20 | (have a1 := ro_109_20; unfold In at a1)); (first | have a2 := in_u ro_109_19 | (have a2 := ro_109_19; unfold In at a2)); (first | have a3 := in_u i67 | (have a3 := i67; unfold In at a3)); (first | have a4 := in_u i98 | (have a4 := i98; unfold In at a4)); (first | have a5 := in_u j62_3 | (have a5 := j62_3; unfold In at a5)); (first | have a6 := in_u j62_2 | (have a6 := j62_2; unfold In at a6)); (first | have a7 := in_u i76 | (have a7 := i76; unfold In at a7)); have a8 := t_add e76 ro_109_19 i67 rfl; omega) (by rw [sI_p rfl, sI_q]) (by rw [sI_q, sI_p rfl]) (by rw [sI_p rfl, sI_p rfl]) (by rw [sI_p rfl, sI_p rfl]) (by rw [sI_p rfl, sI_p rfl]) (by rw [sI_p rfl, sI_p rfl]) rfl rfl rfl i95 (by rw [← e201]; exact c202) (by show y62_5.toInt.toNat < 160; (first | have a0 := in_u h1 | (have a0 := h1; unfold In at a0)); (first | have a1 := in_u ro_109_20 | (have a1 := ro_109_20; unfold In at a1)); (first | have a2 := in_u ro_109_19 | (have a2 := ro_109_19; unfold In at a2)); (first | have a3 := in_u i67 | (have a3 := i67; unfold In at a3)); (first | have a4 := in_u i98 | (have a4 := i98; unfold In at a4)); (first | have a5 := in_u j62_3 | (have a5 := j62_3; unfold In at a5)); (first | have a6 := in_u j62_2 | (have a6 := j62_2; unfold In at a6)); (first | have a7 := in_u i76 | (have a7 := i76; unfold In at a7)); have a8 := t_add e76 ro_109_19 i67 rfl; (first | exact zt_l (by decide) (by omega) | omega)) (Or.inr ⟨by show _ = 200 + ((y62_5.toInt.toNat : Nat) : Int); (first | have a0 := in_u h1 | (have a0 := h1; unfold In at a0)); (first | have a1 := in_u ro_109_20 | (have a1 := ro_109_20; unfold In at a1)); (first | have a2 := in_u ro_109_19 | (have a2 := ro_109_19; unfold In at a2)); (first | have a3 := in_u i67 | (have a3 := i67; unfold In at a3)); (first | have a4 := in_u i98 | (have a4 := i98; unfold In at a4)); (first | have a5 := in_u j62_3 | (have a5 := j62_3; unfold In at a5)); (first | have a6 := in_u j62_2 | (have a6 := j62_2; unfold In at a6)); (first | have a7 := in_u i76 | (have a7 := i76; unfold In at a7)); have a8 := t_add e76 ro_109_19 i67 rfl; omega, by rw [hbs, ← e85]; exact c86, by rw [hbs]; exact e95.symm, by rw [hbs, ← e184, Int32.toInt_inj.mp c187]; exact g62_1, by rw [hbs, ← e184]; exact i184, by rw [← e211]; exact c214a⟩))) | (have nsi : SI sc62 (x1).toInt (y62_3).toInt := (by have hl3 : (y62_3).toInt = y62_3.toInt + 1 := (by (first | have a0 := in_u h1 | (have a0 := h1; unfold In at a0)); (first | have a1 := in_u ro_109_20 | (have a1 := ro_109_20; unfold In at a1)); (first | have a2 := in_u ro_109_19 | (have a2 := ro_109_19; unfold In at a2)); (first | have a3 := in_u i67 | (have a3 := i67; unfold In at a3)); (first | have a4 := in_u i98 | (have a4 := i98; unfold In at a4)); (first | have a5 := in_u j62_3 | (have a5 := j62_3; unfold In at a5)); (first | have a6 := in_u j62_2 | (have a6 := j62_2; unfold In at a6)); (first | have a7 := in_u i76 | (have a7 := i76; unfold In at a7)); have a8 := t_add e76 ro_109_19 i67 rfl; omega); rw [hl3]; exact si_push (s := sc62) (a := y62_5.toNatClampNeg) (m := y62_3.toNatClampNeg) g62_0 (by show ((y62_3.toInt.toNat : Nat) : Int) = _; (first | have a0 := in_u h1 | (have a0 := h1; unfold In at a0)); (first | have a1 := in_u ro_109_20 | (have a1 := ro_109_20; unfold In at a1)); (first | have a2 := in_u ro_109_19 | (have a2 := ro_109_19; unfold In at a2)); (first | have a3 := in_u i67 | (have a3 := i67; unfold In at a3)); (first | have a4 := in_u i98 | (have a4 := i98; unfold In at a4)); (first | have a5 := in_u j62_3 | (have a5 := j62_3; unfold In at a5)); (first | have a6 := in_u j62_2 | (have a6 := j62_2; unfold In at a6)); (first | have a7 := in_u i76 | (have a7 := i76; unfold In at a7)); have a8 := t_add e76 ro_109_19 i67 rfl; omega) (by rw [sI_p rfl, sI_q]) (by rw [sI_q, sI_p rfl]) (by rw [sI_p rfl, sI_p rfl]) (by rw [sI_p rfl, sI_p rfl]) (by rw [sI_p rfl, sI_p rfl]) (by rw [sI_p rfl, sI_p rfl]) rfl rfl rfl i95 (by rw [← e201]; exact c202) (by show y62_5.toInt.toNat < 160; (first | have a0 := in_u h1 | (have a0 := h1; unfold In at a0)); (first | have a1 := in_u ro_109_20 | (have a1 := ro_109_20; unfold In at a1)); (first | have a2 := in_u ro_109_19 | (have a2 := ro_109_19; unfold In at a2)); (first | have a3 := in_u i67 | (have a3 := i67; unfold In at a3)); (first | have a4 := in_u i98 | (have a4 := i98; unfold In at a4)); (first | have a5 := in_u j62_3 | (have a5 := j62_3; unfold In at a5)); (first | have a6 := in_u j62_2 | (have a6 := j62_2; unfold In at a6)); (first | have a7 := in_u i76 | (have a7 := i76; unfold In at a7)); have a8 := t_add e76 ro_109_19 i67 rfl; (first | exact zt_l (by decide) (by omega) | omega)) (Or.inr ⟨by show _ = 200 + ((y62_5.toInt.toNat : Nat) : Int); (first | have a0 := in_u h1 | (have a0 := h1; unfold In at a0)); (first | have a1 := in_u ro_109_20 | (have a1 := ro_109_20; unfold In at a1)); (first | have a2 := in_u ro_109_19 | (have a2 := ro_109_19; unfold In at a2)); (first | have a3 := in_u i67 | (have a3 := i67; unfold In at a3)); (first | have a4 := in_u i98 | (have a4 := i98; unfold In at a4)); (first | have a5 := in_u j62_3 | (have a5 := j62_3; unfold In at a5)); (first | have a6 := in_u j62_2 | (have a6 := j62_2; unfold In at a6)); (first | have a7 := in_u i76 | (have a7 := i76; unfold In at a7)); have a8 := t_add e76 ro_109_19 i67 rfl; omega, by rw [hbs, ← e85]; exact c86, by rw [hbs]; exact e95.symm, by rw [hbs, ← e184, Int32.toInt_inj.mp c187]; exact g62_1, by rw [hbs, ← e184]; exact i184, by rw [← e122]; exact c214a⟩))) | (have nsi : SI sc62 (x1).toInt (y62_3).toInt := (by have hl3 : (y62_3).toInt = y62_3.toInt + 1 := (by (first | have a0 := in_u h1 | (have a0 := h1; unfold In at a0)); (first | have a1 := in_u ro_109_20 | (have a1 := ro_109_20; unfold In at a1)); (first | have a2 := in_u ro_109_19 | (have a2 := ro_109_19; unfold In at a2)); (first | have a3 := in_u i67 | (have a3 := i67; unfold In at a3)); (first | have a4 := in_u i98 | (have a4 := i98; unfold In at a4)); (first | have a5 := in_u j62_3 | (have a5 := j62_3; unfold In at a5)); (first | have a6 := in_u j62_2 | (have a6 := j62_2; unfold In at a6)); (first | have a7 := in_u i76 | (have a7 := i76; unfold In at a7)); have a8 := t_add e76 ro_109_19 i67 rfl; omega); rw [hl3]; exact si_push (s := sc62) (a := y62_5.toNatClampNeg) (m := y62_3.toNatClampNeg) g62_0 (by show ((y62_3.toInt.toNat : Nat) : Int) = _; (first | have a0 := in_u h1 | (have a0 := h1; unfold In at a0)); (first | have a1 := in_u ro_109_20 | (have a1 := ro_109_20; unfold In at a1)); (first | have a2 := in_u ro_109_19 | (have a2 := ro_109_19; unfold In at a2)); (first | have a3 := in_u i67 | (have a3 := i67; unfold In at a3)); (first | have a4 := in_u i98 | (have a4 := i98; unfold In at a4)); (first | have a5 := in_u j62_3 | (have a5 := j62_3; unfold In at a5)); (first | have a6 := in_u j62_2 | (have a6 := j62_2; unfold In at a6)); (first | have a7 := in_u i76 | (have a7 := i76; unfold In at a7)); have a8 := t_add e76 ro_109_19 i67 rfl; omega) (by rw [sI_p rfl, sI_q]) (by rw [sI_q, sI_p rfl]) (by rw [sI_p rfl, sI_p rfl]) (by rw [sI_p rfl, sI_p rfl]) (by rw [sI_p rfl, sI_p rfl]) (by rw [sI_p rfl, sI_p rfl]) rfl rfl rfl i95 (by rw [← e201]; exact c202) (by show y62_5.toInt.toNat < 160; (first | have a0 := in_u h1 | (have a0 := h1; unfold In at a0)); (first | have a1 := in_u ro_109_20 | (have a1 := ro_109_20; unfold In at a1)); (first | have a2 := in_u ro_109_19 | (have a2 := ro_109_19; unfold In at a2)); (first | have a3 := in_u i67 | (have a3 := i67; unfold In at a3)); (first | have a4 := in_u i98 | (have a4 := i98; unfold In at a4)); (first | have a5 := in_u j62_3 | (have a5 := j62_3; unfold In at a5)); (first | have a6 := in_u j62_2 | (have a6 := j62_2; unfold In at a6)); (first | have a7 := in_u i76 | (have a7 := i76; unfold In at a7)); have a8 := t_add e76 ro_109_19 i67 rfl; (first | exact zt_l (by decide) (by omega) | omega)) (Or.inr ⟨by show _ = 200 + ((y62_5.toInt.toNat : Nat) : Int); (first | have a0 := in_u h1 | (have a0 := h1; unfold In at a0)); (first | have a1 := in_u ro_109_20 | (have a1 := ro_109_20; unfold In at a1)); (first | have a2 := in_u ro_109_19 | (have a2 := ro_109_19; unfold In at a2)); (first | have a3 := in_u i67 | (have a3 := i67; unfold In at a3)); (first | have a4 := in_u i98 | (have a4 := i98; unfold In at a4)); (first | have a5 := in_u j62_3 | (have a5 := j62_3; unfold In at a5)); (first | have a6 := in_u j62_2 | (have a6 := j62_2; unfold In at a6)); (first | have a7 := in_u i76 | (have a7 := i76; unfold In at a7)); have a8 := t_add e76 ro_109_19 i67 rfl; omega, by rw [hbs, ← e85]; exact c86, by rw [hbs]; exact e95.symm, by rw [hbs, ← e111, Int32.toInt_inj.mp c187]; exact g62_1, by rw [hbs, ← e111]; exact i111, by rw [← e211]; exact c214a⟩))) | (have nsi : SI sc62 (x1).toInt (y62_3).toInt := (by have hl3 : (y62_3).toInt = y62_3.toInt + 1 := (by (first | have a0 := in_u h1 | (have a0 := h1; unfold In at a0)); (first | have a1 := in_u ro_109_20 | (have a1 := ro_109_20; unfold In at a1)); (first | have a2 := in_u ro_109_19 | (have a2 := ro_109_19; unfold In at a2)); (first | have a3 := in_u i67 | (have a3 := i67; unfold In at a3)); (first | have a4 := in_u i98 | (have a4 := i98; unfold In at a4)); (first | have a5 := in_u j62_3 | (have a5 := j62_3; unfold In at a5)); (first | have a6 := in_u j62_2 | (have a6 := j62_2; unfold In at a6)); (first | have a7 := in_u i76 | (have a7 := i76; unfold In at a7)); have a8 := t_add e76 ro_109_19 i67 rfl; omega); rw [hl3]; exact si_push (s := sc62) (a := y62_5.toNatClampNeg) (m := y62_3.toNatClampNeg) g62_0 (by show ((y62_3.toInt.toNat : Nat) : Int) = _; (first | have a0 := in_u h1 | (have a0 := h1; unfold In at a0)); (first | have a1 := in_u ro_109_20 | (have a1 := ro_109_20; unfold In at a1)); (first | have a2 := in_u ro_109_19 | (have a2 := ro_109_19; unfold In at a2)); (first | have a3 := in_u i67 | (have a3 := i67; unfold In at a3)); (first | have a4 := in_u i98 | (have a4 := i98; unfold In at a4)); (first | have a5 := in_u j62_3 | (have a5 := j62_3; unfold In at a5)); (first | have a6 := in_u j62_2 | (have a6 := j62_2; unfold In at a6)); (first | have a7 := in_u i76 | (have a7 := i76; unfold In at a7)); have a8 := t_add e76 ro_109_19 i67 rfl; omega) (by rw [sI_p rfl, sI_q]) (by rw [sI_q, sI_p rfl]) (by rw [sI_p rfl, sI_p rfl]) (by rw [sI_p rfl, sI_p rfl]) (by rw [sI_p rfl, sI_p rfl]) (by rw [sI_p rfl, sI_p rfl]) rfl rfl rfl i95 (by rw [← e201]; exact c202) (by show y62_5.toInt.toNat < 160; (first | have a0 := in_u h1 | (have a0 := h1; unfold In at a0)); (first | have a1 := in_u ro_109_20 | (have a1 := ro_109_20; unfold In at a1)); (first | have a2 := in_u ro_109_19 | (have a2 := ro_109_19; unfold In at a2)); (first | have a3 := in_u i67 | (have a3 := i67; unfold In at a3)); (first | have a4 := in_u i98 | (have a4 := i98; unfold In at a4)); (first | have a5 := in_u j62_3 | (have a5 := j62_3; unfold In at a5)); (first | have a6 := in_u j62_2 | (have a6 := j62_2; unfold In at a6)); (first | have a7 := in_u i76 | (have a7 := i76; unfold In at a7)); have a8 := t_add e76 ro_109_19 i67 rfl; (first | exact zt_l (by decide) (by omega) | omega)) (Or.inr ⟨by show _ = 200 + ((y62_5.toInt.toNat : Nat) : Int); (first | have a0 := in_u h1 | (have a0 := h1; unfold In at a0)); (first | have a1 := in_u ro_109_20 | (have a1 := ro_109_20; unfold In at a1)); (first | have a2 := in_u ro_109_19 | (have a2 := ro_109_19; unfold In at a2)); (first | have a3 := in_u i67 | (have a3 := i67; unfold In at a3)); (first | have a4 := in_u i98 | (have a4 := i98; unfold In at a4)); (first | have a5 := in_u j62_3 | (have a5 := j62_3; unfold In at a5)); (first | have a6 := in_u j62_2 | (have a6 := j62_2; unfold In at a6)); (first | have a7 := in_u i76 | (have a7 := i76; unfold In at a7)); have a8 := t_add e76 ro_109_19 i67 rfl; omega, by rw [hbs, ← e85]; exact c86, by rw [hbs]; exact e95.symm, by rw [hbs, ← e111, Int32.toInt_inj.mp c187]; exact g62_1, by rw [hbs, ← e111]; exact i111, by rw [← e122]; exact c214a⟩))) | skip
                      refine g_iinc 254 (gd rfl) rfl rfl (Nat.le_of_ble_eq_true rfl) (fun z251 e251 => ?_)
                      have i251 := in_add 1 160 e251 i67 (in_c 1 rfl) rfl rfl
                      refine g_goto 62 (gd rfl) rfl ?_
                      have n62 : (y62_2).toInt = y43_2.toInt + 1 := by first | exact n62_0 | ((first | have a0 := in_u h1 | (have a0 := h1; unfold In at a0)); (first | have a1 := in_u ro_109_20 | (have a1 := ro_109_20; unfold In at a1)); (first | have a2 := in_u ro_109_19 | (have a2 := ro_109_19; unfold In at a2)); (first | have a3 := in_u i67 | (have a3 := i67; unfold In at a3)); (first | have a4 := in_u i98 | (have a4 := i98; unfold In at a4)); (first | have a5 := in_u j62_3 | (have a5 := j62_3; unfold In at a5)); (first | have a6 := in_u j62_2 | (have a6 := j62_2; unfold In at a6)); (first | have a7 := in_u i76 | (have a7 := i76; unfold In at a7)); have a8 := t_add e76 ro_109_19 i67 rfl; (first | have a9 := in_u i251 | (have a9 := i251; unfold In at a9)); have a10 := t_add e251 i67 (in_c 1 rfl) rfl; (first | have a11 := in_u ((in_c 1 rfl)) | (have a11 := (in_c 1 rfl); unfold In at a11)); omega)
                      have n62a : (y62_2).toInt ≤ (y62_3).toInt := by first | exact n62_1 | ((first | have a0 := in_u h1 | (have a0 := h1; unfold In at a0)); (first | have a1 := in_u ro_109_20 | (have a1 := ro_109_20; unfold In at a1)); (first | have a2 := in_u ro_109_19 | (have a2 := ro_109_19; unfold In at a2)); (first | have a3 := in_u i67 | (have a3 := i67; unfold In at a3)); (first | have a4 := in_u i98 | (have a4 := i98; unfold In at a4)); (first | have a5 := in_u j62_3 | (have a5 := j62_3; unfold In at a5)); (first | have a6 := in_u j62_2 | (have a6 := j62_2; unfold In at a6)); (first | have a7 := in_u i76 | (have a7 := i76; unfold In at a7)); have a8 := t_add e76 ro_109_19 i67 rfl; (first | have a9 := in_u i251 | (have a9 := i251; unfold In at a9)); have a10 := t_add e251 i67 (in_c 1 rfl) rfl; (first | have a11 := in_u ((in_c 1 rfl)) | (have a11 := (in_c 1 rfl); unfold In at a11)); omega)
                      have n62b : SI sc62 (x1).toInt (y62_3).toInt := by first | exact g43_0 | exact g62_0 | exact nsi
                      have n62c : 0 ≤ (sc62.1 148 (y62_4).toNatClampNeg).toInt := by first | exact g62_1 | (first | exact g62_1 | (have h := g43_0.2.2.1 y43_2.toNatClampNeg (by show ((y43_2.toInt.toNat : Nat) : Int) < _; (first | have a0 := in_u h1 | (have a0 := h1; unfold In at a0)); (first | have a1 := in_u ro_109_20 | (have a1 := ro_109_20; unfold In at a1)); (first | have a2 := in_u ro_109_19 | (have a2 := ro_109_19; unfold In at a2)); (first | have a3 := in_u i67 | (have a3 := i67; unfold In at a3)); (first | have a4 := in_u i98 | (have a4 := i98; unfold In at a4)); (first | have a5 := in_u j62_3 | (have a5 := j62_3; unfold In at a5)); (first | have a6 := in_u j62_2 | (have a6 := j62_2; unfold In at a6)); (first | have a7 := in_u i76 | (have a7 := i76; unfold In at a7)); have a8 := t_add e76 ro_109_19 i67 rfl; (first | have a9 := in_u i251 | (have a9 := i251; unfold In at a9)); have a10 := t_add e251 i67 (in_c 1 rfl) rfl; (first | have a11 := in_u ((in_c 1 rfl)) | (have a11 := (in_c 1 rfl); unfold In at a11)); omega); rw [← e53] at h; exact h.2) | (rw [sI_p rfl, sI_q]; exact up_ge g62_1 (by (first | have a0 := in_u h1 | (have a0 := h1; unfold In at a0)); (first | have a1 := in_u ro_109_20 | (have a1 := ro_109_20; unfold In at a1)); (first | have a2 := in_u ro_109_19 | (have a2 := ro_109_19; unfold In at a2)); (first | have a3 := in_u i67 | (have a3 := i67; unfold In at a3)); (first | have a4 := in_u i98 | (have a4 := i98; unfold In at a4)); (first | have a5 := in_u j62_3 | (have a5 := j62_3; unfold In at a5)); (first | have a6 := in_u j62_2 | (have a6 := j62_2; unfold In at a6)); (first | have a7 := in_u i76 | (have a7 := i76; unfold In at a7)); have a8 := t_add e76 ro_109_19 i67 rfl; (first | have a9 := in_u i251 | (have a9 := i251; unfold In at a9)); have a10 := t_add e251 i67 (in_c 1 rfl) rfl; (first | have a11 := in_u ((in_c 1 rfl)) | (have a11 := (in_c 1 rfl); unfold In at a11)); omega)))
                      exact gg_w (by first | exact Nat.le_add_right _ _ | exact gw2 | exact gw3 | exact gwe rfl | exact gwf rfl | exact gwg rfl | exact gwh rfl | omega) (gg_f (gf_cons rfl (gf_cons rfl (gf_cons rfl (gf_cons rfl (gf_cons rfl (gf_cons rfl gf_nil)))))) (ih62 sc62 y62_2 y62_3 y62_4 z251 hIc62 hFc62 (in_w 1 32 j62_2 rfl) (in_w 0 32 j62_3 rfl) (in_w 0 1951 i98 rfl) (in_w 0 160 i251 rfl) n62 n62a n62b n62c (m_up mm62 (t_add e251 i67 (in_c 1 rfl) rfl) (in_w 1 1 (in_c 1 rfl) rfl))))
                    · skip
                      refine g_aload_n 191 (gd rfl) rfl rfl ?_
                      refine g_getA (q2 := 148) 194 (gd rfl) rfl rfl rfl rfl ?_
                      refine g_aload_n 195 (gd rfl) rfl rfl ?_
                      refine g_getA (q2 := 113) 198 (gd rfl) rfl rfl rfl rfl ?_
                      refine g_iload 200 (gd rfl) rfl rfl ?_
                      refine g_iaload 201 (gd rfl) rfl (n := 480) rfl (in_ix i76 rfl) (fun z200 e200 => ?_)
                      have q200 : z95 = z200 := (e95).trans e200.symm
                      subst q200
                      refine g_iaload 202 (gd rfl) rfl (n := 34) rfl (in_ix i95 rfl) (fun z201 e201 => ?_)
                      have i201 := inv_I hIc62 (n := 34) (t := 0) (-1) 1000 rfl (in_ix i95 rfl) rfl e201
                      refine g_if_ge 205 251 (gd rfl) rfl rfl (fun c202 => ?_) (fun c202 => ?_)
                      · skip
                        have i202 := z_ge 0 1000 c202 i201 rfl
                        first | (have nsi : SI sc62 (x1).toInt (y62_3).toInt := (by have hl3 : (y62_3).toInt = y62_3.toInt + 1 := (by (first | have a0 := in_u h1 | (have a0 := h1; unfold In at a0)); (first | have a1 := in_u ro_109_20 | (have a1 := ro_109_20; unfold In at a1)); (first | have a2 := in_u ro_109_19 | (have a2 := ro_109_19; unfold In at a2)); (first | have a3 := in_u i67 | (have a3 := i67; unfold In at a3)); (first | have a4 := in_u i98 | (have a4 := i98; unfold In at a4)); (first | have a5 := in_u j62_3 | (have a5 := j62_3; unfold In at a5)); (first | have a6 := in_u j62_2 | (have a6 := j62_2; unfold In at a6)); (first | have a7 := in_u i76 | (have a7 := i76; unfold In at a7)); have a8 := t_add e76 ro_109_19 i67 rfl; omega); rw [hl3]; exact si_push (s := sc62) (a := y62_5.toNatClampNeg) (m := y62_3.toNatClampNeg) g62_0 (by show ((y62_3.toInt.toNat : Nat) : Int) = _; (first | have a0 := in_u h1 | (have a0 := h1; unfold In at a0)); (first | have a1 := in_u ro_109_20 | (have a1 := ro_109_20; unfold In at a1)); (first | have a2 := in_u ro_109_19 | (have a2 := ro_109_19; unfold In at a2)); (first | have a3 := in_u i67 | (have a3 := i67; unfold In at a3)); (first | have a4 := in_u i98 | (have a4 := i98; unfold In at a4)); (first | have a5 := in_u j62_3 | (have a5 := j62_3; unfold In at a5)); (first | have a6 := in_u j62_2 | (have a6 := j62_2; unfold In at a6)); (first | have a7 := in_u i76 | (have a7 := i76; unfold In at a7)); have a8 := t_add e76 ro_109_19 i67 rfl; omega) (by rw [sI_p rfl, sI_q]) (by rw [sI_q, sI_p rfl]) (by rw [sI_p rfl, sI_p rfl]) (by rw [sI_p rfl, sI_p rfl]) (by rw [sI_p rfl, sI_p rfl]) (by rw [sI_p rfl, sI_p rfl]) rfl rfl rfl i111 (by rw [← e112]; exact c113) (by show y62_5.toInt.toNat < 160; (first | have a0 := in_u h1 | (have a0 := h1; unfold In at a0)); (first | have a1 := in_u ro_109_20 | (have a1 := ro_109_20; unfold In at a1)); (first | have a2 := in_u ro_109_19 | (have a2 := ro_109_19; unfold In at a2)); (first | have a3 := in_u i67 | (have a3 := i67; unfold In at a3)); (first | have a4 := in_u i98 | (have a4 := i98; unfold In at a4)); (first | have a5 := in_u j62_3 | (have a5 := j62_3; unfold In at a5)); (first | have a6 := in_u j62_2 | (have a6 := j62_2; unfold In at a6)); (first | have a7 := in_u i76 | (have a7 := i76; unfold In at a7)); have a8 := t_add e76 ro_109_19 i67 rfl; (first | exact zt_l (by decide) (by omega) | omega)) (Or.inl ⟨by show _ = ((y62_5.toInt.toNat : Nat) : Int); (first | have a0 := in_u h1 | (have a0 := h1; unfold In at a0)); (first | have a1 := in_u ro_109_20 | (have a1 := ro_109_20; unfold In at a1)); (first | have a2 := in_u ro_109_19 | (have a2 := ro_109_19; unfold In at a2)); (first | have a3 := in_u i67 | (have a3 := i67; unfold In at a3)); (first | have a4 := in_u i98 | (have a4 := i98; unfold In at a4)); (first | have a5 := in_u j62_3 | (have a5 := j62_3; unfold In at a5)); (first | have a6 := in_u j62_2 | (have a6 := j62_2; unfold In at a6)); (first | have a7 := in_u i76 | (have a7 := i76; unfold In at a7)); have a8 := t_add e76 ro_109_19 i67 rfl; omega, by rw [hbs, ← e85]; exact c86, by rw [hbs]; exact e111.symm, by rw [hbs, ← e95, Int32.toInt_inj.mp c98]; exact g62_1, by rw [hbs, ← e95]; exact i95, by rw [hbs, ← e122, ← e129, ← tx_i2l e130]; exact c132a⟩))) | (have nsi : SI sc62 (x1).toInt (y62_3).toInt := (by have hl3 : (y62_3).toInt = y62_3.toInt + 1 := (by (first | have a0 := in_u h1 | (have a0 := h1; unfold In at a0)); (first | have a1 := in_u ro_109_20 | (have a1 := ro_109_20; unfold In at a1)); (first | have a2 := in_u ro_109_19 | (have a2 := ro_109_19; unfold In at a2)); (first | have a3 := in_u i67 | (have a3 := i67; unfold In at a3)); (first | have a4 := in_u i98 | (have a4 := i98; unfold In at a4)); (first | have a5 := in_u j62_3 | (have a5 := j62_3; unfold In at a5)); (first | have a6 := in_u j62_2 | (have a6 := j62_2; unfold In at a6)); (first | have a7 := in_u i76 | (have a7 := i76; unfold In at a7)); have a8 := t_add e76 ro_109_19 i67 rfl; omega); rw [hl3]; exact si_push (s := sc62) (a := y62_5.toNatClampNeg) (m := y62_3.toNatClampNeg) g62_0 (by show ((y62_3.toInt.toNat : Nat) : Int) = _; (first | have a0 := in_u h1 | (have a0 := h1; unfold In at a0)); (first | have a1 := in_u ro_109_20 | (have a1 := ro_109_20; unfold In at a1)); (first | have a2 := in_u ro_109_19 | (have a2 := ro_109_19; unfold In at a2)); (first | have a3 := in_u i67 | (have a3 := i67; unfold In at a3)); (first | have a4 := in_u i98 | (have a4 := i98; unfold In at a4)); (first | have a5 := in_u j62_3 | (have a5 := j62_3; unfold In at a5)); (first | have a6 := in_u j62_2 | (have a6 := j62_2; unfold In at a6)); (first | have a7 := in_u i76 | (have a7 := i76; unfold In at a7)); have a8 := t_add e76 ro_109_19 i67 rfl; omega) (by rw [sI_p rfl, sI_q]) (by rw [sI_q, sI_p rfl]) (by rw [sI_p rfl, sI_p rfl]) (by rw [sI_p rfl, sI_p rfl]) (by rw [sI_p rfl, sI_p rfl]) (by rw [sI_p rfl, sI_p rfl]) rfl rfl rfl i95 (by rw [← e201]; exact c202) (by show y62_5.toInt.toNat < 160; (first | have a0 := in_u h1 | (have a0 := h1; unfold In at a0)); (first | have a1 := in_u ro_109_20 | (have a1 := ro_109_20; unfold In at a1)); (first | have a2 := in_u ro_109_19 | (have a2 := ro_109_19; unfold In at a2)); (first | have a3 := in_u i67 | (have a3 := i67; unfold In at a3)); (first | have a4 := in_u i98 | (have a4 := i98; unfold In at a4)); (first | have a5 := in_u j62_3 | (have a5 := j62_3; unfold In at a5)); (first | have a6 := in_u j62_2 | (have a6 := j62_2; unfold In at a6)); (first | have a7 := in_u i76 | (have a7 := i76; unfold In at a7)); have a8 := t_add e76 ro_109_19 i67 rfl; (first | exact zt_l (by decide) (by omega) | omega)) (Or.inr ⟨by show _ = 200 + ((y62_5.toInt.toNat : Nat) : Int); (first | have a0 := in_u h1 | (have a0 := h1; unfold In at a0)); (first | have a1 := in_u ro_109_20 | (have a1 := ro_109_20; unfold In at a1)); (first | have a2 := in_u ro_109_19 | (have a2 := ro_109_19; unfold In at a2)); (first | have a3 := in_u i67 | (have a3 := i67; unfold In at a3)); (first | have a4 := in_u i98 | (have a4 := i98; unfold In at a4)); (first | have a5 := in_u j62_3 | (have a5 := j62_3; unfold In at a5)); (first | have a6 := in_u j62_2 | (have a6 := j62_2; unfold In at a6)); (first | have a7 := in_u i76 | (have a7 := i76; unfold In at a7)); have a8 := t_add e76 ro_109_19 i67 rfl; omega, by rw [hbs, ← e85]; exact c86, by rw [hbs]; exact e95.symm, by rw [hbs, ← e184, Int32.toInt_inj.mp c187]; exact g62_1, by rw [hbs, ← e184]; exact i184, by rw [← e211]; exact c214a⟩))) | (have nsi : SI sc62 (x1).toInt (y62_3).toInt := (by have hl3 : (y62_3).toInt = y62_3.toInt + 1 := (by (first | have a0 := in_u h1 | (have a0 := h1; unfold In at a0)); (first | have a1 := in_u ro_109_20 | (have a1 := ro_109_20; unfold In at a1)); (first | have a2 := in_u ro_109_19 | (have a2 := ro_109_19; unfold In at a2)); (first | have a3 := in_u i67 | (have a3 := i67; unfold In at a3)); (first | have a4 := in_u i98 | (have a4 := i98; unfold In at a4)); (first | have a5 := in_u j62_3 | (have a5 := j62_3; unfold In at a5)); (first | have a6 := in_u j62_2 | (have a6 := j62_2; unfold In at a6)); (first | have a7 := in_u i76 | (have a7 := i76; unfold In at a7)); have a8 := t_add e76 ro_109_19 i67 rfl; omega); rw [hl3]; exact si_push (s := sc62) (a := y62_5.toNatClampNeg) (m := y62_3.toNatClampNeg) g62_0 (by show ((y62_3.toInt.toNat : Nat) : Int) = _; (first | have a0 := in_u h1 | (have a0 := h1; unfold In at a0)); (first | have a1 := in_u ro_109_20 | (have a1 := ro_109_20; unfold In at a1)); (first | have a2 := in_u ro_109_19 | (have a2 := ro_109_19; unfold In at a2)); (first | have a3 := in_u i67 | (have a3 := i67; unfold In at a3)); (first | have a4 := in_u i98 | (have a4 := i98; unfold In at a4)); (first | have a5 := in_u j62_3 | (have a5 := j62_3; unfold In at a5)); (first | have a6 := in_u j62_2 | (have a6 := j62_2; unfold In at a6)); (first | have a7 := in_u i76 | (have a7 := i76; unfold In at a7)); have a8 := t_add e76 ro_109_19 i67 rfl; omega) (by rw [sI_p rfl, sI_q]) (by rw [sI_q, sI_p rfl]) (by rw [sI_p rfl, sI_p rfl]) (by rw [sI_p rfl, sI_p rfl]) (by rw [sI_p rfl, sI_p rfl]) (by rw [sI_p rfl, sI_p rfl]) rfl rfl rfl i95 (by rw [← e201]; exact c202) (by show y62_5.toInt.toNat < 160; (first | have a0 := in_u h1 | (have a0 := h1; unfold In at a0)); (first | have a1 := in_u ro_109_20 | (have a1 := ro_109_20; unfold In at a1)); (first | have a2 := in_u ro_109_19 | (have a2 := ro_109_19; unfold In at a2)); (first | have a3 := in_u i67 | (have a3 := i67; unfold In at a3)); (first | have a4 := in_u i98 | (have a4 := i98; unfold In at a4)); (first | have a5 := in_u j62_3 | (have a5 := j62_3; unfold In at a5)); (first | have a6 := in_u j62_2 | (have a6 := j62_2; unfold In at a6)); (first | have a7 := in_u i76 | (have a7 := i76; unfold In at a7)); have a8 := t_add e76 ro_109_19 i67 rfl; (first | exact zt_l (by decide) (by omega) | omega)) (Or.inr ⟨by show _ = 200 + ((y62_5.toInt.toNat : Nat) : Int); (first | have a0 := in_u h1 | (have a0 := h1; unfold In at a0)); (first | have a1 := in_u ro_109_20 | (have a1 := ro_109_20; unfold In at a1)); (first | have a2 := in_u ro_109_19 | (have a2 := ro_109_19; unfold In at a2)); (first | have a3 := in_u i67 | (have a3 := i67; unfold In at a3)); (first | have a4 := in_u i98 | (have a4 := i98; unfold In at a4)); (first | have a5 := in_u j62_3 | (have a5 := j62_3; unfold In at a5)); (first | have a6 := in_u j62_2 | (have a6 := j62_2; unfold In at a6)); (first | have a7 := in_u i76 | (have a7 := i76; unfold In at a7)); have a8 := t_add e76 ro_109_19 i67 rfl; omega, by rw [hbs, ← e85]; exact c86, by rw [hbs]; exact e95.symm, by rw [hbs, ← e184, Int32.toInt_inj.mp c187]; exact g62_1, by rw [hbs, ← e184]; exact i184, by rw [← e122]; exact c214a⟩))) | (have nsi : SI sc62 (x1).toInt (y62_3).toInt := (by have hl3 : (y62_3).toInt = y62_3.toInt + 1 := (by (first | have a0 := in_u h1 | (have a0 := h1; unfold In at a0)); (first | have a1 := in_u ro_109_20 | (have a1 := ro_109_20; unfold In at a1)); (first | have a2 := in_u ro_109_19 | (have a2 := ro_109_19; unfold In at a2)); (first | have a3 := in_u i67 | (have a3 := i67; unfold In at a3)); (first | have a4 := in_u i98 | (have a4 := i98; unfold In at a4)); (first | have a5 := in_u j62_3 | (have a5 := j62_3; unfold In at a5)); (first | have a6 := in_u j62_2 | (have a6 := j62_2; unfold In at a6)); (first | have a7 := in_u i76 | (have a7 := i76; unfold In at a7)); have a8 := t_add e76 ro_109_19 i67 rfl; omega); rw [hl3]; exact si_push (s := sc62) (a := y62_5.toNatClampNeg) (m := y62_3.toNatClampNeg) g62_0 (by show ((y62_3.toInt.toNat : Nat) : Int) = _; (first | have a0 := in_u h1 | (have a0 := h1; unfold In at a0)); (first | have a1 := in_u ro_109_20 | (have a1 := ro_109_20; unfold In at a1)); (first | have a2 := in_u ro_109_19 | (have a2 := ro_109_19; unfold In at a2)); (first | have a3 := in_u i67 | (have a3 := i67; unfold In at a3)); (first | have a4 := in_u i98 | (have a4 := i98; unfold In at a4)); (first | have a5 := in_u j62_3 | (have a5 := j62_3; unfold In at a5)); (first | have a6 := in_u j62_2 | (have a6 := j62_2; unfold In at a6)); (first | have a7 := in_u i76 | (have a7 := i76; unfold In at a7)); have a8 := t_add e76 ro_109_19 i67 rfl; omega) (by rw [sI_p rfl, sI_q]) (by rw [sI_q, sI_p rfl]) (by rw [sI_p rfl, sI_p rfl]) (by rw [sI_p rfl, sI_p rfl]) (by rw [sI_p rfl, sI_p rfl]) (by rw [sI_p rfl, sI_p rfl]) rfl rfl rfl i95 (by rw [← e201]; exact c202) (by show y62_5.toInt.toNat < 160; (first | have a0 := in_u h1 | (have a0 := h1; unfold In at a0)); (first | have a1 := in_u ro_109_20 | (have a1 := ro_109_20; unfold In at a1)); (first | have a2 := in_u ro_109_19 | (have a2 := ro_109_19; unfold In at a2)); (first | have a3 := in_u i67 | (have a3 := i67; unfold In at a3)); (first | have a4 := in_u i98 | (have a4 := i98; unfold In at a4)); (first | have a5 := in_u j62_3 | (have a5 := j62_3; unfold In at a5)); (first | have a6 := in_u j62_2 | (have a6 := j62_2; unfold In at a6)); (first | have a7 := in_u i76 | (have a7 := i76; unfold In at a7)); have a8 := t_add e76 ro_109_19 i67 rfl; (first | exact zt_l (by decide) (by omega) | omega)) (Or.inr ⟨by show _ = 200 + ((y62_5.toInt.toNat : Nat) : Int); (first | have a0 := in_u h1 | (have a0 := h1; unfold In at a0)); (first | have a1 := in_u ro_109_20 | (have a1 := ro_109_20; unfold In at a1)); (first | have a2 := in_u ro_109_19 | (have a2 := ro_109_19; unfold In at a2)); (first | have a3 := in_u i67 | (have a3 := i67; unfold In at a3)); (first | have a4 := in_u i98 | (have a4 := i98; unfold In at a4)); (first | have a5 := in_u j62_3 | (have a5 := j62_3; unfold In at a5)); (first | have a6 := in_u j62_2 | (have a6 := j62_2; unfold In at a6)); (first | have a7 := in_u i76 | (have a7 := i76; unfold In at a7)); have a8 := t_add e76 ro_109_19 i67 rfl; omega, by rw [hbs, ← e85]; exact c86, by rw [hbs]; exact e95.symm, by rw [hbs, ← e111, Int32.toInt_inj.mp c187]; exact g62_1, by rw [hbs, ← e111]; exact i111, by rw [← e211]; exact c214a⟩))) | (have nsi : SI sc62 (x1).toInt (y62_3).toInt := (by have hl3 : (y62_3).toInt = y62_3.toInt + 1 := (by (first | have a0 := in_u h1 | (have a0 := h1; unfold In at a0)); (first | have a1 := in_u ro_109_20 | (have a1 := ro_109_20; unfold In at a1)); (first | have a2 := in_u ro_109_19 | (have a2 := ro_109_19; unfold In at a2)); (first | have a3 := in_u i67 | (have a3 := i67; unfold In at a3)); (first | have a4 := in_u i98 | (have a4 := i98; unfold In at a4)); (first | have a5 := in_u j62_3 | (have a5 := j62_3; unfold In at a5)); (first | have a6 := in_u j62_2 | (have a6 := j62_2; unfold In at a6)); (first | have a7 := in_u i76 | (have a7 := i76; unfold In at a7)); have a8 := t_add e76 ro_109_19 i67 rfl; omega); rw [hl3]; exact si_push (s := sc62) (a := y62_5.toNatClampNeg) (m := y62_3.toNatClampNeg) g62_0 (by show ((y62_3.toInt.toNat : Nat) : Int) = _; (first | have a0 := in_u h1 | (have a0 := h1; unfold In at a0)); (first | have a1 := in_u ro_109_20 | (have a1 := ro_109_20; unfold In at a1)); (first | have a2 := in_u ro_109_19 | (have a2 := ro_109_19; unfold In at a2)); (first | have a3 := in_u i67 | (have a3 := i67; unfold In at a3)); (first | have a4 := in_u i98 | (have a4 := i98; unfold In at a4)); (first | have a5 := in_u j62_3 | (have a5 := j62_3; unfold In at a5)); (first | have a6 := in_u j62_2 | (have a6 := j62_2; unfold In at a6)); (first | have a7 := in_u i76 | (have a7 := i76; unfold In at a7)); have a8 := t_add e76 ro_109_19 i67 rfl; omega) (by rw [sI_p rfl, sI_q]) (by rw [sI_q, sI_p rfl]) (by rw [sI_p rfl, sI_p rfl]) (by rw [sI_p rfl, sI_p rfl]) (by rw [sI_p rfl, sI_p rfl]) (by rw [sI_p rfl, sI_p rfl]) rfl rfl rfl i95 (by rw [← e201]; exact c202) (by show y62_5.toInt.toNat < 160; (first | have a0 := in_u h1 | (have a0 := h1; unfold In at a0)); (first | have a1 := in_u ro_109_20 | (have a1 := ro_109_20; unfold In at a1)); (first | have a2 := in_u ro_109_19 | (have a2 := ro_109_19; unfold In at a2)); (first | have a3 := in_u i67 | (have a3 := i67; unfold In at a3)); (first | have a4 := in_u i98 | (have a4 := i98; unfold In at a4)); (first | have a5 := in_u j62_3 | (have a5 := j62_3; unfold In at a5)); (first | have a6 := in_u j62_2 | (have a6 := j62_2; unfold In at a6)); (first | have a7 := in_u i76 | (have a7 := i76; unfold In at a7)); have a8 := t_add e76 ro_109_19 i67 rfl; (first | exact zt_l (by decide) (by omega) | omega)) (Or.inr ⟨by show _ = 200 + ((y62_5.toInt.toNat : Nat) : Int); (first | have a0 := in_u h1 | (have a0 := h1; unfold In at a0)); (first | have a1 := in_u ro_109_20 | (have a1 := ro_109_20; unfold In at a1)); (first | have a2 := in_u ro_109_19 | (have a2 := ro_109_19; unfold In at a2)); (first | have a3 := in_u i67 | (have a3 := i67; unfold In at a3)); (first | have a4 := in_u i98 | (have a4 := i98; unfold In at a4)); (first | have a5 := in_u j62_3 | (have a5 := j62_3; unfold In at a5)); (first | have a6 := in_u j62_2 | (have a6 := j62_2; unfold In at a6)); (first | have a7 := in_u i76 | (have a7 := i76; unfold In at a7)); have a8 := t_add e76 ro_109_19 i67 rfl; omega, by rw [hbs, ← e85]; exact c86, by rw [hbs]; exact e95.symm, by rw [hbs, ← e111, Int32.toInt_inj.mp c187]; exact g62_1, by rw [hbs, ← e111]; exact i111, by rw [← e122]; exact c214a⟩))) | skip
                        refine g_iinc 254 (gd rfl) rfl rfl (Nat.le_of_ble_eq_true rfl) (fun z251 e251 => ?_)
                        have i251 := in_add 1 160 e251 i67 (in_c 1 rfl) rfl rfl
                        refine g_goto 62 (gd rfl) rfl ?_
                        have n62 : (y62_2).toInt = y43_2.toInt + 1 := by first | exact n62_0 | ((first | have a0 := in_u h1 | (have a0 := h1; unfold In at a0)); (first | have a1 := in_u ro_109_20 | (have a1 := ro_109_20; unfold In at a1)); (first | have a2 := in_u ro_109_19 | (have a2 := ro_109_19; unfold In at a2)); (first | have a3 := in_u i67 | (have a3 := i67; unfold In at a3)); (first | have a4 := in_u i98 | (have a4 := i98; unfold In at a4)); (first | have a5 := in_u j62_3 | (have a5 := j62_3; unfold In at a5)); (first | have a6 := in_u j62_2 | (have a6 := j62_2; unfold In at a6)); (first | have a7 := in_u i76 | (have a7 := i76; unfold In at a7)); have a8 := t_add e76 ro_109_19 i67 rfl; (first | have a9 := in_u i251 | (have a9 := i251; unfold In at a9)); have a10 := t_add e251 i67 (in_c 1 rfl) rfl; (first | have a11 := in_u ((in_c 1 rfl)) | (have a11 := (in_c 1 rfl); unfold In at a11)); omega)
                        have n62a : (y62_2).toInt ≤ (y62_3).toInt := by first | exact n62_1 | ((first | have a0 := in_u h1 | (have a0 := h1; unfold In at a0)); (first | have a1 := in_u ro_109_20 | (have a1 := ro_109_20; unfold In at a1)); (first | have a2 := in_u ro_109_19 | (have a2 := ro_109_19; unfold In at a2)); (first | have a3 := in_u i67 | (have a3 := i67; unfold In at a3)); (first | have a4 := in_u i98 | (have a4 := i98; unfold In at a4)); (first | have a5 := in_u j62_3 | (have a5 := j62_3; unfold In at a5)); (first | have a6 := in_u j62_2 | (have a6 := j62_2; unfold In at a6)); (first | have a7 := in_u i76 | (have a7 := i76; unfold In at a7)); have a8 := t_add e76 ro_109_19 i67 rfl; (first | have a9 := in_u i251 | (have a9 := i251; unfold In at a9)); have a10 := t_add e251 i67 (in_c 1 rfl) rfl; (first | have a11 := in_u ((in_c 1 rfl)) | (have a11 := (in_c 1 rfl); unfold In at a11)); omega)
                        have n62b : SI sc62 (x1).toInt (y62_3).toInt := by first | exact g43_0 | exact g62_0 | exact nsi
                        have n62c : 0 ≤ (sc62.1 148 (y62_4).toNatClampNeg).toInt := by first | exact g62_1 | (first | exact g62_1 | (have h := g43_0.2.2.1 y43_2.toNatClampNeg (by show ((y43_2.toInt.toNat : Nat) : Int) < _; (first | have a0 := in_u h1 | (have a0 := h1; unfold In at a0)); (first | have a1 := in_u ro_109_20 | (have a1 := ro_109_20; unfold In at a1)); (first | have a2 := in_u ro_109_19 | (have a2 := ro_109_19; unfold In at a2)); (first | have a3 := in_u i67 | (have a3 := i67; unfold In at a3)); (first | have a4 := in_u i98 | (have a4 := i98; unfold In at a4)); (first | have a5 := in_u j62_3 | (have a5 := j62_3; unfold In at a5)); (first | have a6 := in_u j62_2 | (have a6 := j62_2; unfold In at a6)); (first | have a7 := in_u i76 | (have a7 := i76; unfold In at a7)); have a8 := t_add e76 ro_109_19 i67 rfl; (first | have a9 := in_u i251 | (have a9 := i251; unfold In at a9)); have a10 := t_add e251 i67 (in_c 1 rfl) rfl; (first | have a11 := in_u ((in_c 1 rfl)) | (have a11 := (in_c 1 rfl); unfold In at a11)); omega); rw [← e53] at h; exact h.2) | (rw [sI_p rfl, sI_q]; exact up_ge g62_1 (by (first | have a0 := in_u h1 | (have a0 := h1; unfold In at a0)); (first | have a1 := in_u ro_109_20 | (have a1 := ro_109_20; unfold In at a1)); (first | have a2 := in_u ro_109_19 | (have a2 := ro_109_19; unfold In at a2)); (first | have a3 := in_u i67 | (have a3 := i67; unfold In at a3)); (first | have a4 := in_u i98 | (have a4 := i98; unfold In at a4)); (first | have a5 := in_u j62_3 | (have a5 := j62_3; unfold In at a5)); (first | have a6 := in_u j62_2 | (have a6 := j62_2; unfold In at a6)); (first | have a7 := in_u i76 | (have a7 := i76; unfold In at a7)); have a8 := t_add e76 ro_109_19 i67 rfl; (first | have a9 := in_u i251 | (have a9 := i251; unfold In at a9)); have a10 := t_add e251 i67 (in_c 1 rfl) rfl; (first | have a11 := in_u ((in_c 1 rfl)) | (have a11 := (in_c 1 rfl); unfold In at a11)); omega)))
                        exact gg_w (by first | exact Nat.le_add_right _ _ | exact gw2 | exact gw3 | exact gwe rfl | exact gwf rfl | exact gwg rfl | exact gwh rfl | omega) (gg_f (gf_cons rfl (gf_cons rfl (gf_cons rfl (gf_cons rfl (gf_cons rfl (gf_cons rfl gf_nil)))))) (ih62 sc62 y62_2 y62_3 y62_4 z251 hIc62 hFc62 (in_w 1 32 j62_2 rfl) (in_w 0 32 j62_3 rfl) (in_w 0 1951 i98 rfl) (in_w 0 160 i251 rfl) n62 n62a n62b n62c (m_up mm62 (t_add e251 i67 (in_c 1 rfl) rfl) (in_w 1 1 (in_c 1 rfl) rfl))))
                      · skip
                        have i202 := z_lt (-1) (-1) c202 i201 rfl
                        refine g_aload_n 206 (gd rfl) rfl rfl ?_
                        refine g_getA (q2 := 147) 209 (gd rfl) rfl rfl rfl rfl ?_
                        refine g_iload 211 (gd rfl) rfl rfl ?_
                        refine g_laload 212 (gd rfl) rfl (n := 160) rfl (in_ix i67 rfl) (fun z211 e211 => ?_)
                        refine g_lconst 0 213 (gd rfl) rfl rfl ?_
                        refine g_lcmp 214 (gd rfl) rfl (fun z213 e213 => ?_)
                        have i213 := lc_in e213
                        refine g_if_le 217 251 (gd rfl) rfl rfl (fun c214 => ?_) (fun c214 => ?_)
                        · skip
                          have i214 := z_le (-1) 0 c214 i213 rfl
                          have c214a := lc_le e213 c214
                          have i214a := lr_le1 (-9223372036854775808) 0 c214a (l_rng z211) (l_c 0 rfl) rfl
                          first | (have nsi : SI sc62 (x1).toInt (y62_3).toInt := (by have hl3 : (y62_3).toInt = y62_3.toInt + 1 := (by (first | have a0 := in_u h1 | (have a0 := h1; unfold In at a0)); (first | have a1 := in_u ro_109_20 | (have a1 := ro_109_20; unfold In at a1)); (first | have a2 := in_u ro_109_19 | (have a2 := ro_109_19; unfold In at a2)); (first | have a3 := in_u i67 | (have a3 := i67; unfold In at a3)); (first | have a4 := in_u i98 | (have a4 := i98; unfold In at a4)); (first | have a5 := in_u j62_3 | (have a5 := j62_3; unfold In at a5)); (first | have a6 := in_u j62_2 | (have a6 := j62_2; unfold In at a6)); (first | have a7 := in_u i76 | (have a7 := i76; unfold In at a7)); have a8 := t_add e76 ro_109_19 i67 rfl; omega); rw [hl3]; exact si_push (s := sc62) (a := y62_5.toNatClampNeg) (m := y62_3.toNatClampNeg) g62_0 (by show ((y62_3.toInt.toNat : Nat) : Int) = _; (first | have a0 := in_u h1 | (have a0 := h1; unfold In at a0)); (first | have a1 := in_u ro_109_20 | (have a1 := ro_109_20; unfold In at a1)); (first | have a2 := in_u ro_109_19 | (have a2 := ro_109_19; unfold In at a2)); (first | have a3 := in_u i67 | (have a3 := i67; unfold In at a3)); (first | have a4 := in_u i98 | (have a4 := i98; unfold In at a4)); (first | have a5 := in_u j62_3 | (have a5 := j62_3; unfold In at a5)); (first | have a6 := in_u j62_2 | (have a6 := j62_2; unfold In at a6)); (first | have a7 := in_u i76 | (have a7 := i76; unfold In at a7)); have a8 := t_add e76 ro_109_19 i67 rfl; omega) (by rw [sI_p rfl, sI_q]) (by rw [sI_q, sI_p rfl]) (by rw [sI_p rfl, sI_p rfl]) (by rw [sI_p rfl, sI_p rfl]) (by rw [sI_p rfl, sI_p rfl]) (by rw [sI_p rfl, sI_p rfl]) rfl rfl rfl i111 (by rw [← e112]; exact c113) (by show y62_5.toInt.toNat < 160; (first | have a0 := in_u h1 | (have a0 := h1; unfold In at a0)); (first | have a1 := in_u ro_109_20 | (have a1 := ro_109_20; unfold In at a1)); (first | have a2 := in_u ro_109_19 | (have a2 := ro_109_19; unfold In at a2)); (first | have a3 := in_u i67 | (have a3 := i67; unfold In at a3)); (first | have a4 := in_u i98 | (have a4 := i98; unfold In at a4)); (first | have a5 := in_u j62_3 | (have a5 := j62_3; unfold In at a5)); (first | have a6 := in_u j62_2 | (have a6 := j62_2; unfold In at a6)); (first | have a7 := in_u i76 | (have a7 := i76; unfold In at a7)); have a8 := t_add e76 ro_109_19 i67 rfl; (first | exact zt_l (by decide) (by omega) | omega)) (Or.inl ⟨by show _ = ((y62_5.toInt.toNat : Nat) : Int); (first | have a0 := in_u h1 | (have a0 := h1; unfold In at a0)); (first | have a1 := in_u ro_109_20 | (have a1 := ro_109_20; unfold In at a1)); (first | have a2 := in_u ro_109_19 | (have a2 := ro_109_19; unfold In at a2)); (first | have a3 := in_u i67 | (have a3 := i67; unfold In at a3)); (first | have a4 := in_u i98 | (have a4 := i98; unfold In at a4)); (first | have a5 := in_u j62_3 | (have a5 := j62_3; unfold In at a5)); (first | have a6 := in_u j62_2 | (have a6 := j62_2; unfold In at a6)); (first | have a7 := in_u i76 | (have a7 := i76; unfold In at a7)); have a8 := t_add e76 ro_109_19 i67 rfl; omega, by rw [hbs, ← e85]; exact c86, by rw [hbs]; exact e111.symm, by rw [hbs, ← e95, Int32.toInt_inj.mp c98]; exact g62_1, by rw [hbs, ← e95]; exact i95, by rw [hbs, ← e122, ← e129, ← tx_i2l e130]; exact c132a⟩))) | (have nsi : SI sc62 (x1).toInt (y62_3).toInt := (by have hl3 : (y62_3).toInt = y62_3.toInt + 1 := (by (first | have a0 := in_u h1 | (have a0 := h1; unfold In at a0)); (first | have a1 := in_u ro_109_20 | (have a1 := ro_109_20; unfold In at a1)); (first | have a2 := in_u ro_109_19 | (have a2 := ro_109_19; unfold In at a2)); (first | have a3 := in_u i67 | (have a3 := i67; unfold In at a3)); (first | have a4 := in_u i98 | (have a4 := i98; unfold In at a4)); (first | have a5 := in_u j62_3 | (have a5 := j62_3; unfold In at a5)); (first | have a6 := in_u j62_2 | (have a6 := j62_2; unfold In at a6)); (first | have a7 := in_u i76 | (have a7 := i76; unfold In at a7)); have a8 := t_add e76 ro_109_19 i67 rfl; omega); rw [hl3]; exact si_push (s := sc62) (a := y62_5.toNatClampNeg) (m := y62_3.toNatClampNeg) g62_0 (by show ((y62_3.toInt.toNat : Nat) : Int) = _; (first | have a0 := in_u h1 | (have a0 := h1; unfold In at a0)); (first | have a1 := in_u ro_109_20 | (have a1 := ro_109_20; unfold In at a1)); (first | have a2 := in_u ro_109_19 | (have a2 := ro_109_19; unfold In at a2)); (first | have a3 := in_u i67 | (have a3 := i67; unfold In at a3)); (first | have a4 := in_u i98 | (have a4 := i98; unfold In at a4)); (first | have a5 := in_u j62_3 | (have a5 := j62_3; unfold In at a5)); (first | have a6 := in_u j62_2 | (have a6 := j62_2; unfold In at a6)); (first | have a7 := in_u i76 | (have a7 := i76; unfold In at a7)); have a8 := t_add e76 ro_109_19 i67 rfl; omega) (by rw [sI_p rfl, sI_q]) (by rw [sI_q, sI_p rfl]) (by rw [sI_p rfl, sI_p rfl]) (by rw [sI_p rfl, sI_p rfl]) (by rw [sI_p rfl, sI_p rfl]) (by rw [sI_p rfl, sI_p rfl]) rfl rfl rfl i95 (by rw [← e201]; exact c202) (by show y62_5.toInt.toNat < 160; (first | have a0 := in_u h1 | (have a0 := h1; unfold In at a0)); (first | have a1 := in_u ro_109_20 | (have a1 := ro_109_20; unfold In at a1)); (first | have a2 := in_u ro_109_19 | (have a2 := ro_109_19; unfold In at a2)); (first | have a3 := in_u i67 | (have a3 := i67; unfold In at a3)); (first | have a4 := in_u i98 | (have a4 := i98; unfold In at a4)); (first | have a5 := in_u j62_3 | (have a5 := j62_3; unfold In at a5)); (first | have a6 := in_u j62_2 | (have a6 := j62_2; unfold In at a6)); (first | have a7 := in_u i76 | (have a7 := i76; unfold In at a7)); have a8 := t_add e76 ro_109_19 i67 rfl; (first | exact zt_l (by decide) (by omega) | omega)) (Or.inr ⟨by show _ = 200 + ((y62_5.toInt.toNat : Nat) : Int); (first | have a0 := in_u h1 | (have a0 := h1; unfold In at a0)); (first | have a1 := in_u ro_109_20 | (have a1 := ro_109_20; unfold In at a1)); (first | have a2 := in_u ro_109_19 | (have a2 := ro_109_19; unfold In at a2)); (first | have a3 := in_u i67 | (have a3 := i67; unfold In at a3)); (first | have a4 := in_u i98 | (have a4 := i98; unfold In at a4)); (first | have a5 := in_u j62_3 | (have a5 := j62_3; unfold In at a5)); (first | have a6 := in_u j62_2 | (have a6 := j62_2; unfold In at a6)); (first | have a7 := in_u i76 | (have a7 := i76; unfold In at a7)); have a8 := t_add e76 ro_109_19 i67 rfl; omega, by rw [hbs, ← e85]; exact c86, by rw [hbs]; exact e95.symm, by rw [hbs, ← e184, Int32.toInt_inj.mp c187]; exact g62_1, by rw [hbs, ← e184]; exact i184, by rw [← e211]; exact c214a⟩))) | (have nsi : SI sc62 (x1).toInt (y62_3).toInt := (by have hl3 : (y62_3).toInt = y62_3.toInt + 1 := (by (first | have a0 := in_u h1 | (have a0 := h1; unfold In at a0)); (first | have a1 := in_u ro_109_20 | (have a1 := ro_109_20; unfold In at a1)); (first | have a2 := in_u ro_109_19 | (have a2 := ro_109_19; unfold In at a2)); (first | have a3 := in_u i67 | (have a3 := i67; unfold In at a3)); (first | have a4 := in_u i98 | (have a4 := i98; unfold In at a4)); (first | have a5 := in_u j62_3 | (have a5 := j62_3; unfold In at a5)); (first | have a6 := in_u j62_2 | (have a6 := j62_2; unfold In at a6)); (first | have a7 := in_u i76 | (have a7 := i76; unfold In at a7)); have a8 := t_add e76 ro_109_19 i67 rfl; omega); rw [hl3]; exact si_push (s := sc62) (a := y62_5.toNatClampNeg) (m := y62_3.toNatClampNeg) g62_0 (by show ((y62_3.toInt.toNat : Nat) : Int) = _; (first | have a0 := in_u h1 | (have a0 := h1; unfold In at a0)); (first | have a1 := in_u ro_109_20 | (have a1 := ro_109_20; unfold In at a1)); (first | have a2 := in_u ro_109_19 | (have a2 := ro_109_19; unfold In at a2)); (first | have a3 := in_u i67 | (have a3 := i67; unfold In at a3)); (first | have a4 := in_u i98 | (have a4 := i98; unfold In at a4)); (first | have a5 := in_u j62_3 | (have a5 := j62_3; unfold In at a5)); (first | have a6 := in_u j62_2 | (have a6 := j62_2; unfold In at a6)); (first | have a7 := in_u i76 | (have a7 := i76; unfold In at a7)); have a8 := t_add e76 ro_109_19 i67 rfl; omega) (by rw [sI_p rfl, sI_q]) (by rw [sI_q, sI_p rfl]) (by rw [sI_p rfl, sI_p rfl]) (by rw [sI_p rfl, sI_p rfl]) (by rw [sI_p rfl, sI_p rfl]) (by rw [sI_p rfl, sI_p rfl]) rfl rfl rfl i95 (by rw [← e201]; exact c202) (by show y62_5.toInt.toNat < 160; (first | have a0 := in_u h1 | (have a0 := h1; unfold In at a0)); (first | have a1 := in_u ro_109_20 | (have a1 := ro_109_20; unfold In at a1)); (first | have a2 := in_u ro_109_19 | (have a2 := ro_109_19; unfold In at a2)); (first | have a3 := in_u i67 | (have a3 := i67; unfold In at a3)); (first | have a4 := in_u i98 | (have a4 := i98; unfold In at a4)); (first | have a5 := in_u j62_3 | (have a5 := j62_3; unfold In at a5)); (first | have a6 := in_u j62_2 | (have a6 := j62_2; unfold In at a6)); (first | have a7 := in_u i76 | (have a7 := i76; unfold In at a7)); have a8 := t_add e76 ro_109_19 i67 rfl; (first | exact zt_l (by decide) (by omega) | omega)) (Or.inr ⟨by show _ = 200 + ((y62_5.toInt.toNat : Nat) : Int); (first | have a0 := in_u h1 | (have a0 := h1; unfold In at a0)); (first | have a1 := in_u ro_109_20 | (have a1 := ro_109_20; unfold In at a1)); (first | have a2 := in_u ro_109_19 | (have a2 := ro_109_19; unfold In at a2)); (first | have a3 := in_u i67 | (have a3 := i67; unfold In at a3)); (first | have a4 := in_u i98 | (have a4 := i98; unfold In at a4)); (first | have a5 := in_u j62_3 | (have a5 := j62_3; unfold In at a5)); (first | have a6 := in_u j62_2 | (have a6 := j62_2; unfold In at a6)); (first | have a7 := in_u i76 | (have a7 := i76; unfold In at a7)); have a8 := t_add e76 ro_109_19 i67 rfl; omega, by rw [hbs, ← e85]; exact c86, by rw [hbs]; exact e95.symm, by rw [hbs, ← e184, Int32.toInt_inj.mp c187]; exact g62_1, by rw [hbs, ← e184]; exact i184, by rw [← e122]; exact c214a⟩))) | (have nsi : SI sc62 (x1).toInt (y62_3).toInt := (by have hl3 : (y62_3).toInt = y62_3.toInt + 1 := (by (first | have a0 := in_u h1 | (have a0 := h1; unfold In at a0)); (first | have a1 := in_u ro_109_20 | (have a1 := ro_109_20; unfold In at a1)); (first | have a2 := in_u ro_109_19 | (have a2 := ro_109_19; unfold In at a2)); (first | have a3 := in_u i67 | (have a3 := i67; unfold In at a3)); (first | have a4 := in_u i98 | (have a4 := i98; unfold In at a4)); (first | have a5 := in_u j62_3 | (have a5 := j62_3; unfold In at a5)); (first | have a6 := in_u j62_2 | (have a6 := j62_2; unfold In at a6)); (first | have a7 := in_u i76 | (have a7 := i76; unfold In at a7)); have a8 := t_add e76 ro_109_19 i67 rfl; omega); rw [hl3]; exact si_push (s := sc62) (a := y62_5.toNatClampNeg) (m := y62_3.toNatClampNeg) g62_0 (by show ((y62_3.toInt.toNat : Nat) : Int) = _; (first | have a0 := in_u h1 | (have a0 := h1; unfold In at a0)); (first | have a1 := in_u ro_109_20 | (have a1 := ro_109_20; unfold In at a1)); (first | have a2 := in_u ro_109_19 | (have a2 := ro_109_19; unfold In at a2)); (first | have a3 := in_u i67 | (have a3 := i67; unfold In at a3)); (first | have a4 := in_u i98 | (have a4 := i98; unfold In at a4)); (first | have a5 := in_u j62_3 | (have a5 := j62_3; unfold In at a5)); (first | have a6 := in_u j62_2 | (have a6 := j62_2; unfold In at a6)); (first | have a7 := in_u i76 | (have a7 := i76; unfold In at a7)); have a8 := t_add e76 ro_109_19 i67 rfl; omega) (by rw [sI_p rfl, sI_q]) (by rw [sI_q, sI_p rfl]) (by rw [sI_p rfl, sI_p rfl]) (by rw [sI_p rfl, sI_p rfl]) (by rw [sI_p rfl, sI_p rfl]) (by rw [sI_p rfl, sI_p rfl]) rfl rfl rfl i95 (by rw [← e201]; exact c202) (by show y62_5.toInt.toNat < 160; (first | have a0 := in_u h1 | (have a0 := h1; unfold In at a0)); (first | have a1 := in_u ro_109_20 | (have a1 := ro_109_20; unfold In at a1)); (first | have a2 := in_u ro_109_19 | (have a2 := ro_109_19; unfold In at a2)); (first | have a3 := in_u i67 | (have a3 := i67; unfold In at a3)); (first | have a4 := in_u i98 | (have a4 := i98; unfold In at a4)); (first | have a5 := in_u j62_3 | (have a5 := j62_3; unfold In at a5)); (first | have a6 := in_u j62_2 | (have a6 := j62_2; unfold In at a6)); (first | have a7 := in_u i76 | (have a7 := i76; unfold In at a7)); have a8 := t_add e76 ro_109_19 i67 rfl; (first | exact zt_l (by decide) (by omega) | omega)) (Or.inr ⟨by show _ = 200 + ((y62_5.toInt.toNat : Nat) : Int); (first | have a0 := in_u h1 | (have a0 := h1; unfold In at a0)); (first | have a1 := in_u ro_109_20 | (have a1 := ro_109_20; unfold In at a1)); (first | have a2 := in_u ro_109_19 | (have a2 := ro_109_19; unfold In at a2)); (first | have a3 := in_u i67 | (have a3 := i67; unfold In at a3)); (first | have a4 := in_u i98 | (have a4 := i98; unfold In at a4)); (first | have a5 := in_u j62_3 | (have a5 := j62_3; unfold In at a5)); (first | have a6 := in_u j62_2 | (have a6 := j62_2; unfold In at a6)); (first | have a7 := in_u i76 | (have a7 := i76; unfold In at a7)); have a8 := t_add e76 ro_109_19 i67 rfl; omega, by rw [hbs, ← e85]; exact c86, by rw [hbs]; exact e95.symm, by rw [hbs, ← e111, Int32.toInt_inj.mp c187]; exact g62_1, by rw [hbs, ← e111]; exact i111, by rw [← e211]; exact c214a⟩))) | (have nsi : SI sc62 (x1).toInt (y62_3).toInt := (by have hl3 : (y62_3).toInt = y62_3.toInt + 1 := (by (first | have a0 := in_u h1 | (have a0 := h1; unfold In at a0)); (first | have a1 := in_u ro_109_20 | (have a1 := ro_109_20; unfold In at a1)); (first | have a2 := in_u ro_109_19 | (have a2 := ro_109_19; unfold In at a2)); (first | have a3 := in_u i67 | (have a3 := i67; unfold In at a3)); (first | have a4 := in_u i98 | (have a4 := i98; unfold In at a4)); (first | have a5 := in_u j62_3 | (have a5 := j62_3; unfold In at a5)); (first | have a6 := in_u j62_2 | (have a6 := j62_2; unfold In at a6)); (first | have a7 := in_u i76 | (have a7 := i76; unfold In at a7)); have a8 := t_add e76 ro_109_19 i67 rfl; omega); rw [hl3]; exact si_push (s := sc62) (a := y62_5.toNatClampNeg) (m := y62_3.toNatClampNeg) g62_0 (by show ((y62_3.toInt.toNat : Nat) : Int) = _; (first | have a0 := in_u h1 | (have a0 := h1; unfold In at a0)); (first | have a1 := in_u ro_109_20 | (have a1 := ro_109_20; unfold In at a1)); (first | have a2 := in_u ro_109_19 | (have a2 := ro_109_19; unfold In at a2)); (first | have a3 := in_u i67 | (have a3 := i67; unfold In at a3)); (first | have a4 := in_u i98 | (have a4 := i98; unfold In at a4)); (first | have a5 := in_u j62_3 | (have a5 := j62_3; unfold In at a5)); (first | have a6 := in_u j62_2 | (have a6 := j62_2; unfold In at a6)); (first | have a7 := in_u i76 | (have a7 := i76; unfold In at a7)); have a8 := t_add e76 ro_109_19 i67 rfl; omega) (by rw [sI_p rfl, sI_q]) (by rw [sI_q, sI_p rfl]) (by rw [sI_p rfl, sI_p rfl]) (by rw [sI_p rfl, sI_p rfl]) (by rw [sI_p rfl, sI_p rfl]) (by rw [sI_p rfl, sI_p rfl]) rfl rfl rfl i95 (by rw [← e201]; exact c202) (by show y62_5.toInt.toNat < 160; (first | have a0 := in_u h1 | (have a0 := h1; unfold In at a0)); (first | have a1 := in_u ro_109_20 | (have a1 := ro_109_20; unfold In at a1)); (first | have a2 := in_u ro_109_19 | (have a2 := ro_109_19; unfold In at a2)); (first | have a3 := in_u i67 | (have a3 := i67; unfold In at a3)); (first | have a4 := in_u i98 | (have a4 := i98; unfold In at a4)); (first | have a5 := in_u j62_3 | (have a5 := j62_3; unfold In at a5)); (first | have a6 := in_u j62_2 | (have a6 := j62_2; unfold In at a6)); (first | have a7 := in_u i76 | (have a7 := i76; unfold In at a7)); have a8 := t_add e76 ro_109_19 i67 rfl; (first | exact zt_l (by decide) (by omega) | omega)) (Or.inr ⟨by show _ = 200 + ((y62_5.toInt.toNat : Nat) : Int); (first | have a0 := in_u h1 | (have a0 := h1; unfold In at a0)); (first | have a1 := in_u ro_109_20 | (have a1 := ro_109_20; unfold In at a1)); (first | have a2 := in_u ro_109_19 | (have a2 := ro_109_19; unfold In at a2)); (first | have a3 := in_u i67 | (have a3 := i67; unfold In at a3)); (first | have a4 := in_u i98 | (have a4 := i98; unfold In at a4)); (first | have a5 := in_u j62_3 | (have a5 := j62_3; unfold In at a5)); (first | have a6 := in_u j62_2 | (have a6 := j62_2; unfold In at a6)); (first | have a7 := in_u i76 | (have a7 := i76; unfold In at a7)); have a8 := t_add e76 ro_109_19 i67 rfl; omega, by rw [hbs, ← e85]; exact c86, by rw [hbs]; exact e95.symm, by rw [hbs, ← e111, Int32.toInt_inj.mp c187]; exact g62_1, by rw [hbs, ← e111]; exact i111, by rw [← e122]; exact c214a⟩))) | skip
                          refine g_iinc 254 (gd rfl) rfl rfl (Nat.le_of_ble_eq_true rfl) (fun z251 e251 => ?_)
                          have i251 := in_add 1 160 e251 i67 (in_c 1 rfl) rfl rfl
                          refine g_goto 62 (gd rfl) rfl ?_
                          have n62 : (y62_2).toInt = y43_2.toInt + 1 := by first | exact n62_0 | ((first | have a0 := in_u h1 | (have a0 := h1; unfold In at a0)); (first | have a1 := in_u ro_109_20 | (have a1 := ro_109_20; unfold In at a1)); (first | have a2 := in_u ro_109_19 | (have a2 := ro_109_19; unfold In at a2)); (first | have a3 := in_u i67 | (have a3 := i67; unfold In at a3)); (first | have a4 := in_u i98 | (have a4 := i98; unfold In at a4)); (first | have a5 := in_u j62_3 | (have a5 := j62_3; unfold In at a5)); (first | have a6 := in_u j62_2 | (have a6 := j62_2; unfold In at a6)); (first | have a7 := in_u i76 | (have a7 := i76; unfold In at a7)); have a8 := t_add e76 ro_109_19 i67 rfl; (first | have a9 := in_u i251 | (have a9 := i251; unfold In at a9)); have a10 := t_add e251 i67 (in_c 1 rfl) rfl; (first | have a11 := in_u ((in_c 1 rfl)) | (have a11 := (in_c 1 rfl); unfold In at a11)); omega)
                          have n62a : (y62_2).toInt ≤ (y62_3).toInt := by first | exact n62_1 | ((first | have a0 := in_u h1 | (have a0 := h1; unfold In at a0)); (first | have a1 := in_u ro_109_20 | (have a1 := ro_109_20; unfold In at a1)); (first | have a2 := in_u ro_109_19 | (have a2 := ro_109_19; unfold In at a2)); (first | have a3 := in_u i67 | (have a3 := i67; unfold In at a3)); (first | have a4 := in_u i98 | (have a4 := i98; unfold In at a4)); (first | have a5 := in_u j62_3 | (have a5 := j62_3; unfold In at a5)); (first | have a6 := in_u j62_2 | (have a6 := j62_2; unfold In at a6)); (first | have a7 := in_u i76 | (have a7 := i76; unfold In at a7)); have a8 := t_add e76 ro_109_19 i67 rfl; (first | have a9 := in_u i251 | (have a9 := i251; unfold In at a9)); have a10 := t_add e251 i67 (in_c 1 rfl) rfl; (first | have a11 := in_u ((in_c 1 rfl)) | (have a11 := (in_c 1 rfl); unfold In at a11)); omega)
                          have n62b : SI sc62 (x1).toInt (y62_3).toInt := by first | exact g43_0 | exact g62_0 | exact nsi
                          have n62c : 0 ≤ (sc62.1 148 (y62_4).toNatClampNeg).toInt := by first | exact g62_1 | (first | exact g62_1 | (have h := g43_0.2.2.1 y43_2.toNatClampNeg (by show ((y43_2.toInt.toNat : Nat) : Int) < _; (first | have a0 := in_u h1 | (have a0 := h1; unfold In at a0)); (first | have a1 := in_u ro_109_20 | (have a1 := ro_109_20; unfold In at a1)); (first | have a2 := in_u ro_109_19 | (have a2 := ro_109_19; unfold In at a2)); (first | have a3 := in_u i67 | (have a3 := i67; unfold In at a3)); (first | have a4 := in_u i98 | (have a4 := i98; unfold In at a4)); (first | have a5 := in_u j62_3 | (have a5 := j62_3; unfold In at a5)); (first | have a6 := in_u j62_2 | (have a6 := j62_2; unfold In at a6)); (first | have a7 := in_u i76 | (have a7 := i76; unfold In at a7)); have a8 := t_add e76 ro_109_19 i67 rfl; (first | have a9 := in_u i251 | (have a9 := i251; unfold In at a9)); have a10 := t_add e251 i67 (in_c 1 rfl) rfl; (first | have a11 := in_u ((in_c 1 rfl)) | (have a11 := (in_c 1 rfl); unfold In at a11)); omega); rw [← e53] at h; exact h.2) | (rw [sI_p rfl, sI_q]; exact up_ge g62_1 (by (first | have a0 := in_u h1 | (have a0 := h1; unfold In at a0)); (first | have a1 := in_u ro_109_20 | (have a1 := ro_109_20; unfold In at a1)); (first | have a2 := in_u ro_109_19 | (have a2 := ro_109_19; unfold In at a2)); (first | have a3 := in_u i67 | (have a3 := i67; unfold In at a3)); (first | have a4 := in_u i98 | (have a4 := i98; unfold In at a4)); (first | have a5 := in_u j62_3 | (have a5 := j62_3; unfold In at a5)); (first | have a6 := in_u j62_2 | (have a6 := j62_2; unfold In at a6)); (first | have a7 := in_u i76 | (have a7 := i76; unfold In at a7)); have a8 := t_add e76 ro_109_19 i67 rfl; (first | have a9 := in_u i251 | (have a9 := i251; unfold In at a9)); have a10 := t_add e251 i67 (in_c 1 rfl) rfl; (first | have a11 := in_u ((in_c 1 rfl)) | (have a11 := (in_c 1 rfl); unfold In at a11)); omega)))
                          exact gg_w (by first | exact Nat.le_add_right _ _ | exact gw2 | exact gw3 | exact gwe rfl | exact gwf rfl | exact gwg rfl | exact gwh rfl | omega) (gg_f (gf_cons rfl (gf_cons rfl (gf_cons rfl (gf_cons rfl (gf_cons rfl (gf_cons rfl gf_nil)))))) (ih62 sc62 y62_2 y62_3 y62_4 z251 hIc62 hFc62 (in_w 1 32 j62_2 rfl) (in_w 0 32 j62_3 rfl) (in_w 0 1951 i98 rfl) (in_w 0 160 i251 rfl) n62 n62a n62b n62c (m_up mm62 (t_add e251 i67 (in_c 1 rfl) rfl) (in_w 1 1 (in_c 1 rfl) rfl))))
                        · skip
                          have i214 := z_gt 1 1 c214 i213 rfl
                          have c214a := lc_gt e213 c214
                          have i214a := lr_lt2 1 9223372036854775807 c214a (l_c 0 rfl) (l_rng z211) rfl
                          refine g_aload_n 218 (gd rfl) rfl rfl ?_
                          refine g_getA (q2 := 148) 221 (gd rfl) rfl rfl rfl rfl ?_
                          refine g_aload_n 222 (gd rfl) rfl rfl ?_
                          refine g_getA (q2 := 113) 225 (gd rfl) rfl rfl rfl rfl ?_
                          refine g_iload 227 (gd rfl) rfl rfl ?_
                          refine g_iaload 228 (gd rfl) rfl (n := 480) rfl (in_ix i76 rfl) (fun z227 e227 => ?_)
                          have q227 : z95 = z227 := (e95).trans e227.symm
                          subst q227
                          refine g_sipush 200 231 (gd rfl) rfl rfl ?_
                          refine g_iload 233 (gd rfl) rfl rfl ?_
                          refine g_iadd 234 (gd rfl) rfl (fun z233 e233 => ?_)
                          have i233 := in_add 200 359 e233 (in_c 200 rfl) i67 rfl rfl
                          refine g_iastore 235 (gd rfl) rfl (n := 34) rfl (in_ix i95 rfl) ?_
                          have hI234 := inv_sI (q := 148) (j := z95.toNatClampNeg) hIc62 rfl (in_w (-1) 1000 i233 rfl)
                          refine g_aload_n 236 (gd rfl) rfl rfl ?_
                          refine g_getA (q2 := 132) 239 (gd rfl) rfl rfl rfl rfl ?_
                          refine g_iload_n 240 (gd rfl) rfl rfl ?_
                          refine g_aload_n 241 (gd rfl) rfl rfl ?_
                          refine g_getA (q2 := 113) 244 (gd rfl) rfl rfl rfl rfl ?_
                          refine g_iload 246 (gd rfl) rfl rfl ?_
                          refine g_iaload 247 (gd rfl) rfl (n := 480) rfl (in_ix i76 rfl) (fun z246 e246 => ?_)
                          have q246 : z95 = z246 := (sI_ne rfl (e95)).trans e246.symm
                          subst q246
                          refine g_iastore 248 (gd rfl) rfl (n := 4000) rfl (in_ix j62_3 rfl) ?_
                          have hI247 := inv_sI (q := 132) (j := y62_3.toNatClampNeg) hI234 rfl (in_w 0 1951 i95 rfl)
                          refine g_iinc 251 (gd rfl) rfl rfl (Nat.le_of_ble_eq_true rfl) (fun z248 e248 => ?_)
                          have i248 := in_add 1 33 e248 j62_3 (in_c 1 rfl) rfl rfl
                          first | (have nsi : SI (sI (sI sc62 148 z95.toNatClampNeg z233) 132 y62_3.toNatClampNeg z95) (x1).toInt (z248).toInt := (by have hl3 : (z248).toInt = y62_3.toInt + 1 := (by (first | have a0 := in_u h1 | (have a0 := h1; unfold In at a0)); (first | have a1 := in_u ro_109_20 | (have a1 := ro_109_20; unfold In at a1)); (first | have a2 := in_u ro_109_19 | (have a2 := ro_109_19; unfold In at a2)); (first | have a3 := in_u i67 | (have a3 := i67; unfold In at a3)); (first | have a4 := in_u i98 | (have a4 := i98; unfold In at a4)); (first | have a5 := in_u j62_3 | (have a5 := j62_3; unfold In at a5)); (first | have a6 := in_u j62_2 | (have a6 := j62_2; unfold In at a6)); (first | have a7 := in_u i76 | (have a7 := i76; unfold In at a7)); have a8 := t_add e76 ro_109_19 i67 rfl; (first | have a9 := in_u i248 | (have a9 := i248; unfold In at a9)); have a10 := t_add e248 j62_3 (in_c 1 rfl) rfl; (first | have a11 := in_u ((in_c 1 rfl)) | (have a11 := (in_c 1 rfl); unfold In at a11)); (first | have a12 := in_u i233 | (have a12 := i233; unfold In at a12)); have a13 := t_add e233 (in_c 200 rfl) i67 rfl; (first | have a14 := in_u ((in_c 200 rfl)) | (have a14 := (in_c 200 rfl); unfold In at a14)); omega); rw [hl3]; exact si_push (s := sc62) (a := y62_5.toNatClampNeg) (m := y62_3.toNatClampNeg) g62_0 (by show ((y62_3.toInt.toNat : Nat) : Int) = _; (first | have a0 := in_u h1 | (have a0 := h1; unfold In at a0)); (first | have a1 := in_u ro_109_20 | (have a1 := ro_109_20; unfold In at a1)); (first | have a2 := in_u ro_109_19 | (have a2 := ro_109_19; unfold In at a2)); (first | have a3 := in_u i67 | (have a3 := i67; unfold In at a3)); (first | have a4 := in_u i98 | (have a4 := i98; unfold In at a4)); (first | have a5 := in_u j62_3 | (have a5 := j62_3; unfold In at a5)); (first | have a6 := in_u j62_2 | (have a6 := j62_2; unfold In at a6)); (first | have a7 := in_u i76 | (have a7 := i76; unfold In at a7)); have a8 := t_add e76 ro_109_19 i67 rfl; (first | have a9 := in_u i248 | (have a9 := i248; unfold In at a9)); have a10 := t_add e248 j62_3 (in_c 1 rfl) rfl; (first | have a11 := in_u ((in_c 1 rfl)) | (have a11 := (in_c 1 rfl); unfold In at a11)); (first | have a12 := in_u i233 | (have a12 := i233; unfold In at a12)); have a13 := t_add e233 (in_c 200 rfl) i67 rfl; (first | have a14 := in_u ((in_c 200 rfl)) | (have a14 := (in_c 200 rfl); unfold In at a14)); omega) (by rw [sI_p rfl, sI_q]) (by rw [sI_q, sI_p rfl]) (by rw [sI_p rfl, sI_p rfl]) (by rw [sI_p rfl, sI_p rfl]) (by rw [sI_p rfl, sI_p rfl]) (by rw [sI_p rfl, sI_p rfl]) rfl rfl rfl i111 (by rw [← e112]; exact c113) (by show y62_5.toInt.toNat < 160; (first | have a0 := in_u h1 | (have a0 := h1; unfold In at a0)); (first | have a1 := in_u ro_109_20 | (have a1 := ro_109_20; unfold In at a1)); (first | have a2 := in_u ro_109_19 | (have a2 := ro_109_19; unfold In at a2)); (first | have a3 := in_u i67 | (have a3 := i67; unfold In at a3)); (first | have a4 := in_u i98 | (have a4 := i98; unfold In at a4)); (first | have a5 := in_u j62_3 | (have a5 := j62_3; unfold In at a5)); (first | have a6 := in_u j62_2 | (have a6 := j62_2; unfold In at a6)); (first | have a7 := in_u i76 | (have a7 := i76; unfold In at a7)); have a8 := t_add e76 ro_109_19 i67 rfl; (first | have a9 := in_u i248 | (have a9 := i248; unfold In at a9)); have a10 := t_add e248 j62_3 (in_c 1 rfl) rfl; (first | have a11 := in_u ((in_c 1 rfl)) | (have a11 := (in_c 1 rfl); unfold In at a11)); (first | have a12 := in_u i233 | (have a12 := i233; unfold In at a12)); have a13 := t_add e233 (in_c 200 rfl) i67 rfl; (first | have a14 := in_u ((in_c 200 rfl)) | (have a14 := (in_c 200 rfl); unfold In at a14)); (first | exact zt_l (by decide) (by omega) | omega)) (Or.inl ⟨by show _ = ((y62_5.toInt.toNat : Nat) : Int); (first | have a0 := in_u h1 | (have a0 := h1; unfold In at a0)); (first | have a1 := in_u ro_109_20 | (have a1 := ro_109_20; unfold In at a1)); (first | have a2 := in_u ro_109_19 | (have a2 := ro_109_19; unfold In at a2)); (first | have a3 := in_u i67 | (have a3 := i67; unfold In at a3)); (first | have a4 := in_u i98 | (have a4 := i98; unfold In at a4)); (first | have a5 := in_u j62_3 | (have a5 := j62_3; unfold In at a5)); (first | have a6 := in_u j62_2 | (have a6 := j62_2; unfold In at a6)); (first | have a7 := in_u i76 | (have a7 := i76; unfold In at a7)); have a8 := t_add e76 ro_109_19 i67 rfl; (first | have a9 := in_u i248 | (have a9 := i248; unfold In at a9)); have a10 := t_add e248 j62_3 (in_c 1 rfl) rfl; (first | have a11 := in_u ((in_c 1 rfl)) | (have a11 := (in_c 1 rfl); unfold In at a11)); (first | have a12 := in_u i233 | (have a12 := i233; unfold In at a12)); have a13 := t_add e233 (in_c 200 rfl) i67 rfl; (first | have a14 := in_u ((in_c 200 rfl)) | (have a14 := (in_c 200 rfl); unfold In at a14)); omega, by rw [hbs, ← e85]; exact c86, by rw [hbs]; exact e111.symm, by rw [hbs, ← e95, Int32.toInt_inj.mp c98]; exact g62_1, by rw [hbs, ← e95]; exact i95, by rw [hbs, ← e122, ← e129, ← tx_i2l e130]; exact c132a⟩))) | (have nsi : SI (sI (sI sc62 148 z95.toNatClampNeg z233) 132 y62_3.toNatClampNeg z95) (x1).toInt (z248).toInt := (by have hl3 : (z248).toInt = y62_3.toInt + 1 := (by (first | have a0 := in_u h1 | (have a0 := h1; unfold In at a0)); (first | have a1 := in_u ro_109_20 | (have a1 := ro_109_20; unfold In at a1)); (first | have a2 := in_u ro_109_19 | (have a2 := ro_109_19; unfold In at a2)); (first | have a3 := in_u i67 | (have a3 := i67; unfold In at a3)); (first | have a4 := in_u i98 | (have a4 := i98; unfold In at a4)); (first | have a5 := in_u j62_3 | (have a5 := j62_3; unfold In at a5)); (first | have a6 := in_u j62_2 | (have a6 := j62_2; unfold In at a6)); (first | have a7 := in_u i76 | (have a7 := i76; unfold In at a7)); have a8 := t_add e76 ro_109_19 i67 rfl; (first | have a9 := in_u i248 | (have a9 := i248; unfold In at a9)); have a10 := t_add e248 j62_3 (in_c 1 rfl) rfl; (first | have a11 := in_u ((in_c 1 rfl)) | (have a11 := (in_c 1 rfl); unfold In at a11)); (first | have a12 := in_u i233 | (have a12 := i233; unfold In at a12)); have a13 := t_add e233 (in_c 200 rfl) i67 rfl; (first | have a14 := in_u ((in_c 200 rfl)) | (have a14 := (in_c 200 rfl); unfold In at a14)); omega); rw [hl3]; exact si_push (s := sc62) (a := y62_5.toNatClampNeg) (m := y62_3.toNatClampNeg) g62_0 (by show ((y62_3.toInt.toNat : Nat) : Int) = _; (first | have a0 := in_u h1 | (have a0 := h1; unfold In at a0)); (first | have a1 := in_u ro_109_20 | (have a1 := ro_109_20; unfold In at a1)); (first | have a2 := in_u ro_109_19 | (have a2 := ro_109_19; unfold In at a2)); (first | have a3 := in_u i67 | (have a3 := i67; unfold In at a3)); (first | have a4 := in_u i98 | (have a4 := i98; unfold In at a4)); (first | have a5 := in_u j62_3 | (have a5 := j62_3; unfold In at a5)); (first | have a6 := in_u j62_2 | (have a6 := j62_2; unfold In at a6)); (first | have a7 := in_u i76 | (have a7 := i76; unfold In at a7)); have a8 := t_add e76 ro_109_19 i67 rfl; (first | have a9 := in_u i248 | (have a9 := i248; unfold In at a9)); have a10 := t_add e248 j62_3 (in_c 1 rfl) rfl; (first | have a11 := in_u ((in_c 1 rfl)) | (have a11 := (in_c 1 rfl); unfold In at a11)); (first | have a12 := in_u i233 | (have a12 := i233; unfold In at a12)); have a13 := t_add e233 (in_c 200 rfl) i67 rfl; (first | have a14 := in_u ((in_c 200 rfl)) | (have a14 := (in_c 200 rfl); unfold In at a14)); omega) (by rw [sI_p rfl, sI_q]) (by rw [sI_q, sI_p rfl]) (by rw [sI_p rfl, sI_p rfl]) (by rw [sI_p rfl, sI_p rfl]) (by rw [sI_p rfl, sI_p rfl]) (by rw [sI_p rfl, sI_p rfl]) rfl rfl rfl i95 (by rw [← e201]; exact c202) (by show y62_5.toInt.toNat < 160; (first | have a0 := in_u h1 | (have a0 := h1; unfold In at a0)); (first | have a1 := in_u ro_109_20 | (have a1 := ro_109_20; unfold In at a1)); (first | have a2 := in_u ro_109_19 | (have a2 := ro_109_19; unfold In at a2)); (first | have a3 := in_u i67 | (have a3 := i67; unfold In at a3)); (first | have a4 := in_u i98 | (have a4 := i98; unfold In at a4)); (first | have a5 := in_u j62_3 | (have a5 := j62_3; unfold In at a5)); (first | have a6 := in_u j62_2 | (have a6 := j62_2; unfold In at a6)); (first | have a7 := in_u i76 | (have a7 := i76; unfold In at a7)); have a8 := t_add e76 ro_109_19 i67 rfl; (first | have a9 := in_u i248 | (have a9 := i248; unfold In at a9)); have a10 := t_add e248 j62_3 (in_c 1 rfl) rfl; (first | have a11 := in_u ((in_c 1 rfl)) | (have a11 := (in_c 1 rfl); unfold In at a11)); (first | have a12 := in_u i233 | (have a12 := i233; unfold In at a12)); have a13 := t_add e233 (in_c 200 rfl) i67 rfl; (first | have a14 := in_u ((in_c 200 rfl)) | (have a14 := (in_c 200 rfl); unfold In at a14)); (first | exact zt_l (by decide) (by omega) | omega)) (Or.inr ⟨by show _ = 200 + ((y62_5.toInt.toNat : Nat) : Int); (first | have a0 := in_u h1 | (have a0 := h1; unfold In at a0)); (first | have a1 := in_u ro_109_20 | (have a1 := ro_109_20; unfold In at a1)); (first | have a2 := in_u ro_109_19 | (have a2 := ro_109_19; unfold In at a2)); (first | have a3 := in_u i67 | (have a3 := i67; unfold In at a3)); (first | have a4 := in_u i98 | (have a4 := i98; unfold In at a4)); (first | have a5 := in_u j62_3 | (have a5 := j62_3; unfold In at a5)); (first | have a6 := in_u j62_2 | (have a6 := j62_2; unfold In at a6)); (first | have a7 := in_u i76 | (have a7 := i76; unfold In at a7)); have a8 := t_add e76 ro_109_19 i67 rfl; (first | have a9 := in_u i248 | (have a9 := i248; unfold In at a9)); have a10 := t_add e248 j62_3 (in_c 1 rfl) rfl; (first | have a11 := in_u ((in_c 1 rfl)) | (have a11 := (in_c 1 rfl); unfold In at a11)); (first | have a12 := in_u i233 | (have a12 := i233; unfold In at a12)); have a13 := t_add e233 (in_c 200 rfl) i67 rfl; (first | have a14 := in_u ((in_c 200 rfl)) | (have a14 := (in_c 200 rfl); unfold In at a14)); omega, by rw [hbs, ← e85]; exact c86, by rw [hbs]; exact e95.symm, by rw [hbs, ← e184, Int32.toInt_inj.mp c187]; exact g62_1, by rw [hbs, ← e184]; exact i184, by rw [← e211]; exact c214a⟩))) | (have nsi : SI (sI (sI sc62 148 z95.toNatClampNeg z233) 132 y62_3.toNatClampNeg z95) (x1).toInt (z248).toInt := (by have hl3 : (z248).toInt = y62_3.toInt + 1 := (by (first | have a0 := in_u h1 | (have a0 := h1; unfold In at a0)); (first | have a1 := in_u ro_109_20 | (have a1 := ro_109_20; unfold In at a1)); (first | have a2 := in_u ro_109_19 | (have a2 := ro_109_19; unfold In at a2)); (first | have a3 := in_u i67 | (have a3 := i67; unfold In at a3)); (first | have a4 := in_u i98 | (have a4 := i98; unfold In at a4)); (first | have a5 := in_u j62_3 | (have a5 := j62_3; unfold In at a5)); (first | have a6 := in_u j62_2 | (have a6 := j62_2; unfold In at a6)); (first | have a7 := in_u i76 | (have a7 := i76; unfold In at a7)); have a8 := t_add e76 ro_109_19 i67 rfl; (first | have a9 := in_u i248 | (have a9 := i248; unfold In at a9)); have a10 := t_add e248 j62_3 (in_c 1 rfl) rfl; (first | have a11 := in_u ((in_c 1 rfl)) | (have a11 := (in_c 1 rfl); unfold In at a11)); (first | have a12 := in_u i233 | (have a12 := i233; unfold In at a12)); have a13 := t_add e233 (in_c 200 rfl) i67 rfl; (first | have a14 := in_u ((in_c 200 rfl)) | (have a14 := (in_c 200 rfl); unfold In at a14)); omega); rw [hl3]; exact si_push (s := sc62) (a := y62_5.toNatClampNeg) (m := y62_3.toNatClampNeg) g62_0 (by show ((y62_3.toInt.toNat : Nat) : Int) = _; (first | have a0 := in_u h1 | (have a0 := h1; unfold In at a0)); (first | have a1 := in_u ro_109_20 | (have a1 := ro_109_20; unfold In at a1)); (first | have a2 := in_u ro_109_19 | (have a2 := ro_109_19; unfold In at a2)); (first | have a3 := in_u i67 | (have a3 := i67; unfold In at a3)); (first | have a4 := in_u i98 | (have a4 := i98; unfold In at a4)); (first | have a5 := in_u j62_3 | (have a5 := j62_3; unfold In at a5)); (first | have a6 := in_u j62_2 | (have a6 := j62_2; unfold In at a6)); (first | have a7 := in_u i76 | (have a7 := i76; unfold In at a7)); have a8 := t_add e76 ro_109_19 i67 rfl; (first | have a9 := in_u i248 | (have a9 := i248; unfold In at a9)); have a10 := t_add e248 j62_3 (in_c 1 rfl) rfl; (first | have a11 := in_u ((in_c 1 rfl)) | (have a11 := (in_c 1 rfl); unfold In at a11)); (first | have a12 := in_u i233 | (have a12 := i233; unfold In at a12)); have a13 := t_add e233 (in_c 200 rfl) i67 rfl; (first | have a14 := in_u ((in_c 200 rfl)) | (have a14 := (in_c 200 rfl); unfold In at a14)); omega) (by rw [sI_p rfl, sI_q]) (by rw [sI_q, sI_p rfl]) (by rw [sI_p rfl, sI_p rfl]) (by rw [sI_p rfl, sI_p rfl]) (by rw [sI_p rfl, sI_p rfl]) (by rw [sI_p rfl, sI_p rfl]) rfl rfl rfl i95 (by rw [← e201]; exact c202) (by show y62_5.toInt.toNat < 160; (first | have a0 := in_u h1 | (have a0 := h1; unfold In at a0)); (first | have a1 := in_u ro_109_20 | (have a1 := ro_109_20; unfold In at a1)); (first | have a2 := in_u ro_109_19 | (have a2 := ro_109_19; unfold In at a2)); (first | have a3 := in_u i67 | (have a3 := i67; unfold In at a3)); (first | have a4 := in_u i98 | (have a4 := i98; unfold In at a4)); (first | have a5 := in_u j62_3 | (have a5 := j62_3; unfold In at a5)); (first | have a6 := in_u j62_2 | (have a6 := j62_2; unfold In at a6)); (first | have a7 := in_u i76 | (have a7 := i76; unfold In at a7)); have a8 := t_add e76 ro_109_19 i67 rfl; (first | have a9 := in_u i248 | (have a9 := i248; unfold In at a9)); have a10 := t_add e248 j62_3 (in_c 1 rfl) rfl; (first | have a11 := in_u ((in_c 1 rfl)) | (have a11 := (in_c 1 rfl); unfold In at a11)); (first | have a12 := in_u i233 | (have a12 := i233; unfold In at a12)); have a13 := t_add e233 (in_c 200 rfl) i67 rfl; (first | have a14 := in_u ((in_c 200 rfl)) | (have a14 := (in_c 200 rfl); unfold In at a14)); (first | exact zt_l (by decide) (by omega) | omega)) (Or.inr ⟨by show _ = 200 + ((y62_5.toInt.toNat : Nat) : Int); (first | have a0 := in_u h1 | (have a0 := h1; unfold In at a0)); (first | have a1 := in_u ro_109_20 | (have a1 := ro_109_20; unfold In at a1)); (first | have a2 := in_u ro_109_19 | (have a2 := ro_109_19; unfold In at a2)); (first | have a3 := in_u i67 | (have a3 := i67; unfold In at a3)); (first | have a4 := in_u i98 | (have a4 := i98; unfold In at a4)); (first | have a5 := in_u j62_3 | (have a5 := j62_3; unfold In at a5)); (first | have a6 := in_u j62_2 | (have a6 := j62_2; unfold In at a6)); (first | have a7 := in_u i76 | (have a7 := i76; unfold In at a7)); have a8 := t_add e76 ro_109_19 i67 rfl; (first | have a9 := in_u i248 | (have a9 := i248; unfold In at a9)); have a10 := t_add e248 j62_3 (in_c 1 rfl) rfl; (first | have a11 := in_u ((in_c 1 rfl)) | (have a11 := (in_c 1 rfl); unfold In at a11)); (first | have a12 := in_u i233 | (have a12 := i233; unfold In at a12)); have a13 := t_add e233 (in_c 200 rfl) i67 rfl; (first | have a14 := in_u ((in_c 200 rfl)) | (have a14 := (in_c 200 rfl); unfold In at a14)); omega, by rw [hbs, ← e85]; exact c86, by rw [hbs]; exact e95.symm, by rw [hbs, ← e184, Int32.toInt_inj.mp c187]; exact g62_1, by rw [hbs, ← e184]; exact i184, by rw [← e122]; exact c214a⟩))) | (have nsi : SI (sI (sI sc62 148 z95.toNatClampNeg z233) 132 y62_3.toNatClampNeg z95) (x1).toInt (z248).toInt := (by have hl3 : (z248).toInt = y62_3.toInt + 1 := (by (first | have a0 := in_u h1 | (have a0 := h1; unfold In at a0)); (first | have a1 := in_u ro_109_20 | (have a1 := ro_109_20; unfold In at a1)); (first | have a2 := in_u ro_109_19 | (have a2 := ro_109_19; unfold In at a2)); (first | have a3 := in_u i67 | (have a3 := i67; unfold In at a3)); (first | have a4 := in_u i98 | (have a4 := i98; unfold In at a4)); (first | have a5 := in_u j62_3 | (have a5 := j62_3; unfold In at a5)); (first | have a6 := in_u j62_2 | (have a6 := j62_2; unfold In at a6)); (first | have a7 := in_u i76 | (have a7 := i76; unfold In at a7)); have a8 := t_add e76 ro_109_19 i67 rfl; (first | have a9 := in_u i248 | (have a9 := i248; unfold In at a9)); have a10 := t_add e248 j62_3 (in_c 1 rfl) rfl; (first | have a11 := in_u ((in_c 1 rfl)) | (have a11 := (in_c 1 rfl); unfold In at a11)); (first | have a12 := in_u i233 | (have a12 := i233; unfold In at a12)); have a13 := t_add e233 (in_c 200 rfl) i67 rfl; (first | have a14 := in_u ((in_c 200 rfl)) | (have a14 := (in_c 200 rfl); unfold In at a14)); omega); rw [hl3]; exact si_push (s := sc62) (a := y62_5.toNatClampNeg) (m := y62_3.toNatClampNeg) g62_0 (by show ((y62_3.toInt.toNat : Nat) : Int) = _; (first | have a0 := in_u h1 | (have a0 := h1; unfold In at a0)); (first | have a1 := in_u ro_109_20 | (have a1 := ro_109_20; unfold In at a1)); (first | have a2 := in_u ro_109_19 | (have a2 := ro_109_19; unfold In at a2)); (first | have a3 := in_u i67 | (have a3 := i67; unfold In at a3)); (first | have a4 := in_u i98 | (have a4 := i98; unfold In at a4)); (first | have a5 := in_u j62_3 | (have a5 := j62_3; unfold In at a5)); (first | have a6 := in_u j62_2 | (have a6 := j62_2; unfold In at a6)); (first | have a7 := in_u i76 | (have a7 := i76; unfold In at a7)); have a8 := t_add e76 ro_109_19 i67 rfl; (first | have a9 := in_u i248 | (have a9 := i248; unfold In at a9)); have a10 := t_add e248 j62_3 (in_c 1 rfl) rfl; (first | have a11 := in_u ((in_c 1 rfl)) | (have a11 := (in_c 1 rfl); unfold In at a11)); (first | have a12 := in_u i233 | (have a12 := i233; unfold In at a12)); have a13 := t_add e233 (in_c 200 rfl) i67 rfl; (first | have a14 := in_u ((in_c 200 rfl)) | (have a14 := (in_c 200 rfl); unfold In at a14)); omega) (by rw [sI_p rfl, sI_q]) (by rw [sI_q, sI_p rfl]) (by rw [sI_p rfl, sI_p rfl]) (by rw [sI_p rfl, sI_p rfl]) (by rw [sI_p rfl, sI_p rfl]) (by rw [sI_p rfl, sI_p rfl]) rfl rfl rfl i95 (by rw [← e201]; exact c202) (by show y62_5.toInt.toNat < 160; (first | have a0 := in_u h1 | (have a0 := h1; unfold In at a0)); (first | have a1 := in_u ro_109_20 | (have a1 := ro_109_20; unfold In at a1)); (first | have a2 := in_u ro_109_19 | (have a2 := ro_109_19; unfold In at a2)); (first | have a3 := in_u i67 | (have a3 := i67; unfold In at a3)); (first | have a4 := in_u i98 | (have a4 := i98; unfold In at a4)); (first | have a5 := in_u j62_3 | (have a5 := j62_3; unfold In at a5)); (first | have a6 := in_u j62_2 | (have a6 := j62_2; unfold In at a6)); (first | have a7 := in_u i76 | (have a7 := i76; unfold In at a7)); have a8 := t_add e76 ro_109_19 i67 rfl; (first | have a9 := in_u i248 | (have a9 := i248; unfold In at a9)); have a10 := t_add e248 j62_3 (in_c 1 rfl) rfl; (first | have a11 := in_u ((in_c 1 rfl)) | (have a11 := (in_c 1 rfl); unfold In at a11)); (first | have a12 := in_u i233 | (have a12 := i233; unfold In at a12)); have a13 := t_add e233 (in_c 200 rfl) i67 rfl; (first | have a14 := in_u ((in_c 200 rfl)) | (have a14 := (in_c 200 rfl); unfold In at a14)); (first | exact zt_l (by decide) (by omega) | omega)) (Or.inr ⟨by show _ = 200 + ((y62_5.toInt.toNat : Nat) : Int); (first | have a0 := in_u h1 | (have a0 := h1; unfold In at a0)); (first | have a1 := in_u ro_109_20 | (have a1 := ro_109_20; unfold In at a1)); (first | have a2 := in_u ro_109_19 | (have a2 := ro_109_19; unfold In at a2)); (first | have a3 := in_u i67 | (have a3 := i67; unfold In at a3)); (first | have a4 := in_u i98 | (have a4 := i98; unfold In at a4)); (first | have a5 := in_u j62_3 | (have a5 := j62_3; unfold In at a5)); (first | have a6 := in_u j62_2 | (have a6 := j62_2; unfold In at a6)); (first | have a7 := in_u i76 | (have a7 := i76; unfold In at a7)); have a8 := t_add e76 ro_109_19 i67 rfl; (first | have a9 := in_u i248 | (have a9 := i248; unfold In at a9)); have a10 := t_add e248 j62_3 (in_c 1 rfl) rfl; (first | have a11 := in_u ((in_c 1 rfl)) | (have a11 := (in_c 1 rfl); unfold In at a11)); (first | have a12 := in_u i233 | (have a12 := i233; unfold In at a12)); have a13 := t_add e233 (in_c 200 rfl) i67 rfl; (first | have a14 := in_u ((in_c 200 rfl)) | (have a14 := (in_c 200 rfl); unfold In at a14)); omega, by rw [hbs, ← e85]; exact c86, by rw [hbs]; exact e95.symm, by rw [hbs, ← e111, Int32.toInt_inj.mp c187]; exact g62_1, by rw [hbs, ← e111]; exact i111, by rw [← e211]; exact c214a⟩))) | (have nsi : SI (sI (sI sc62 148 z95.toNatClampNeg z233) 132 y62_3.toNatClampNeg z95) (x1).toInt (z248).toInt := (by have hl3 : (z248).toInt = y62_3.toInt + 1 := (by (first | have a0 := in_u h1 | (have a0 := h1; unfold In at a0)); (first | have a1 := in_u ro_109_20 | (have a1 := ro_109_20; unfold In at a1)); (first | have a2 := in_u ro_109_19 | (have a2 := ro_109_19; unfold In at a2)); (first | have a3 := in_u i67 | (have a3 := i67; unfold In at a3)); (first | have a4 := in_u i98 | (have a4 := i98; unfold In at a4)); (first | have a5 := in_u j62_3 | (have a5 := j62_3; unfold In at a5)); (first | have a6 := in_u j62_2 | (have a6 := j62_2; unfold In at a6)); (first | have a7 := in_u i76 | (have a7 := i76; unfold In at a7)); have a8 := t_add e76 ro_109_19 i67 rfl; (first | have a9 := in_u i248 | (have a9 := i248; unfold In at a9)); have a10 := t_add e248 j62_3 (in_c 1 rfl) rfl; (first | have a11 := in_u ((in_c 1 rfl)) | (have a11 := (in_c 1 rfl); unfold In at a11)); (first | have a12 := in_u i233 | (have a12 := i233; unfold In at a12)); have a13 := t_add e233 (in_c 200 rfl) i67 rfl; (first | have a14 := in_u ((in_c 200 rfl)) | (have a14 := (in_c 200 rfl); unfold In at a14)); omega); rw [hl3]; exact si_push (s := sc62) (a := y62_5.toNatClampNeg) (m := y62_3.toNatClampNeg) g62_0 (by show ((y62_3.toInt.toNat : Nat) : Int) = _; (first | have a0 := in_u h1 | (have a0 := h1; unfold In at a0)); (first | have a1 := in_u ro_109_20 | (have a1 := ro_109_20; unfold In at a1)); (first | have a2 := in_u ro_109_19 | (have a2 := ro_109_19; unfold In at a2)); (first | have a3 := in_u i67 | (have a3 := i67; unfold In at a3)); (first | have a4 := in_u i98 | (have a4 := i98; unfold In at a4)); (first | have a5 := in_u j62_3 | (have a5 := j62_3; unfold In at a5)); (first | have a6 := in_u j62_2 | (have a6 := j62_2; unfold In at a6)); (first | have a7 := in_u i76 | (have a7 := i76; unfold In at a7)); have a8 := t_add e76 ro_109_19 i67 rfl; (first | have a9 := in_u i248 | (have a9 := i248; unfold In at a9)); have a10 := t_add e248 j62_3 (in_c 1 rfl) rfl; (first | have a11 := in_u ((in_c 1 rfl)) | (have a11 := (in_c 1 rfl); unfold In at a11)); (first | have a12 := in_u i233 | (have a12 := i233; unfold In at a12)); have a13 := t_add e233 (in_c 200 rfl) i67 rfl; (first | have a14 := in_u ((in_c 200 rfl)) | (have a14 := (in_c 200 rfl); unfold In at a14)); omega) (by rw [sI_p rfl, sI_q]) (by rw [sI_q, sI_p rfl]) (by rw [sI_p rfl, sI_p rfl]) (by rw [sI_p rfl, sI_p rfl]) (by rw [sI_p rfl, sI_p rfl]) (by rw [sI_p rfl, sI_p rfl]) rfl rfl rfl i95 (by rw [← e201]; exact c202) (by show y62_5.toInt.toNat < 160; (first | have a0 := in_u h1 | (have a0 := h1; unfold In at a0)); (first | have a1 := in_u ro_109_20 | (have a1 := ro_109_20; unfold In at a1)); (first | have a2 := in_u ro_109_19 | (have a2 := ro_109_19; unfold In at a2)); (first | have a3 := in_u i67 | (have a3 := i67; unfold In at a3)); (first | have a4 := in_u i98 | (have a4 := i98; unfold In at a4)); (first | have a5 := in_u j62_3 | (have a5 := j62_3; unfold In at a5)); (first | have a6 := in_u j62_2 | (have a6 := j62_2; unfold In at a6)); (first | have a7 := in_u i76 | (have a7 := i76; unfold In at a7)); have a8 := t_add e76 ro_109_19 i67 rfl; (first | have a9 := in_u i248 | (have a9 := i248; unfold In at a9)); have a10 := t_add e248 j62_3 (in_c 1 rfl) rfl; (first | have a11 := in_u ((in_c 1 rfl)) | (have a11 := (in_c 1 rfl); unfold In at a11)); (first | have a12 := in_u i233 | (have a12 := i233; unfold In at a12)); have a13 := t_add e233 (in_c 200 rfl) i67 rfl; (first | have a14 := in_u ((in_c 200 rfl)) | (have a14 := (in_c 200 rfl); unfold In at a14)); (first | exact zt_l (by decide) (by omega) | omega)) (Or.inr ⟨by show _ = 200 + ((y62_5.toInt.toNat : Nat) : Int); (first | have a0 := in_u h1 | (have a0 := h1; unfold In at a0)); (first | have a1 := in_u ro_109_20 | (have a1 := ro_109_20; unfold In at a1)); (first | have a2 := in_u ro_109_19 | (have a2 := ro_109_19; unfold In at a2)); (first | have a3 := in_u i67 | (have a3 := i67; unfold In at a3)); (first | have a4 := in_u i98 | (have a4 := i98; unfold In at a4)); (first | have a5 := in_u j62_3 | (have a5 := j62_3; unfold In at a5)); (first | have a6 := in_u j62_2 | (have a6 := j62_2; unfold In at a6)); (first | have a7 := in_u i76 | (have a7 := i76; unfold In at a7)); have a8 := t_add e76 ro_109_19 i67 rfl; (first | have a9 := in_u i248 | (have a9 := i248; unfold In at a9)); have a10 := t_add e248 j62_3 (in_c 1 rfl) rfl; (first | have a11 := in_u ((in_c 1 rfl)) | (have a11 := (in_c 1 rfl); unfold In at a11)); (first | have a12 := in_u i233 | (have a12 := i233; unfold In at a12)); have a13 := t_add e233 (in_c 200 rfl) i67 rfl; (first | have a14 := in_u ((in_c 200 rfl)) | (have a14 := (in_c 200 rfl); unfold In at a14)); omega, by rw [hbs, ← e85]; exact c86, by rw [hbs]; exact e95.symm, by rw [hbs, ← e111, Int32.toInt_inj.mp c187]; exact g62_1, by rw [hbs, ← e111]; exact i111, by rw [← e122]; exact c214a⟩))) | skip
                          refine g_iinc 254 (gd rfl) rfl rfl (Nat.le_of_ble_eq_true rfl) (fun z251 e251 => ?_)
                          have i251 := in_add 1 160 e251 i67 (in_c 1 rfl) rfl rfl
                          refine g_goto 62 (gd rfl) rfl ?_
                          have i62 : In z248 0 32 := by first | (exact ⟨by (first | have a0 := in_u h1 | (have a0 := h1; unfold In at a0)); (first | have a1 := in_u ro_109_20 | (have a1 := ro_109_20; unfold In at a1)); (first | have a2 := in_u ro_109_19 | (have a2 := ro_109_19; unfold In at a2)); (first | have a3 := in_u i67 | (have a3 := i67; unfold In at a3)); (first | have a4 := in_u i98 | (have a4 := i98; unfold In at a4)); (first | have a5 := in_u j62_3 | (have a5 := j62_3; unfold In at a5)); (first | have a6 := in_u j62_2 | (have a6 := j62_2; unfold In at a6)); (first | have a7 := in_u i76 | (have a7 := i76; unfold In at a7)); have a8 := t_add e76 ro_109_19 i67 rfl; (first | have a9 := in_u i251 | (have a9 := i251; unfold In at a9)); have a10 := t_add e251 i67 (in_c 1 rfl) rfl; (first | have a11 := in_u ((in_c 1 rfl)) | (have a11 := (in_c 1 rfl); unfold In at a11)); (first | have a12 := in_u i248 | (have a12 := i248; unfold In at a12)); have a13 := t_add e248 j62_3 (in_c 1 rfl) rfl; (first | have a14 := in_u i233 | (have a14 := i233; unfold In at a14)); have a15 := t_add e233 (in_c 200 rfl) i67 rfl; (first | have a16 := in_u ((in_c 200 rfl)) | (have a16 := (in_c 200 rfl); unfold In at a16)); omega, by (first | have a0 := in_u h1 | (have a0 := h1; unfold In at a0)); (first | have a1 := in_u ro_109_20 | (have a1 := ro_109_20; unfold In at a1)); (first | have a2 := in_u ro_109_19 | (have a2 := ro_109_19; unfold In at a2)); (first | have a3 := in_u i67 | (have a3 := i67; unfold In at a3)); (first | have a4 := in_u i98 | (have a4 := i98; unfold In at a4)); (first | have a5 := in_u j62_3 | (have a5 := j62_3; unfold In at a5)); (first | have a6 := in_u j62_2 | (have a6 := j62_2; unfold In at a6)); (first | have a7 := in_u i76 | (have a7 := i76; unfold In at a7)); have a8 := t_add e76 ro_109_19 i67 rfl; (first | have a9 := in_u i251 | (have a9 := i251; unfold In at a9)); have a10 := t_add e251 i67 (in_c 1 rfl) rfl; (first | have a11 := in_u ((in_c 1 rfl)) | (have a11 := (in_c 1 rfl); unfold In at a11)); (first | have a12 := in_u i248 | (have a12 := i248; unfold In at a12)); have a13 := t_add e248 j62_3 (in_c 1 rfl) rfl; (first | have a14 := in_u i233 | (have a14 := i233; unfold In at a14)); have a15 := t_add e233 (in_c 200 rfl) i67 rfl; (first | have a16 := in_u ((in_c 200 rfl)) | (have a16 := (in_c 200 rfl); unfold In at a16)); omega⟩) | (have hq := si_le nsi; exact ⟨by (first | have a0 := in_u h1 | (have a0 := h1; unfold In at a0)); (first | have a1 := in_u ro_109_20 | (have a1 := ro_109_20; unfold In at a1)); (first | have a2 := in_u ro_109_19 | (have a2 := ro_109_19; unfold In at a2)); (first | have a3 := in_u i67 | (have a3 := i67; unfold In at a3)); (first | have a4 := in_u i98 | (have a4 := i98; unfold In at a4)); (first | have a5 := in_u j62_3 | (have a5 := j62_3; unfold In at a5)); (first | have a6 := in_u j62_2 | (have a6 := j62_2; unfold In at a6)); (first | have a7 := in_u i76 | (have a7 := i76; unfold In at a7)); have a8 := t_add e76 ro_109_19 i67 rfl; (first | have a9 := in_u i251 | (have a9 := i251; unfold In at a9)); have a10 := t_add e251 i67 (in_c 1 rfl) rfl; (first | have a11 := in_u ((in_c 1 rfl)) | (have a11 := (in_c 1 rfl); unfold In at a11)); (first | have a12 := in_u i248 | (have a12 := i248; unfold In at a12)); have a13 := t_add e248 j62_3 (in_c 1 rfl) rfl; (first | have a14 := in_u i233 | (have a14 := i233; unfold In at a14)); have a15 := t_add e233 (in_c 200 rfl) i67 rfl; (first | have a16 := in_u ((in_c 200 rfl)) | (have a16 := (in_c 200 rfl); unfold In at a16)); omega, by (first | have a0 := in_u h1 | (have a0 := h1; unfold In at a0)); (first | have a1 := in_u ro_109_20 | (have a1 := ro_109_20; unfold In at a1)); (first | have a2 := in_u ro_109_19 | (have a2 := ro_109_19; unfold In at a2)); (first | have a3 := in_u i67 | (have a3 := i67; unfold In at a3)); (first | have a4 := in_u i98 | (have a4 := i98; unfold In at a4)); (first | have a5 := in_u j62_3 | (have a5 := j62_3; unfold In at a5)); (first | have a6 := in_u j62_2 | (have a6 := j62_2; unfold In at a6)); (first | have a7 := in_u i76 | (have a7 := i76; unfold In at a7)); have a8 := t_add e76 ro_109_19 i67 rfl; (first | have a9 := in_u i251 | (have a9 := i251; unfold In at a9)); have a10 := t_add e251 i67 (in_c 1 rfl) rfl; (first | have a11 := in_u ((in_c 1 rfl)) | (have a11 := (in_c 1 rfl); unfold In at a11)); (first | have a12 := in_u i248 | (have a12 := i248; unfold In at a12)); have a13 := t_add e248 j62_3 (in_c 1 rfl) rfl; (first | have a14 := in_u i233 | (have a14 := i233; unfold In at a14)); have a15 := t_add e233 (in_c 200 rfl) i67 rfl; (first | have a16 := in_u ((in_c 200 rfl)) | (have a16 := (in_c 200 rfl); unfold In at a16)); omega⟩)
                          have n62 : (y62_2).toInt = y43_2.toInt + 1 := by first | exact n62_0 | ((first | have a0 := in_u h1 | (have a0 := h1; unfold In at a0)); (first | have a1 := in_u ro_109_20 | (have a1 := ro_109_20; unfold In at a1)); (first | have a2 := in_u ro_109_19 | (have a2 := ro_109_19; unfold In at a2)); (first | have a3 := in_u i67 | (have a3 := i67; unfold In at a3)); (first | have a4 := in_u i98 | (have a4 := i98; unfold In at a4)); (first | have a5 := in_u j62_3 | (have a5 := j62_3; unfold In at a5)); (first | have a6 := in_u j62_2 | (have a6 := j62_2; unfold In at a6)); (first | have a7 := in_u i76 | (have a7 := i76; unfold In at a7)); have a8 := t_add e76 ro_109_19 i67 rfl; (first | have a9 := in_u i251 | (have a9 := i251; unfold In at a9)); have a10 := t_add e251 i67 (in_c 1 rfl) rfl; (first | have a11 := in_u ((in_c 1 rfl)) | (have a11 := (in_c 1 rfl); unfold In at a11)); (first | have a12 := in_u i62 | (have a12 := i62; unfold In at a12)); have a13 := t_add e248 j62_3 (in_c 1 rfl) rfl; (first | have a14 := in_u i233 | (have a14 := i233; unfold In at a14)); have a15 := t_add e233 (in_c 200 rfl) i67 rfl; (first | have a16 := in_u ((in_c 200 rfl)) | (have a16 := (in_c 200 rfl); unfold In at a16)); omega)
                          have n62a : (y62_2).toInt ≤ (z248).toInt := by (first | have a0 := in_u h1 | (have a0 := h1; unfold In at a0)); (first | have a1 := in_u ro_109_20 | (have a1 := ro_109_20; unfold In at a1)); (first | have a2 := in_u ro_109_19 | (have a2 := ro_109_19; unfold In at a2)); (first | have a3 := in_u i67 | (have a3 := i67; unfold In at a3)); (first | have a4 := in_u i98 | (have a4 := i98; unfold In at a4)); (first | have a5 := in_u j62_3 | (have a5 := j62_3; unfold In at a5)); (first | have a6 := in_u j62_2 | (have a6 := j62_2; unfold In at a6)); (first | have a7 := in_u i76 | (have a7 := i76; unfold In at a7)); have a8 := t_add e76 ro_109_19 i67 rfl; (first | have a9 := in_u i251 | (have a9 := i251; unfold In at a9)); have a10 := t_add e251 i67 (in_c 1 rfl) rfl; (first | have a11 := in_u ((in_c 1 rfl)) | (have a11 := (in_c 1 rfl); unfold In at a11)); (first | have a12 := in_u i62 | (have a12 := i62; unfold In at a12)); have a13 := t_add e248 j62_3 (in_c 1 rfl) rfl; (first | have a14 := in_u i233 | (have a14 := i233; unfold In at a14)); have a15 := t_add e233 (in_c 200 rfl) i67 rfl; (first | have a16 := in_u ((in_c 200 rfl)) | (have a16 := (in_c 200 rfl); unfold In at a16)); omega
                          have n62b : SI (sI (sI sc62 148 z95.toNatClampNeg z233) 132 y62_3.toNatClampNeg z95) (x1).toInt (z248).toInt := by first | exact g43_0 | exact g62_0 | exact nsi
                          have n62c : 0 ≤ ((sI (sI sc62 148 z95.toNatClampNeg z233) 132 y62_3.toNatClampNeg z95).1 148 (y62_4).toNatClampNeg).toInt := by first | exact g62_1 | (have h := g43_0.2.2.1 y43_2.toNatClampNeg (by show ((y43_2.toInt.toNat : Nat) : Int) < _; (first | have a0 := in_u h1 | (have a0 := h1; unfold In at a0)); (first | have a1 := in_u ro_109_20 | (have a1 := ro_109_20; unfold In at a1)); (first | have a2 := in_u ro_109_19 | (have a2 := ro_109_19; unfold In at a2)); (first | have a3 := in_u i67 | (have a3 := i67; unfold In at a3)); (first | have a4 := in_u i98 | (have a4 := i98; unfold In at a4)); (first | have a5 := in_u j62_3 | (have a5 := j62_3; unfold In at a5)); (first | have a6 := in_u j62_2 | (have a6 := j62_2; unfold In at a6)); (first | have a7 := in_u i76 | (have a7 := i76; unfold In at a7)); have a8 := t_add e76 ro_109_19 i67 rfl; (first | have a9 := in_u i251 | (have a9 := i251; unfold In at a9)); have a10 := t_add e251 i67 (in_c 1 rfl) rfl; (first | have a11 := in_u ((in_c 1 rfl)) | (have a11 := (in_c 1 rfl); unfold In at a11)); (first | have a12 := in_u i62 | (have a12 := i62; unfold In at a12)); have a13 := t_add e248 j62_3 (in_c 1 rfl) rfl; (first | have a14 := in_u i233 | (have a14 := i233; unfold In at a14)); have a15 := t_add e233 (in_c 200 rfl) i67 rfl; (first | have a16 := in_u ((in_c 200 rfl)) | (have a16 := (in_c 200 rfl); unfold In at a16)); omega); rw [← e53] at h; exact h.2) | (rw [sI_p rfl, sI_q]; exact up_ge g62_1 (by (first | have a0 := in_u h1 | (have a0 := h1; unfold In at a0)); (first | have a1 := in_u ro_109_20 | (have a1 := ro_109_20; unfold In at a1)); (first | have a2 := in_u ro_109_19 | (have a2 := ro_109_19; unfold In at a2)); (first | have a3 := in_u i67 | (have a3 := i67; unfold In at a3)); (first | have a4 := in_u i98 | (have a4 := i98; unfold In at a4)); (first | have a5 := in_u j62_3 | (have a5 := j62_3; unfold In at a5)); (first | have a6 := in_u j62_2 | (have a6 := j62_2; unfold In at a6)); (first | have a7 := in_u i76 | (have a7 := i76; unfold In at a7)); have a8 := t_add e76 ro_109_19 i67 rfl; (first | have a9 := in_u i251 | (have a9 := i251; unfold In at a9)); have a10 := t_add e251 i67 (in_c 1 rfl) rfl; (first | have a11 := in_u ((in_c 1 rfl)) | (have a11 := (in_c 1 rfl); unfold In at a11)); (first | have a12 := in_u i62 | (have a12 := i62; unfold In at a12)); have a13 := t_add e248 j62_3 (in_c 1 rfl) rfl; (first | have a14 := in_u i233 | (have a14 := i233; unfold In at a14)); have a15 := t_add e233 (in_c 200 rfl) i67 rfl; (first | have a16 := in_u ((in_c 200 rfl)) | (have a16 := (in_c 200 rfl); unfold In at a16)); omega))
                          exact gg_w (by first | exact Nat.le_add_right _ _ | exact gw2 | exact gw3 | exact gwe rfl | exact gwf rfl | exact gwg rfl | exact gwh rfl | omega) (gg_f (gf_cons rfl (gf_cons rfl (gf_cons rfl (gf_cons rfl (gf_cons rfl (gf_cons rfl gf_nil)))))) (ih62 (sI (sI sc62 148 z95.toNatClampNeg z233) 132 y62_3.toNatClampNeg z95) y62_2 z248 y62_4 z251 hI247 (fr_sI rfl (fr_sI rfl hFc62)) (in_w 1 32 j62_2 rfl) i62 (in_w 0 1951 i98 rfl) (in_w 0 160 i251 rfl) n62 n62a n62b n62c (m_up mm62 (t_add e251 i67 (in_c 1 rfl) rfl) (in_w 1 1 (in_c 1 rfl) rfl))))
                · skip
                  have i113 := z_lt (-1) (-1) c113 i112 rfl
                  refine g_aload_n 117 (gd rfl) rfl rfl ?_
                  refine g_getA (q2 := 147) 120 (gd rfl) rfl rfl rfl rfl ?_
                  refine g_iload 122 (gd rfl) rfl rfl ?_
                  refine g_laload 123 (gd rfl) rfl (n := 160) rfl (in_ix i67 rfl) (fun z122 e122 => ?_)
                  refine g_aload_n 124 (gd rfl) rfl rfl ?_
                  refine g_getA (q2 := 116) 127 (gd rfl) rfl rfl rfl rfl ?_
                  refine g_iload 129 (gd rfl) rfl rfl ?_
                  refine g_iaload 130 (gd rfl) rfl (n := 480) rfl (in_ix i76 rfl) (fun z129 e129 => ?_)
                  have i129 := inv_I hIc62 (n := 480) (t := 0) 0 1000000 rfl (in_ix i76 rfl) rfl e129
                  refine g_i2l 131 (gd rfl) rfl (fun z130 e130 => ?_)
                  have i130 := l_i e130 i129
                  refine g_lcmp 132 (gd rfl) rfl (fun z131 e131 => ?_)
                  have i131 := lc_in e131
                  refine g_if_ge 135 168 (gd rfl) rfl rfl (fun c132 => ?_) (fun c132 => ?_)
                  · skip
                    have i132 := z_ge 0 1 c132 i131 rfl
                    have c132a := lc_ge e131 c132
                    have i132a := lr_le2 0 9223372036854775807 c132a i130 (l_rng z122) rfl
                    refine g_aload_n 169 (gd rfl) rfl rfl ?_
                    refine g_getA (q2 := 112) 172 (gd rfl) rfl rfl rfl rfl ?_
                    refine g_iload 174 (gd rfl) rfl rfl ?_
                    refine g_baload 175 (gd rfl) rfl (n := 480) rfl (in_ix i76 rfl) (fun z174 e174 => ?_)
                    have q174 : z85 = z174 := (e85).trans e174.symm
                    subst q174
                    refine g_if_eq 178 251 (gd rfl) rfl rfl (fun c175 => ?_) (fun c175 => ?_)
                    · skip
                      exact zn_eq c175 i86 rfl
                    · skip
                      refine g_aload_n 179 (gd rfl) rfl rfl ?_
                      refine g_getA (q2 := 114) 182 (gd rfl) rfl rfl rfl rfl ?_
                      refine g_iload 184 (gd rfl) rfl rfl ?_
                      refine g_iaload 185 (gd rfl) rfl (n := 480) rfl (in_ix i76 rfl) (fun z184 e184 => ?_)
                      have q184 : z111 = z184 := (e111).trans e184.symm
                      subst q184
                      refine g_iload 187 (gd rfl) rfl rfl ?_
                      refine g_cmp_ne 190 251 (gd rfl) rfl rfl (fun c187 => ?_) (fun c187 => ?_)
                      · skip
                        first | (have nsi : SI sc62 (x1).toInt (y62_3).toInt := (by have hl3 : (y62_3).toInt = y62_3.toInt + 1 := (by (first | have a0 := in_u h1 | (have a0 := h1; unfold In at a0)); (first | have a1 := in_u ro_109_20 | (have a1 := ro_109_20; unfold In at a1)); (first | have a2 := in_u ro_109_19 | (have a2 := ro_109_19; unfold In at a2)); (first | have a3 := in_u i67 | (have a3 := i67; unfold In at a3)); (first | have a4 := in_u i98 | (have a4 := i98; unfold In at a4)); (first | have a5 := in_u j62_3 | (have a5 := j62_3; unfold In at a5)); (first | have a6 := in_u j62_2 | (have a6 := j62_2; unfold In at a6)); (first | have a7 := in_u i76 | (have a7 := i76; unfold In at a7)); have a8 := t_add e76 ro_109_19 i67 rfl; have a9 := tx_i2l e130; (first | have a10 := in_u i129 | (have a10 := i129; unfold In at a10)); omega); rw [hl3]; exact si_push (s := sc62) (a := y62_5.toNatClampNeg) (m := y62_3.toNatClampNeg) g62_0 (by show ((y62_3.toInt.toNat : Nat) : Int) = _; (first | have a0 := in_u h1 | (have a0 := h1; unfold In at a0)); (first | have a1 := in_u ro_109_20 | (have a1 := ro_109_20; unfold In at a1)); (first | have a2 := in_u ro_109_19 | (have a2 := ro_109_19; unfold In at a2)); (first | have a3 := in_u i67 | (have a3 := i67; unfold In at a3)); (first | have a4 := in_u i98 | (have a4 := i98; unfold In at a4)); (first | have a5 := in_u j62_3 | (have a5 := j62_3; unfold In at a5)); (first | have a6 := in_u j62_2 | (have a6 := j62_2; unfold In at a6)); (first | have a7 := in_u i76 | (have a7 := i76; unfold In at a7)); have a8 := t_add e76 ro_109_19 i67 rfl; have a9 := tx_i2l e130; (first | have a10 := in_u i129 | (have a10 := i129; unfold In at a10)); omega) (by rw [sI_p rfl, sI_q]) (by rw [sI_q, sI_p rfl]) (by rw [sI_p rfl, sI_p rfl]) (by rw [sI_p rfl, sI_p rfl]) (by rw [sI_p rfl, sI_p rfl]) (by rw [sI_p rfl, sI_p rfl]) rfl rfl rfl i111 (by rw [← e112]; exact c113) (by show y62_5.toInt.toNat < 160; (first | have a0 := in_u h1 | (have a0 := h1; unfold In at a0)); (first | have a1 := in_u ro_109_20 | (have a1 := ro_109_20; unfold In at a1)); (first | have a2 := in_u ro_109_19 | (have a2 := ro_109_19; unfold In at a2)); (first | have a3 := in_u i67 | (have a3 := i67; unfold In at a3)); (first | have a4 := in_u i98 | (have a4 := i98; unfold In at a4)); (first | have a5 := in_u j62_3 | (have a5 := j62_3; unfold In at a5)); (first | have a6 := in_u j62_2 | (have a6 := j62_2; unfold In at a6)); (first | have a7 := in_u i76 | (have a7 := i76; unfold In at a7)); have a8 := t_add e76 ro_109_19 i67 rfl; have a9 := tx_i2l e130; (first | have a10 := in_u i129 | (have a10 := i129; unfold In at a10)); (first | exact zt_l (by decide) (by omega) | omega)) (Or.inl ⟨by show _ = ((y62_5.toInt.toNat : Nat) : Int); (first | have a0 := in_u h1 | (have a0 := h1; unfold In at a0)); (first | have a1 := in_u ro_109_20 | (have a1 := ro_109_20; unfold In at a1)); (first | have a2 := in_u ro_109_19 | (have a2 := ro_109_19; unfold In at a2)); (first | have a3 := in_u i67 | (have a3 := i67; unfold In at a3)); (first | have a4 := in_u i98 | (have a4 := i98; unfold In at a4)); (first | have a5 := in_u j62_3 | (have a5 := j62_3; unfold In at a5)); (first | have a6 := in_u j62_2 | (have a6 := j62_2; unfold In at a6)); (first | have a7 := in_u i76 | (have a7 := i76; unfold In at a7)); have a8 := t_add e76 ro_109_19 i67 rfl; have a9 := tx_i2l e130; (first | have a10 := in_u i129 | (have a10 := i129; unfold In at a10)); omega, by rw [hbs, ← e85]; exact c86, by rw [hbs]; exact e111.symm, by rw [hbs, ← e95, Int32.toInt_inj.mp c98]; exact g62_1, by rw [hbs, ← e95]; exact i95, by rw [hbs, ← e122, ← e129, ← tx_i2l e130]; exact c132a⟩))) | (have nsi : SI sc62 (x1).toInt (y62_3).toInt := (by have hl3 : (y62_3).toInt = y62_3.toInt + 1 := (by (first | have a0 := in_u h1 | (have a0 := h1; unfold In at a0)); (first | have a1 := in_u ro_109_20 | (have a1 := ro_109_20; unfold In at a1)); (first | have a2 := in_u ro_109_19 | (have a2 := ro_109_19; unfold In at a2)); (first | have a3 := in_u i67 | (have a3 := i67; unfold In at a3)); (first | have a4 := in_u i98 | (have a4 := i98; unfold In at a4)); (first | have a5 := in_u j62_3 | (have a5 := j62_3; unfold In at a5)); (first | have a6 := in_u j62_2 | (have a6 := j62_2; unfold In at a6)); (first | have a7 := in_u i76 | (have a7 := i76; unfold In at a7)); have a8 := t_add e76 ro_109_19 i67 rfl; have a9 := tx_i2l e130; (first | have a10 := in_u i129 | (have a10 := i129; unfold In at a10)); omega); rw [hl3]; exact si_push (s := sc62) (a := y62_5.toNatClampNeg) (m := y62_3.toNatClampNeg) g62_0 (by show ((y62_3.toInt.toNat : Nat) : Int) = _; (first | have a0 := in_u h1 | (have a0 := h1; unfold In at a0)); (first | have a1 := in_u ro_109_20 | (have a1 := ro_109_20; unfold In at a1)); (first | have a2 := in_u ro_109_19 | (have a2 := ro_109_19; unfold In at a2)); (first | have a3 := in_u i67 | (have a3 := i67; unfold In at a3)); (first | have a4 := in_u i98 | (have a4 := i98; unfold In at a4)); (first | have a5 := in_u j62_3 | (have a5 := j62_3; unfold In at a5)); (first | have a6 := in_u j62_2 | (have a6 := j62_2; unfold In at a6)); (first | have a7 := in_u i76 | (have a7 := i76; unfold In at a7)); have a8 := t_add e76 ro_109_19 i67 rfl; have a9 := tx_i2l e130; (first | have a10 := in_u i129 | (have a10 := i129; unfold In at a10)); omega) (by rw [sI_p rfl, sI_q]) (by rw [sI_q, sI_p rfl]) (by rw [sI_p rfl, sI_p rfl]) (by rw [sI_p rfl, sI_p rfl]) (by rw [sI_p rfl, sI_p rfl]) (by rw [sI_p rfl, sI_p rfl]) rfl rfl rfl i95 (by rw [← e201]; exact c202) (by show y62_5.toInt.toNat < 160; (first | have a0 := in_u h1 | (have a0 := h1; unfold In at a0)); (first | have a1 := in_u ro_109_20 | (have a1 := ro_109_20; unfold In at a1)); (first | have a2 := in_u ro_109_19 | (have a2 := ro_109_19; unfold In at a2)); (first | have a3 := in_u i67 | (have a3 := i67; unfold In at a3)); (first | have a4 := in_u i98 | (have a4 := i98; unfold In at a4)); (first | have a5 := in_u j62_3 | (have a5 := j62_3; unfold In at a5)); (first | have a6 := in_u j62_2 | (have a6 := j62_2; unfold In at a6)); (first | have a7 := in_u i76 | (have a7 := i76; unfold In at a7)); have a8 := t_add e76 ro_109_19 i67 rfl; have a9 := tx_i2l e130; (first | have a10 := in_u i129 | (have a10 := i129; unfold In at a10)); (first | exact zt_l (by decide) (by omega) | omega)) (Or.inr ⟨by show _ = 200 + ((y62_5.toInt.toNat : Nat) : Int); (first | have a0 := in_u h1 | (have a0 := h1; unfold In at a0)); (first | have a1 := in_u ro_109_20 | (have a1 := ro_109_20; unfold In at a1)); (first | have a2 := in_u ro_109_19 | (have a2 := ro_109_19; unfold In at a2)); (first | have a3 := in_u i67 | (have a3 := i67; unfold In at a3)); (first | have a4 := in_u i98 | (have a4 := i98; unfold In at a4)); (first | have a5 := in_u j62_3 | (have a5 := j62_3; unfold In at a5)); (first | have a6 := in_u j62_2 | (have a6 := j62_2; unfold In at a6)); (first | have a7 := in_u i76 | (have a7 := i76; unfold In at a7)); have a8 := t_add e76 ro_109_19 i67 rfl; have a9 := tx_i2l e130; (first | have a10 := in_u i129 | (have a10 := i129; unfold In at a10)); omega, by rw [hbs, ← e85]; exact c86, by rw [hbs]; exact e95.symm, by rw [hbs, ← e184, Int32.toInt_inj.mp c187]; exact g62_1, by rw [hbs, ← e184]; exact i184, by rw [← e211]; exact c214a⟩))) | (have nsi : SI sc62 (x1).toInt (y62_3).toInt := (by have hl3 : (y62_3).toInt = y62_3.toInt + 1 := (by (first | have a0 := in_u h1 | (have a0 := h1; unfold In at a0)); (first | have a1 := in_u ro_109_20 | (have a1 := ro_109_20; unfold In at a1)); (first | have a2 := in_u ro_109_19 | (have a2 := ro_109_19; unfold In at a2)); (first | have a3 := in_u i67 | (have a3 := i67; unfold In at a3)); (first | have a4 := in_u i98 | (have a4 := i98; unfold In at a4)); (first | have a5 := in_u j62_3 | (have a5 := j62_3; unfold In at a5)); (first | have a6 := in_u j62_2 | (have a6 := j62_2; unfold In at a6)); (first | have a7 := in_u i76 | (have a7 := i76; unfold In at a7)); have a8 := t_add e76 ro_109_19 i67 rfl; have a9 := tx_i2l e130; (first | have a10 := in_u i129 | (have a10 := i129; unfold In at a10)); omega); rw [hl3]; exact si_push (s := sc62) (a := y62_5.toNatClampNeg) (m := y62_3.toNatClampNeg) g62_0 (by show ((y62_3.toInt.toNat : Nat) : Int) = _; (first | have a0 := in_u h1 | (have a0 := h1; unfold In at a0)); (first | have a1 := in_u ro_109_20 | (have a1 := ro_109_20; unfold In at a1)); (first | have a2 := in_u ro_109_19 | (have a2 := ro_109_19; unfold In at a2)); (first | have a3 := in_u i67 | (have a3 := i67; unfold In at a3)); (first | have a4 := in_u i98 | (have a4 := i98; unfold In at a4)); (first | have a5 := in_u j62_3 | (have a5 := j62_3; unfold In at a5)); (first | have a6 := in_u j62_2 | (have a6 := j62_2; unfold In at a6)); (first | have a7 := in_u i76 | (have a7 := i76; unfold In at a7)); have a8 := t_add e76 ro_109_19 i67 rfl; have a9 := tx_i2l e130; (first | have a10 := in_u i129 | (have a10 := i129; unfold In at a10)); omega) (by rw [sI_p rfl, sI_q]) (by rw [sI_q, sI_p rfl]) (by rw [sI_p rfl, sI_p rfl]) (by rw [sI_p rfl, sI_p rfl]) (by rw [sI_p rfl, sI_p rfl]) (by rw [sI_p rfl, sI_p rfl]) rfl rfl rfl i95 (by rw [← e201]; exact c202) (by show y62_5.toInt.toNat < 160; (first | have a0 := in_u h1 | (have a0 := h1; unfold In at a0)); (first | have a1 := in_u ro_109_20 | (have a1 := ro_109_20; unfold In at a1)); (first | have a2 := in_u ro_109_19 | (have a2 := ro_109_19; unfold In at a2)); (first | have a3 := in_u i67 | (have a3 := i67; unfold In at a3)); (first | have a4 := in_u i98 | (have a4 := i98; unfold In at a4)); (first | have a5 := in_u j62_3 | (have a5 := j62_3; unfold In at a5)); (first | have a6 := in_u j62_2 | (have a6 := j62_2; unfold In at a6)); (first | have a7 := in_u i76 | (have a7 := i76; unfold In at a7)); have a8 := t_add e76 ro_109_19 i67 rfl; have a9 := tx_i2l e130; (first | have a10 := in_u i129 | (have a10 := i129; unfold In at a10)); (first | exact zt_l (by decide) (by omega) | omega)) (Or.inr ⟨by show _ = 200 + ((y62_5.toInt.toNat : Nat) : Int); (first | have a0 := in_u h1 | (have a0 := h1; unfold In at a0)); (first | have a1 := in_u ro_109_20 | (have a1 := ro_109_20; unfold In at a1)); (first | have a2 := in_u ro_109_19 | (have a2 := ro_109_19; unfold In at a2)); (first | have a3 := in_u i67 | (have a3 := i67; unfold In at a3)); (first | have a4 := in_u i98 | (have a4 := i98; unfold In at a4)); (first | have a5 := in_u j62_3 | (have a5 := j62_3; unfold In at a5)); (first | have a6 := in_u j62_2 | (have a6 := j62_2; unfold In at a6)); (first | have a7 := in_u i76 | (have a7 := i76; unfold In at a7)); have a8 := t_add e76 ro_109_19 i67 rfl; have a9 := tx_i2l e130; (first | have a10 := in_u i129 | (have a10 := i129; unfold In at a10)); omega, by rw [hbs, ← e85]; exact c86, by rw [hbs]; exact e95.symm, by rw [hbs, ← e184, Int32.toInt_inj.mp c187]; exact g62_1, by rw [hbs, ← e184]; exact i184, by rw [← e122]; exact c214a⟩))) | (have nsi : SI sc62 (x1).toInt (y62_3).toInt := (by have hl3 : (y62_3).toInt = y62_3.toInt + 1 := (by (first | have a0 := in_u h1 | (have a0 := h1; unfold In at a0)); (first | have a1 := in_u ro_109_20 | (have a1 := ro_109_20; unfold In at a1)); (first | have a2 := in_u ro_109_19 | (have a2 := ro_109_19; unfold In at a2)); (first | have a3 := in_u i67 | (have a3 := i67; unfold In at a3)); (first | have a4 := in_u i98 | (have a4 := i98; unfold In at a4)); (first | have a5 := in_u j62_3 | (have a5 := j62_3; unfold In at a5)); (first | have a6 := in_u j62_2 | (have a6 := j62_2; unfold In at a6)); (first | have a7 := in_u i76 | (have a7 := i76; unfold In at a7)); have a8 := t_add e76 ro_109_19 i67 rfl; have a9 := tx_i2l e130; (first | have a10 := in_u i129 | (have a10 := i129; unfold In at a10)); omega); rw [hl3]; exact si_push (s := sc62) (a := y62_5.toNatClampNeg) (m := y62_3.toNatClampNeg) g62_0 (by show ((y62_3.toInt.toNat : Nat) : Int) = _; (first | have a0 := in_u h1 | (have a0 := h1; unfold In at a0)); (first | have a1 := in_u ro_109_20 | (have a1 := ro_109_20; unfold In at a1)); (first | have a2 := in_u ro_109_19 | (have a2 := ro_109_19; unfold In at a2)); (first | have a3 := in_u i67 | (have a3 := i67; unfold In at a3)); (first | have a4 := in_u i98 | (have a4 := i98; unfold In at a4)); (first | have a5 := in_u j62_3 | (have a5 := j62_3; unfold In at a5)); (first | have a6 := in_u j62_2 | (have a6 := j62_2; unfold In at a6)); (first | have a7 := in_u i76 | (have a7 := i76; unfold In at a7)); have a8 := t_add e76 ro_109_19 i67 rfl; have a9 := tx_i2l e130; (first | have a10 := in_u i129 | (have a10 := i129; unfold In at a10)); omega) (by rw [sI_p rfl, sI_q]) (by rw [sI_q, sI_p rfl]) (by rw [sI_p rfl, sI_p rfl]) (by rw [sI_p rfl, sI_p rfl]) (by rw [sI_p rfl, sI_p rfl]) (by rw [sI_p rfl, sI_p rfl]) rfl rfl rfl i95 (by rw [← e201]; exact c202) (by show y62_5.toInt.toNat < 160; (first | have a0 := in_u h1 | (have a0 := h1; unfold In at a0)); (first | have a1 := in_u ro_109_20 | (have a1 := ro_109_20; unfold In at a1)); (first | have a2 := in_u ro_109_19 | (have a2 := ro_109_19; unfold In at a2)); (first | have a3 := in_u i67 | (have a3 := i67; unfold In at a3)); (first | have a4 := in_u i98 | (have a4 := i98; unfold In at a4)); (first | have a5 := in_u j62_3 | (have a5 := j62_3; unfold In at a5)); (first | have a6 := in_u j62_2 | (have a6 := j62_2; unfold In at a6)); (first | have a7 := in_u i76 | (have a7 := i76; unfold In at a7)); have a8 := t_add e76 ro_109_19 i67 rfl; have a9 := tx_i2l e130; (first | have a10 := in_u i129 | (have a10 := i129; unfold In at a10)); (first | exact zt_l (by decide) (by omega) | omega)) (Or.inr ⟨by show _ = 200 + ((y62_5.toInt.toNat : Nat) : Int); (first | have a0 := in_u h1 | (have a0 := h1; unfold In at a0)); (first | have a1 := in_u ro_109_20 | (have a1 := ro_109_20; unfold In at a1)); (first | have a2 := in_u ro_109_19 | (have a2 := ro_109_19; unfold In at a2)); (first | have a3 := in_u i67 | (have a3 := i67; unfold In at a3)); (first | have a4 := in_u i98 | (have a4 := i98; unfold In at a4)); (first | have a5 := in_u j62_3 | (have a5 := j62_3; unfold In at a5)); (first | have a6 := in_u j62_2 | (have a6 := j62_2; unfold In at a6)); (first | have a7 := in_u i76 | (have a7 := i76; unfold In at a7)); have a8 := t_add e76 ro_109_19 i67 rfl; have a9 := tx_i2l e130; (first | have a10 := in_u i129 | (have a10 := i129; unfold In at a10)); omega, by rw [hbs, ← e85]; exact c86, by rw [hbs]; exact e95.symm, by rw [hbs, ← e111, Int32.toInt_inj.mp c187]; exact g62_1, by rw [hbs, ← e111]; exact i111, by rw [← e211]; exact c214a⟩))) | (have nsi : SI sc62 (x1).toInt (y62_3).toInt := (by have hl3 : (y62_3).toInt = y62_3.toInt + 1 := (by (first | have a0 := in_u h1 | (have a0 := h1; unfold In at a0)); (first | have a1 := in_u ro_109_20 | (have a1 := ro_109_20; unfold In at a1)); (first | have a2 := in_u ro_109_19 | (have a2 := ro_109_19; unfold In at a2)); (first | have a3 := in_u i67 | (have a3 := i67; unfold In at a3)); (first | have a4 := in_u i98 | (have a4 := i98; unfold In at a4)); (first | have a5 := in_u j62_3 | (have a5 := j62_3; unfold In at a5)); (first | have a6 := in_u j62_2 | (have a6 := j62_2; unfold In at a6)); (first | have a7 := in_u i76 | (have a7 := i76; unfold In at a7)); have a8 := t_add e76 ro_109_19 i67 rfl; have a9 := tx_i2l e130; (first | have a10 := in_u i129 | (have a10 := i129; unfold In at a10)); omega); rw [hl3]; exact si_push (s := sc62) (a := y62_5.toNatClampNeg) (m := y62_3.toNatClampNeg) g62_0 (by show ((y62_3.toInt.toNat : Nat) : Int) = _; (first | have a0 := in_u h1 | (have a0 := h1; unfold In at a0)); (first | have a1 := in_u ro_109_20 | (have a1 := ro_109_20; unfold In at a1)); (first | have a2 := in_u ro_109_19 | (have a2 := ro_109_19; unfold In at a2)); (first | have a3 := in_u i67 | (have a3 := i67; unfold In at a3)); (first | have a4 := in_u i98 | (have a4 := i98; unfold In at a4)); (first | have a5 := in_u j62_3 | (have a5 := j62_3; unfold In at a5)); (first | have a6 := in_u j62_2 | (have a6 := j62_2; unfold In at a6)); (first | have a7 := in_u i76 | (have a7 := i76; unfold In at a7)); have a8 := t_add e76 ro_109_19 i67 rfl; have a9 := tx_i2l e130; (first | have a10 := in_u i129 | (have a10 := i129; unfold In at a10)); omega) (by rw [sI_p rfl, sI_q]) (by rw [sI_q, sI_p rfl]) (by rw [sI_p rfl, sI_p rfl]) (by rw [sI_p rfl, sI_p rfl]) (by rw [sI_p rfl, sI_p rfl]) (by rw [sI_p rfl, sI_p rfl]) rfl rfl rfl i95 (by rw [← e201]; exact c202) (by show y62_5.toInt.toNat < 160; (first | have a0 := in_u h1 | (have a0 := h1; unfold In at a0)); (first | have a1 := in_u ro_109_20 | (have a1 := ro_109_20; unfold In at a1)); (first | have a2 := in_u ro_109_19 | (have a2 := ro_109_19; unfold In at a2)); (first | have a3 := in_u i67 | (have a3 := i67; unfold In at a3)); (first | have a4 := in_u i98 | (have a4 := i98; unfold In at a4)); (first | have a5 := in_u j62_3 | (have a5 := j62_3; unfold In at a5)); (first | have a6 := in_u j62_2 | (have a6 := j62_2; unfold In at a6)); (first | have a7 := in_u i76 | (have a7 := i76; unfold In at a7)); have a8 := t_add e76 ro_109_19 i67 rfl; have a9 := tx_i2l e130; (first | have a10 := in_u i129 | (have a10 := i129; unfold In at a10)); (first | exact zt_l (by decide) (by omega) | omega)) (Or.inr ⟨by show _ = 200 + ((y62_5.toInt.toNat : Nat) : Int); (first | have a0 := in_u h1 | (have a0 := h1; unfold In at a0)); (first | have a1 := in_u ro_109_20 | (have a1 := ro_109_20; unfold In at a1)); (first | have a2 := in_u ro_109_19 | (have a2 := ro_109_19; unfold In at a2)); (first | have a3 := in_u i67 | (have a3 := i67; unfold In at a3)); (first | have a4 := in_u i98 | (have a4 := i98; unfold In at a4)); (first | have a5 := in_u j62_3 | (have a5 := j62_3; unfold In at a5)); (first | have a6 := in_u j62_2 | (have a6 := j62_2; unfold In at a6)); (first | have a7 := in_u i76 | (have a7 := i76; unfold In at a7)); have a8 := t_add e76 ro_109_19 i67 rfl; have a9 := tx_i2l e130; (first | have a10 := in_u i129 | (have a10 := i129; unfold In at a10)); omega, by rw [hbs, ← e85]; exact c86, by rw [hbs]; exact e95.symm, by rw [hbs, ← e111, Int32.toInt_inj.mp c187]; exact g62_1, by rw [hbs, ← e111]; exact i111, by rw [← e122]; exact c214a⟩))) | skip
                        refine g_iinc 254 (gd rfl) rfl rfl (Nat.le_of_ble_eq_true rfl) (fun z251 e251 => ?_)
                        have i251 := in_add 1 160 e251 i67 (in_c 1 rfl) rfl rfl
                        refine g_goto 62 (gd rfl) rfl ?_
                        have n62 : (y62_2).toInt = y43_2.toInt + 1 := by first | exact n62_0 | ((first | have a0 := in_u h1 | (have a0 := h1; unfold In at a0)); (first | have a1 := in_u ro_109_20 | (have a1 := ro_109_20; unfold In at a1)); (first | have a2 := in_u ro_109_19 | (have a2 := ro_109_19; unfold In at a2)); (first | have a3 := in_u i67 | (have a3 := i67; unfold In at a3)); (first | have a4 := in_u i98 | (have a4 := i98; unfold In at a4)); (first | have a5 := in_u j62_3 | (have a5 := j62_3; unfold In at a5)); (first | have a6 := in_u j62_2 | (have a6 := j62_2; unfold In at a6)); (first | have a7 := in_u i76 | (have a7 := i76; unfold In at a7)); have a8 := t_add e76 ro_109_19 i67 rfl; (first | have a9 := in_u i251 | (have a9 := i251; unfold In at a9)); have a10 := t_add e251 i67 (in_c 1 rfl) rfl; (first | have a11 := in_u ((in_c 1 rfl)) | (have a11 := (in_c 1 rfl); unfold In at a11)); have a12 := tx_i2l e130; (first | have a13 := in_u i129 | (have a13 := i129; unfold In at a13)); omega)
                        have n62a : (y62_2).toInt ≤ (y62_3).toInt := by first | exact n62_1 | ((first | have a0 := in_u h1 | (have a0 := h1; unfold In at a0)); (first | have a1 := in_u ro_109_20 | (have a1 := ro_109_20; unfold In at a1)); (first | have a2 := in_u ro_109_19 | (have a2 := ro_109_19; unfold In at a2)); (first | have a3 := in_u i67 | (have a3 := i67; unfold In at a3)); (first | have a4 := in_u i98 | (have a4 := i98; unfold In at a4)); (first | have a5 := in_u j62_3 | (have a5 := j62_3; unfold In at a5)); (first | have a6 := in_u j62_2 | (have a6 := j62_2; unfold In at a6)); (first | have a7 := in_u i76 | (have a7 := i76; unfold In at a7)); have a8 := t_add e76 ro_109_19 i67 rfl; (first | have a9 := in_u i251 | (have a9 := i251; unfold In at a9)); have a10 := t_add e251 i67 (in_c 1 rfl) rfl; (first | have a11 := in_u ((in_c 1 rfl)) | (have a11 := (in_c 1 rfl); unfold In at a11)); have a12 := tx_i2l e130; (first | have a13 := in_u i129 | (have a13 := i129; unfold In at a13)); omega)
                        have n62b : SI sc62 (x1).toInt (y62_3).toInt := by first | exact g43_0 | exact g62_0 | exact nsi
                        have n62c : 0 ≤ (sc62.1 148 (y62_4).toNatClampNeg).toInt := by first | exact g62_1 | (first | exact g62_1 | (have h := g43_0.2.2.1 y43_2.toNatClampNeg (by show ((y43_2.toInt.toNat : Nat) : Int) < _; (first | have a0 := in_u h1 | (have a0 := h1; unfold In at a0)); (first | have a1 := in_u ro_109_20 | (have a1 := ro_109_20; unfold In at a1)); (first | have a2 := in_u ro_109_19 | (have a2 := ro_109_19; unfold In at a2)); (first | have a3 := in_u i67 | (have a3 := i67; unfold In at a3)); (first | have a4 := in_u i98 | (have a4 := i98; unfold In at a4)); (first | have a5 := in_u j62_3 | (have a5 := j62_3; unfold In at a5)); (first | have a6 := in_u j62_2 | (have a6 := j62_2; unfold In at a6)); (first | have a7 := in_u i76 | (have a7 := i76; unfold In at a7)); have a8 := t_add e76 ro_109_19 i67 rfl; (first | have a9 := in_u i251 | (have a9 := i251; unfold In at a9)); have a10 := t_add e251 i67 (in_c 1 rfl) rfl; (first | have a11 := in_u ((in_c 1 rfl)) | (have a11 := (in_c 1 rfl); unfold In at a11)); have a12 := tx_i2l e130; (first | have a13 := in_u i129 | (have a13 := i129; unfold In at a13)); omega); rw [← e53] at h; exact h.2) | (rw [sI_p rfl, sI_q]; exact up_ge g62_1 (by (first | have a0 := in_u h1 | (have a0 := h1; unfold In at a0)); (first | have a1 := in_u ro_109_20 | (have a1 := ro_109_20; unfold In at a1)); (first | have a2 := in_u ro_109_19 | (have a2 := ro_109_19; unfold In at a2)); (first | have a3 := in_u i67 | (have a3 := i67; unfold In at a3)); (first | have a4 := in_u i98 | (have a4 := i98; unfold In at a4)); (first | have a5 := in_u j62_3 | (have a5 := j62_3; unfold In at a5)); (first | have a6 := in_u j62_2 | (have a6 := j62_2; unfold In at a6)); (first | have a7 := in_u i76 | (have a7 := i76; unfold In at a7)); have a8 := t_add e76 ro_109_19 i67 rfl; (first | have a9 := in_u i251 | (have a9 := i251; unfold In at a9)); have a10 := t_add e251 i67 (in_c 1 rfl) rfl; (first | have a11 := in_u ((in_c 1 rfl)) | (have a11 := (in_c 1 rfl); unfold In at a11)); have a12 := tx_i2l e130; (first | have a13 := in_u i129 | (have a13 := i129; unfold In at a13)); omega)))
                        exact gg_w (by first | exact Nat.le_add_right _ _ | exact gw2 | exact gw3 | exact gwe rfl | exact gwf rfl | exact gwg rfl | exact gwh rfl | omega) (gg_f (gf_cons rfl (gf_cons rfl (gf_cons rfl (gf_cons rfl (gf_cons rfl (gf_cons rfl gf_nil)))))) (ih62 sc62 y62_2 y62_3 y62_4 z251 hIc62 hFc62 (in_w 1 32 j62_2 rfl) (in_w 0 32 j62_3 rfl) (in_w 0 1951 i98 rfl) (in_w 0 160 i251 rfl) n62 n62a n62b n62c (m_up mm62 (t_add e251 i67 (in_c 1 rfl) rfl) (in_w 1 1 (in_c 1 rfl) rfl))))
                      · skip
                        refine g_aload_n 191 (gd rfl) rfl rfl ?_
                        refine g_getA (q2 := 148) 194 (gd rfl) rfl rfl rfl rfl ?_
                        refine g_aload_n 195 (gd rfl) rfl rfl ?_
                        refine g_getA (q2 := 113) 198 (gd rfl) rfl rfl rfl rfl ?_
                        refine g_iload 200 (gd rfl) rfl rfl ?_
                        refine g_iaload 201 (gd rfl) rfl (n := 480) rfl (in_ix i76 rfl) (fun z200 e200 => ?_)
                        have q200 : z95 = z200 := (e95).trans e200.symm
                        subst q200
                        refine g_iaload 202 (gd rfl) rfl (n := 34) rfl (in_ix i95 rfl) (fun z201 e201 => ?_)
                        have i201 := inv_I hIc62 (n := 34) (t := 0) (-1) 1000 rfl (in_ix i95 rfl) rfl e201
                        refine g_if_ge 205 251 (gd rfl) rfl rfl (fun c202 => ?_) (fun c202 => ?_)
                        · skip
                          have i202 := z_ge 0 1000 c202 i201 rfl
                          first | (have nsi : SI sc62 (x1).toInt (y62_3).toInt := (by have hl3 : (y62_3).toInt = y62_3.toInt + 1 := (by (first | have a0 := in_u h1 | (have a0 := h1; unfold In at a0)); (first | have a1 := in_u ro_109_20 | (have a1 := ro_109_20; unfold In at a1)); (first | have a2 := in_u ro_109_19 | (have a2 := ro_109_19; unfold In at a2)); (first | have a3 := in_u i67 | (have a3 := i67; unfold In at a3)); (first | have a4 := in_u i98 | (have a4 := i98; unfold In at a4)); (first | have a5 := in_u j62_3 | (have a5 := j62_3; unfold In at a5)); (first | have a6 := in_u j62_2 | (have a6 := j62_2; unfold In at a6)); (first | have a7 := in_u i76 | (have a7 := i76; unfold In at a7)); have a8 := t_add e76 ro_109_19 i67 rfl; have a9 := tx_i2l e130; (first | have a10 := in_u i129 | (have a10 := i129; unfold In at a10)); omega); rw [hl3]; exact si_push (s := sc62) (a := y62_5.toNatClampNeg) (m := y62_3.toNatClampNeg) g62_0 (by show ((y62_3.toInt.toNat : Nat) : Int) = _; (first | have a0 := in_u h1 | (have a0 := h1; unfold In at a0)); (first | have a1 := in_u ro_109_20 | (have a1 := ro_109_20; unfold In at a1)); (first | have a2 := in_u ro_109_19 | (have a2 := ro_109_19; unfold In at a2)); (first | have a3 := in_u i67 | (have a3 := i67; unfold In at a3)); (first | have a4 := in_u i98 | (have a4 := i98; unfold In at a4)); (first | have a5 := in_u j62_3 | (have a5 := j62_3; unfold In at a5)); (first | have a6 := in_u j62_2 | (have a6 := j62_2; unfold In at a6)); (first | have a7 := in_u i76 | (have a7 := i76; unfold In at a7)); have a8 := t_add e76 ro_109_19 i67 rfl; have a9 := tx_i2l e130; (first | have a10 := in_u i129 | (have a10 := i129; unfold In at a10)); omega) (by rw [sI_p rfl, sI_q]) (by rw [sI_q, sI_p rfl]) (by rw [sI_p rfl, sI_p rfl]) (by rw [sI_p rfl, sI_p rfl]) (by rw [sI_p rfl, sI_p rfl]) (by rw [sI_p rfl, sI_p rfl]) rfl rfl rfl i111 (by rw [← e112]; exact c113) (by show y62_5.toInt.toNat < 160; (first | have a0 := in_u h1 | (have a0 := h1; unfold In at a0)); (first | have a1 := in_u ro_109_20 | (have a1 := ro_109_20; unfold In at a1)); (first | have a2 := in_u ro_109_19 | (have a2 := ro_109_19; unfold In at a2)); (first | have a3 := in_u i67 | (have a3 := i67; unfold In at a3)); (first | have a4 := in_u i98 | (have a4 := i98; unfold In at a4)); (first | have a5 := in_u j62_3 | (have a5 := j62_3; unfold In at a5)); (first | have a6 := in_u j62_2 | (have a6 := j62_2; unfold In at a6)); (first | have a7 := in_u i76 | (have a7 := i76; unfold In at a7)); have a8 := t_add e76 ro_109_19 i67 rfl; have a9 := tx_i2l e130; (first | have a10 := in_u i129 | (have a10 := i129; unfold In at a10)); (first | exact zt_l (by decide) (by omega) | omega)) (Or.inl ⟨by show _ = ((y62_5.toInt.toNat : Nat) : Int); (first | have a0 := in_u h1 | (have a0 := h1; unfold In at a0)); (first | have a1 := in_u ro_109_20 | (have a1 := ro_109_20; unfold In at a1)); (first | have a2 := in_u ro_109_19 | (have a2 := ro_109_19; unfold In at a2)); (first | have a3 := in_u i67 | (have a3 := i67; unfold In at a3)); (first | have a4 := in_u i98 | (have a4 := i98; unfold In at a4)); (first | have a5 := in_u j62_3 | (have a5 := j62_3; unfold In at a5)); (first | have a6 := in_u j62_2 | (have a6 := j62_2; unfold In at a6)); (first | have a7 := in_u i76 | (have a7 := i76; unfold In at a7)); have a8 := t_add e76 ro_109_19 i67 rfl; have a9 := tx_i2l e130; (first | have a10 := in_u i129 | (have a10 := i129; unfold In at a10)); omega, by rw [hbs, ← e85]; exact c86, by rw [hbs]; exact e111.symm, by rw [hbs, ← e95, Int32.toInt_inj.mp c98]; exact g62_1, by rw [hbs, ← e95]; exact i95, by rw [hbs, ← e122, ← e129, ← tx_i2l e130]; exact c132a⟩))) | (have nsi : SI sc62 (x1).toInt (y62_3).toInt := (by have hl3 : (y62_3).toInt = y62_3.toInt + 1 := (by (first | have a0 := in_u h1 | (have a0 := h1; unfold In at a0)); (first | have a1 := in_u ro_109_20 | (have a1 := ro_109_20; unfold In at a1)); (first | have a2 := in_u ro_109_19 | (have a2 := ro_109_19; unfold In at a2)); (first | have a3 := in_u i67 | (have a3 := i67; unfold In at a3)); (first | have a4 := in_u i98 | (have a4 := i98; unfold In at a4)); (first | have a5 := in_u j62_3 | (have a5 := j62_3; unfold In at a5)); (first | have a6 := in_u j62_2 | (have a6 := j62_2; unfold In at a6)); (first | have a7 := in_u i76 | (have a7 := i76; unfold In at a7)); have a8 := t_add e76 ro_109_19 i67 rfl; have a9 := tx_i2l e130; (first | have a10 := in_u i129 | (have a10 := i129; unfold In at a10)); omega); rw [hl3]; exact si_push (s := sc62) (a := y62_5.toNatClampNeg) (m := y62_3.toNatClampNeg) g62_0 (by show ((y62_3.toInt.toNat : Nat) : Int) = _; (first | have a0 := in_u h1 | (have a0 := h1; unfold In at a0)); (first | have a1 := in_u ro_109_20 | (have a1 := ro_109_20; unfold In at a1)); (first | have a2 := in_u ro_109_19 | (have a2 := ro_109_19; unfold In at a2)); (first | have a3 := in_u i67 | (have a3 := i67; unfold In at a3)); (first | have a4 := in_u i98 | (have a4 := i98; unfold In at a4)); (first | have a5 := in_u j62_3 | (have a5 := j62_3; unfold In at a5)); (first | have a6 := in_u j62_2 | (have a6 := j62_2; unfold In at a6)); (first | have a7 := in_u i76 | (have a7 := i76; unfold In at a7)); have a8 := t_add e76 ro_109_19 i67 rfl; have a9 := tx_i2l e130; (first | have a10 := in_u i129 | (have a10 := i129; unfold In at a10)); omega) (by rw [sI_p rfl, sI_q]) (by rw [sI_q, sI_p rfl]) (by rw [sI_p rfl, sI_p rfl]) (by rw [sI_p rfl, sI_p rfl]) (by rw [sI_p rfl, sI_p rfl]) (by rw [sI_p rfl, sI_p rfl]) rfl rfl rfl i95 (by rw [← e201]; exact c202) (by show y62_5.toInt.toNat < 160; (first | have a0 := in_u h1 | (have a0 := h1; unfold In at a0)); (first | have a1 := in_u ro_109_20 | (have a1 := ro_109_20; unfold In at a1)); (first | have a2 := in_u ro_109_19 | (have a2 := ro_109_19; unfold In at a2)); (first | have a3 := in_u i67 | (have a3 := i67; unfold In at a3)); (first | have a4 := in_u i98 | (have a4 := i98; unfold In at a4)); (first | have a5 := in_u j62_3 | (have a5 := j62_3; unfold In at a5)); (first | have a6 := in_u j62_2 | (have a6 := j62_2; unfold In at a6)); (first | have a7 := in_u i76 | (have a7 := i76; unfold In at a7)); have a8 := t_add e76 ro_109_19 i67 rfl; have a9 := tx_i2l e130; (first | have a10 := in_u i129 | (have a10 := i129; unfold In at a10)); (first | exact zt_l (by decide) (by omega) | omega)) (Or.inr ⟨by show _ = 200 + ((y62_5.toInt.toNat : Nat) : Int); (first | have a0 := in_u h1 | (have a0 := h1; unfold In at a0)); (first | have a1 := in_u ro_109_20 | (have a1 := ro_109_20; unfold In at a1)); (first | have a2 := in_u ro_109_19 | (have a2 := ro_109_19; unfold In at a2)); (first | have a3 := in_u i67 | (have a3 := i67; unfold In at a3)); (first | have a4 := in_u i98 | (have a4 := i98; unfold In at a4)); (first | have a5 := in_u j62_3 | (have a5 := j62_3; unfold In at a5)); (first | have a6 := in_u j62_2 | (have a6 := j62_2; unfold In at a6)); (first | have a7 := in_u i76 | (have a7 := i76; unfold In at a7)); have a8 := t_add e76 ro_109_19 i67 rfl; have a9 := tx_i2l e130; (first | have a10 := in_u i129 | (have a10 := i129; unfold In at a10)); omega, by rw [hbs, ← e85]; exact c86, by rw [hbs]; exact e95.symm, by rw [hbs, ← e184, Int32.toInt_inj.mp c187]; exact g62_1, by rw [hbs, ← e184]; exact i184, by rw [← e211]; exact c214a⟩))) | (have nsi : SI sc62 (x1).toInt (y62_3).toInt := (by have hl3 : (y62_3).toInt = y62_3.toInt + 1 := (by (first | have a0 := in_u h1 | (have a0 := h1; unfold In at a0)); (first | have a1 := in_u ro_109_20 | (have a1 := ro_109_20; unfold In at a1)); (first | have a2 := in_u ro_109_19 | (have a2 := ro_109_19; unfold In at a2)); (first | have a3 := in_u i67 | (have a3 := i67; unfold In at a3)); (first | have a4 := in_u i98 | (have a4 := i98; unfold In at a4)); (first | have a5 := in_u j62_3 | (have a5 := j62_3; unfold In at a5)); (first | have a6 := in_u j62_2 | (have a6 := j62_2; unfold In at a6)); (first | have a7 := in_u i76 | (have a7 := i76; unfold In at a7)); have a8 := t_add e76 ro_109_19 i67 rfl; have a9 := tx_i2l e130; (first | have a10 := in_u i129 | (have a10 := i129; unfold In at a10)); omega); rw [hl3]; exact si_push (s := sc62) (a := y62_5.toNatClampNeg) (m := y62_3.toNatClampNeg) g62_0 (by show ((y62_3.toInt.toNat : Nat) : Int) = _; (first | have a0 := in_u h1 | (have a0 := h1; unfold In at a0)); (first | have a1 := in_u ro_109_20 | (have a1 := ro_109_20; unfold In at a1)); (first | have a2 := in_u ro_109_19 | (have a2 := ro_109_19; unfold In at a2)); (first | have a3 := in_u i67 | (have a3 := i67; unfold In at a3)); (first | have a4 := in_u i98 | (have a4 := i98; unfold In at a4)); (first | have a5 := in_u j62_3 | (have a5 := j62_3; unfold In at a5)); (first | have a6 := in_u j62_2 | (have a6 := j62_2; unfold In at a6)); (first | have a7 := in_u i76 | (have a7 := i76; unfold In at a7)); have a8 := t_add e76 ro_109_19 i67 rfl; have a9 := tx_i2l e130; (first | have a10 := in_u i129 | (have a10 := i129; unfold In at a10)); omega) (by rw [sI_p rfl, sI_q]) (by rw [sI_q, sI_p rfl]) (by rw [sI_p rfl, sI_p rfl]) (by rw [sI_p rfl, sI_p rfl]) (by rw [sI_p rfl, sI_p rfl]) (by rw [sI_p rfl, sI_p rfl]) rfl rfl rfl i95 (by rw [← e201]; exact c202) (by show y62_5.toInt.toNat < 160; (first | have a0 := in_u h1 | (have a0 := h1; unfold In at a0)); (first | have a1 := in_u ro_109_20 | (have a1 := ro_109_20; unfold In at a1)); (first | have a2 := in_u ro_109_19 | (have a2 := ro_109_19; unfold In at a2)); (first | have a3 := in_u i67 | (have a3 := i67; unfold In at a3)); (first | have a4 := in_u i98 | (have a4 := i98; unfold In at a4)); (first | have a5 := in_u j62_3 | (have a5 := j62_3; unfold In at a5)); (first | have a6 := in_u j62_2 | (have a6 := j62_2; unfold In at a6)); (first | have a7 := in_u i76 | (have a7 := i76; unfold In at a7)); have a8 := t_add e76 ro_109_19 i67 rfl; have a9 := tx_i2l e130; (first | have a10 := in_u i129 | (have a10 := i129; unfold In at a10)); (first | exact zt_l (by decide) (by omega) | omega)) (Or.inr ⟨by show _ = 200 + ((y62_5.toInt.toNat : Nat) : Int); (first | have a0 := in_u h1 | (have a0 := h1; unfold In at a0)); (first | have a1 := in_u ro_109_20 | (have a1 := ro_109_20; unfold In at a1)); (first | have a2 := in_u ro_109_19 | (have a2 := ro_109_19; unfold In at a2)); (first | have a3 := in_u i67 | (have a3 := i67; unfold In at a3)); (first | have a4 := in_u i98 | (have a4 := i98; unfold In at a4)); (first | have a5 := in_u j62_3 | (have a5 := j62_3; unfold In at a5)); (first | have a6 := in_u j62_2 | (have a6 := j62_2; unfold In at a6)); (first | have a7 := in_u i76 | (have a7 := i76; unfold In at a7)); have a8 := t_add e76 ro_109_19 i67 rfl; have a9 := tx_i2l e130; (first | have a10 := in_u i129 | (have a10 := i129; unfold In at a10)); omega, by rw [hbs, ← e85]; exact c86, by rw [hbs]; exact e95.symm, by rw [hbs, ← e184, Int32.toInt_inj.mp c187]; exact g62_1, by rw [hbs, ← e184]; exact i184, by rw [← e122]; exact c214a⟩))) | (have nsi : SI sc62 (x1).toInt (y62_3).toInt := (by have hl3 : (y62_3).toInt = y62_3.toInt + 1 := (by (first | have a0 := in_u h1 | (have a0 := h1; unfold In at a0)); (first | have a1 := in_u ro_109_20 | (have a1 := ro_109_20; unfold In at a1)); (first | have a2 := in_u ro_109_19 | (have a2 := ro_109_19; unfold In at a2)); (first | have a3 := in_u i67 | (have a3 := i67; unfold In at a3)); (first | have a4 := in_u i98 | (have a4 := i98; unfold In at a4)); (first | have a5 := in_u j62_3 | (have a5 := j62_3; unfold In at a5)); (first | have a6 := in_u j62_2 | (have a6 := j62_2; unfold In at a6)); (first | have a7 := in_u i76 | (have a7 := i76; unfold In at a7)); have a8 := t_add e76 ro_109_19 i67 rfl; have a9 := tx_i2l e130; (first | have a10 := in_u i129 | (have a10 := i129; unfold In at a10)); omega); rw [hl3]; exact si_push (s := sc62) (a := y62_5.toNatClampNeg) (m := y62_3.toNatClampNeg) g62_0 (by show ((y62_3.toInt.toNat : Nat) : Int) = _; (first | have a0 := in_u h1 | (have a0 := h1; unfold In at a0)); (first | have a1 := in_u ro_109_20 | (have a1 := ro_109_20; unfold In at a1)); (first | have a2 := in_u ro_109_19 | (have a2 := ro_109_19; unfold In at a2)); (first | have a3 := in_u i67 | (have a3 := i67; unfold In at a3)); (first | have a4 := in_u i98 | (have a4 := i98; unfold In at a4)); (first | have a5 := in_u j62_3 | (have a5 := j62_3; unfold In at a5)); (first | have a6 := in_u j62_2 | (have a6 := j62_2; unfold In at a6)); (first | have a7 := in_u i76 | (have a7 := i76; unfold In at a7)); have a8 := t_add e76 ro_109_19 i67 rfl; have a9 := tx_i2l e130; (first | have a10 := in_u i129 | (have a10 := i129; unfold In at a10)); omega) (by rw [sI_p rfl, sI_q]) (by rw [sI_q, sI_p rfl]) (by rw [sI_p rfl, sI_p rfl]) (by rw [sI_p rfl, sI_p rfl]) (by rw [sI_p rfl, sI_p rfl]) (by rw [sI_p rfl, sI_p rfl]) rfl rfl rfl i95 (by rw [← e201]; exact c202) (by show y62_5.toInt.toNat < 160; (first | have a0 := in_u h1 | (have a0 := h1; unfold In at a0)); (first | have a1 := in_u ro_109_20 | (have a1 := ro_109_20; unfold In at a1)); (first | have a2 := in_u ro_109_19 | (have a2 := ro_109_19; unfold In at a2)); (first | have a3 := in_u i67 | (have a3 := i67; unfold In at a3)); (first | have a4 := in_u i98 | (have a4 := i98; unfold In at a4)); (first | have a5 := in_u j62_3 | (have a5 := j62_3; unfold In at a5)); (first | have a6 := in_u j62_2 | (have a6 := j62_2; unfold In at a6)); (first | have a7 := in_u i76 | (have a7 := i76; unfold In at a7)); have a8 := t_add e76 ro_109_19 i67 rfl; have a9 := tx_i2l e130; (first | have a10 := in_u i129 | (have a10 := i129; unfold In at a10)); (first | exact zt_l (by decide) (by omega) | omega)) (Or.inr ⟨by show _ = 200 + ((y62_5.toInt.toNat : Nat) : Int); (first | have a0 := in_u h1 | (have a0 := h1; unfold In at a0)); (first | have a1 := in_u ro_109_20 | (have a1 := ro_109_20; unfold In at a1)); (first | have a2 := in_u ro_109_19 | (have a2 := ro_109_19; unfold In at a2)); (first | have a3 := in_u i67 | (have a3 := i67; unfold In at a3)); (first | have a4 := in_u i98 | (have a4 := i98; unfold In at a4)); (first | have a5 := in_u j62_3 | (have a5 := j62_3; unfold In at a5)); (first | have a6 := in_u j62_2 | (have a6 := j62_2; unfold In at a6)); (first | have a7 := in_u i76 | (have a7 := i76; unfold In at a7)); have a8 := t_add e76 ro_109_19 i67 rfl; have a9 := tx_i2l e130; (first | have a10 := in_u i129 | (have a10 := i129; unfold In at a10)); omega, by rw [hbs, ← e85]; exact c86, by rw [hbs]; exact e95.symm, by rw [hbs, ← e111, Int32.toInt_inj.mp c187]; exact g62_1, by rw [hbs, ← e111]; exact i111, by rw [← e211]; exact c214a⟩))) | (have nsi : SI sc62 (x1).toInt (y62_3).toInt := (by have hl3 : (y62_3).toInt = y62_3.toInt + 1 := (by (first | have a0 := in_u h1 | (have a0 := h1; unfold In at a0)); (first | have a1 := in_u ro_109_20 | (have a1 := ro_109_20; unfold In at a1)); (first | have a2 := in_u ro_109_19 | (have a2 := ro_109_19; unfold In at a2)); (first | have a3 := in_u i67 | (have a3 := i67; unfold In at a3)); (first | have a4 := in_u i98 | (have a4 := i98; unfold In at a4)); (first | have a5 := in_u j62_3 | (have a5 := j62_3; unfold In at a5)); (first | have a6 := in_u j62_2 | (have a6 := j62_2; unfold In at a6)); (first | have a7 := in_u i76 | (have a7 := i76; unfold In at a7)); have a8 := t_add e76 ro_109_19 i67 rfl; have a9 := tx_i2l e130; (first | have a10 := in_u i129 | (have a10 := i129; unfold In at a10)); omega); rw [hl3]; exact si_push (s := sc62) (a := y62_5.toNatClampNeg) (m := y62_3.toNatClampNeg) g62_0 (by show ((y62_3.toInt.toNat : Nat) : Int) = _; (first | have a0 := in_u h1 | (have a0 := h1; unfold In at a0)); (first | have a1 := in_u ro_109_20 | (have a1 := ro_109_20; unfold In at a1)); (first | have a2 := in_u ro_109_19 | (have a2 := ro_109_19; unfold In at a2)); (first | have a3 := in_u i67 | (have a3 := i67; unfold In at a3)); (first | have a4 := in_u i98 | (have a4 := i98; unfold In at a4)); (first | have a5 := in_u j62_3 | (have a5 := j62_3; unfold In at a5)); (first | have a6 := in_u j62_2 | (have a6 := j62_2; unfold In at a6)); (first | have a7 := in_u i76 | (have a7 := i76; unfold In at a7)); have a8 := t_add e76 ro_109_19 i67 rfl; have a9 := tx_i2l e130; (first | have a10 := in_u i129 | (have a10 := i129; unfold In at a10)); omega) (by rw [sI_p rfl, sI_q]) (by rw [sI_q, sI_p rfl]) (by rw [sI_p rfl, sI_p rfl]) (by rw [sI_p rfl, sI_p rfl]) (by rw [sI_p rfl, sI_p rfl]) (by rw [sI_p rfl, sI_p rfl]) rfl rfl rfl i95 (by rw [← e201]; exact c202) (by show y62_5.toInt.toNat < 160; (first | have a0 := in_u h1 | (have a0 := h1; unfold In at a0)); (first | have a1 := in_u ro_109_20 | (have a1 := ro_109_20; unfold In at a1)); (first | have a2 := in_u ro_109_19 | (have a2 := ro_109_19; unfold In at a2)); (first | have a3 := in_u i67 | (have a3 := i67; unfold In at a3)); (first | have a4 := in_u i98 | (have a4 := i98; unfold In at a4)); (first | have a5 := in_u j62_3 | (have a5 := j62_3; unfold In at a5)); (first | have a6 := in_u j62_2 | (have a6 := j62_2; unfold In at a6)); (first | have a7 := in_u i76 | (have a7 := i76; unfold In at a7)); have a8 := t_add e76 ro_109_19 i67 rfl; have a9 := tx_i2l e130; (first | have a10 := in_u i129 | (have a10 := i129; unfold In at a10)); (first | exact zt_l (by decide) (by omega) | omega)) (Or.inr ⟨by show _ = 200 + ((y62_5.toInt.toNat : Nat) : Int); (first | have a0 := in_u h1 | (have a0 := h1; unfold In at a0)); (first | have a1 := in_u ro_109_20 | (have a1 := ro_109_20; unfold In at a1)); (first | have a2 := in_u ro_109_19 | (have a2 := ro_109_19; unfold In at a2)); (first | have a3 := in_u i67 | (have a3 := i67; unfold In at a3)); (first | have a4 := in_u i98 | (have a4 := i98; unfold In at a4)); (first | have a5 := in_u j62_3 | (have a5 := j62_3; unfold In at a5)); (first | have a6 := in_u j62_2 | (have a6 := j62_2; unfold In at a6)); (first | have a7 := in_u i76 | (have a7 := i76; unfold In at a7)); have a8 := t_add e76 ro_109_19 i67 rfl; have a9 := tx_i2l e130; (first | have a10 := in_u i129 | (have a10 := i129; unfold In at a10)); omega, by rw [hbs, ← e85]; exact c86, by rw [hbs]; exact e95.symm, by rw [hbs, ← e111, Int32.toInt_inj.mp c187]; exact g62_1, by rw [hbs, ← e111]; exact i111, by rw [← e122]; exact c214a⟩))) | skip
                          refine g_iinc 254 (gd rfl) rfl rfl (Nat.le_of_ble_eq_true rfl) (fun z251 e251 => ?_)
                          have i251 := in_add 1 160 e251 i67 (in_c 1 rfl) rfl rfl
                          refine g_goto 62 (gd rfl) rfl ?_
                          have n62 : (y62_2).toInt = y43_2.toInt + 1 := by first | exact n62_0 | ((first | have a0 := in_u h1 | (have a0 := h1; unfold In at a0)); (first | have a1 := in_u ro_109_20 | (have a1 := ro_109_20; unfold In at a1)); (first | have a2 := in_u ro_109_19 | (have a2 := ro_109_19; unfold In at a2)); (first | have a3 := in_u i67 | (have a3 := i67; unfold In at a3)); (first | have a4 := in_u i98 | (have a4 := i98; unfold In at a4)); (first | have a5 := in_u j62_3 | (have a5 := j62_3; unfold In at a5)); (first | have a6 := in_u j62_2 | (have a6 := j62_2; unfold In at a6)); (first | have a7 := in_u i76 | (have a7 := i76; unfold In at a7)); have a8 := t_add e76 ro_109_19 i67 rfl; (first | have a9 := in_u i251 | (have a9 := i251; unfold In at a9)); have a10 := t_add e251 i67 (in_c 1 rfl) rfl; (first | have a11 := in_u ((in_c 1 rfl)) | (have a11 := (in_c 1 rfl); unfold In at a11)); have a12 := tx_i2l e130; (first | have a13 := in_u i129 | (have a13 := i129; unfold In at a13)); omega)
                          have n62a : (y62_2).toInt ≤ (y62_3).toInt := by first | exact n62_1 | ((first | have a0 := in_u h1 | (have a0 := h1; unfold In at a0)); (first | have a1 := in_u ro_109_20 | (have a1 := ro_109_20; unfold In at a1)); (first | have a2 := in_u ro_109_19 | (have a2 := ro_109_19; unfold In at a2)); (first | have a3 := in_u i67 | (have a3 := i67; unfold In at a3)); (first | have a4 := in_u i98 | (have a4 := i98; unfold In at a4)); (first | have a5 := in_u j62_3 | (have a5 := j62_3; unfold In at a5)); (first | have a6 := in_u j62_2 | (have a6 := j62_2; unfold In at a6)); (first | have a7 := in_u i76 | (have a7 := i76; unfold In at a7)); have a8 := t_add e76 ro_109_19 i67 rfl; (first | have a9 := in_u i251 | (have a9 := i251; unfold In at a9)); have a10 := t_add e251 i67 (in_c 1 rfl) rfl; (first | have a11 := in_u ((in_c 1 rfl)) | (have a11 := (in_c 1 rfl); unfold In at a11)); have a12 := tx_i2l e130; (first | have a13 := in_u i129 | (have a13 := i129; unfold In at a13)); omega)
                          have n62b : SI sc62 (x1).toInt (y62_3).toInt := by first | exact g43_0 | exact g62_0 | exact nsi
                          have n62c : 0 ≤ (sc62.1 148 (y62_4).toNatClampNeg).toInt := by first | exact g62_1 | (first | exact g62_1 | (have h := g43_0.2.2.1 y43_2.toNatClampNeg (by show ((y43_2.toInt.toNat : Nat) : Int) < _; (first | have a0 := in_u h1 | (have a0 := h1; unfold In at a0)); (first | have a1 := in_u ro_109_20 | (have a1 := ro_109_20; unfold In at a1)); (first | have a2 := in_u ro_109_19 | (have a2 := ro_109_19; unfold In at a2)); (first | have a3 := in_u i67 | (have a3 := i67; unfold In at a3)); (first | have a4 := in_u i98 | (have a4 := i98; unfold In at a4)); (first | have a5 := in_u j62_3 | (have a5 := j62_3; unfold In at a5)); (first | have a6 := in_u j62_2 | (have a6 := j62_2; unfold In at a6)); (first | have a7 := in_u i76 | (have a7 := i76; unfold In at a7)); have a8 := t_add e76 ro_109_19 i67 rfl; (first | have a9 := in_u i251 | (have a9 := i251; unfold In at a9)); have a10 := t_add e251 i67 (in_c 1 rfl) rfl; (first | have a11 := in_u ((in_c 1 rfl)) | (have a11 := (in_c 1 rfl); unfold In at a11)); have a12 := tx_i2l e130; (first | have a13 := in_u i129 | (have a13 := i129; unfold In at a13)); omega); rw [← e53] at h; exact h.2) | (rw [sI_p rfl, sI_q]; exact up_ge g62_1 (by (first | have a0 := in_u h1 | (have a0 := h1; unfold In at a0)); (first | have a1 := in_u ro_109_20 | (have a1 := ro_109_20; unfold In at a1)); (first | have a2 := in_u ro_109_19 | (have a2 := ro_109_19; unfold In at a2)); (first | have a3 := in_u i67 | (have a3 := i67; unfold In at a3)); (first | have a4 := in_u i98 | (have a4 := i98; unfold In at a4)); (first | have a5 := in_u j62_3 | (have a5 := j62_3; unfold In at a5)); (first | have a6 := in_u j62_2 | (have a6 := j62_2; unfold In at a6)); (first | have a7 := in_u i76 | (have a7 := i76; unfold In at a7)); have a8 := t_add e76 ro_109_19 i67 rfl; (first | have a9 := in_u i251 | (have a9 := i251; unfold In at a9)); have a10 := t_add e251 i67 (in_c 1 rfl) rfl; (first | have a11 := in_u ((in_c 1 rfl)) | (have a11 := (in_c 1 rfl); unfold In at a11)); have a12 := tx_i2l e130; (first | have a13 := in_u i129 | (have a13 := i129; unfold In at a13)); omega)))
                          exact gg_w (by first | exact Nat.le_add_right _ _ | exact gw2 | exact gw3 | exact gwe rfl | exact gwf rfl | exact gwg rfl | exact gwh rfl | omega) (gg_f (gf_cons rfl (gf_cons rfl (gf_cons rfl (gf_cons rfl (gf_cons rfl (gf_cons rfl gf_nil)))))) (ih62 sc62 y62_2 y62_3 y62_4 z251 hIc62 hFc62 (in_w 1 32 j62_2 rfl) (in_w 0 32 j62_3 rfl) (in_w 0 1951 i98 rfl) (in_w 0 160 i251 rfl) n62 n62a n62b n62c (m_up mm62 (t_add e251 i67 (in_c 1 rfl) rfl) (in_w 1 1 (in_c 1 rfl) rfl))))
                        · skip
                          have i202 := z_lt (-1) (-1) c202 i201 rfl
                          refine g_aload_n 206 (gd rfl) rfl rfl ?_
                          refine g_getA (q2 := 147) 209 (gd rfl) rfl rfl rfl rfl ?_
                          refine g_iload 211 (gd rfl) rfl rfl ?_
                          refine g_laload 212 (gd rfl) rfl (n := 160) rfl (in_ix i67 rfl) (fun z211 e211 => ?_)
                          refine g_lconst 0 213 (gd rfl) rfl rfl ?_
                          refine g_lcmp 214 (gd rfl) rfl (fun z213 e213 => ?_)
                          have i213 := lc_in e213
                          refine g_if_le 217 251 (gd rfl) rfl rfl (fun c214 => ?_) (fun c214 => ?_)
                          · skip
                            have i214 := z_le (-1) 0 c214 i213 rfl
                            have c214a := lc_le e213 c214
                            have i214a := lr_le1 (-9223372036854775808) 0 c214a (l_rng z211) (l_c 0 rfl) rfl
                            first | (have nsi : SI sc62 (x1).toInt (y62_3).toInt := (by have hl3 : (y62_3).toInt = y62_3.toInt + 1 := (by (first | have a0 := in_u h1 | (have a0 := h1; unfold In at a0)); (first | have a1 := in_u ro_109_20 | (have a1 := ro_109_20; unfold In at a1)); (first | have a2 := in_u ro_109_19 | (have a2 := ro_109_19; unfold In at a2)); (first | have a3 := in_u i67 | (have a3 := i67; unfold In at a3)); (first | have a4 := in_u i98 | (have a4 := i98; unfold In at a4)); (first | have a5 := in_u j62_3 | (have a5 := j62_3; unfold In at a5)); (first | have a6 := in_u j62_2 | (have a6 := j62_2; unfold In at a6)); (first | have a7 := in_u i76 | (have a7 := i76; unfold In at a7)); have a8 := t_add e76 ro_109_19 i67 rfl; have a9 := tx_i2l e130; (first | have a10 := in_u i129 | (have a10 := i129; unfold In at a10)); omega); rw [hl3]; exact si_push (s := sc62) (a := y62_5.toNatClampNeg) (m := y62_3.toNatClampNeg) g62_0 (by show ((y62_3.toInt.toNat : Nat) : Int) = _; (first | have a0 := in_u h1 | (have a0 := h1; unfold In at a0)); (first | have a1 := in_u ro_109_20 | (have a1 := ro_109_20; unfold In at a1)); (first | have a2 := in_u ro_109_19 | (have a2 := ro_109_19; unfold In at a2)); (first | have a3 := in_u i67 | (have a3 := i67; unfold In at a3)); (first | have a4 := in_u i98 | (have a4 := i98; unfold In at a4)); (first | have a5 := in_u j62_3 | (have a5 := j62_3; unfold In at a5)); (first | have a6 := in_u j62_2 | (have a6 := j62_2; unfold In at a6)); (first | have a7 := in_u i76 | (have a7 := i76; unfold In at a7)); have a8 := t_add e76 ro_109_19 i67 rfl; have a9 := tx_i2l e130; (first | have a10 := in_u i129 | (have a10 := i129; unfold In at a10)); omega) (by rw [sI_p rfl, sI_q]) (by rw [sI_q, sI_p rfl]) (by rw [sI_p rfl, sI_p rfl]) (by rw [sI_p rfl, sI_p rfl]) (by rw [sI_p rfl, sI_p rfl]) (by rw [sI_p rfl, sI_p rfl]) rfl rfl rfl i111 (by rw [← e112]; exact c113) (by show y62_5.toInt.toNat < 160; (first | have a0 := in_u h1 | (have a0 := h1; unfold In at a0)); (first | have a1 := in_u ro_109_20 | (have a1 := ro_109_20; unfold In at a1)); (first | have a2 := in_u ro_109_19 | (have a2 := ro_109_19; unfold In at a2)); (first | have a3 := in_u i67 | (have a3 := i67; unfold In at a3)); (first | have a4 := in_u i98 | (have a4 := i98; unfold In at a4)); (first | have a5 := in_u j62_3 | (have a5 := j62_3; unfold In at a5)); (first | have a6 := in_u j62_2 | (have a6 := j62_2; unfold In at a6)); (first | have a7 := in_u i76 | (have a7 := i76; unfold In at a7)); have a8 := t_add e76 ro_109_19 i67 rfl; have a9 := tx_i2l e130; (first | have a10 := in_u i129 | (have a10 := i129; unfold In at a10)); (first | exact zt_l (by decide) (by omega) | omega)) (Or.inl ⟨by show _ = ((y62_5.toInt.toNat : Nat) : Int); (first | have a0 := in_u h1 | (have a0 := h1; unfold In at a0)); (first | have a1 := in_u ro_109_20 | (have a1 := ro_109_20; unfold In at a1)); (first | have a2 := in_u ro_109_19 | (have a2 := ro_109_19; unfold In at a2)); (first | have a3 := in_u i67 | (have a3 := i67; unfold In at a3)); (first | have a4 := in_u i98 | (have a4 := i98; unfold In at a4)); (first | have a5 := in_u j62_3 | (have a5 := j62_3; unfold In at a5)); (first | have a6 := in_u j62_2 | (have a6 := j62_2; unfold In at a6)); (first | have a7 := in_u i76 | (have a7 := i76; unfold In at a7)); have a8 := t_add e76 ro_109_19 i67 rfl; have a9 := tx_i2l e130; (first | have a10 := in_u i129 | (have a10 := i129; unfold In at a10)); omega, by rw [hbs, ← e85]; exact c86, by rw [hbs]; exact e111.symm, by rw [hbs, ← e95, Int32.toInt_inj.mp c98]; exact g62_1, by rw [hbs, ← e95]; exact i95, by rw [hbs, ← e122, ← e129, ← tx_i2l e130]; exact c132a⟩))) | (have nsi : SI sc62 (x1).toInt (y62_3).toInt := (by have hl3 : (y62_3).toInt = y62_3.toInt + 1 := (by (first | have a0 := in_u h1 | (have a0 := h1; unfold In at a0)); (first | have a1 := in_u ro_109_20 | (have a1 := ro_109_20; unfold In at a1)); (first | have a2 := in_u ro_109_19 | (have a2 := ro_109_19; unfold In at a2)); (first | have a3 := in_u i67 | (have a3 := i67; unfold In at a3)); (first | have a4 := in_u i98 | (have a4 := i98; unfold In at a4)); (first | have a5 := in_u j62_3 | (have a5 := j62_3; unfold In at a5)); (first | have a6 := in_u j62_2 | (have a6 := j62_2; unfold In at a6)); (first | have a7 := in_u i76 | (have a7 := i76; unfold In at a7)); have a8 := t_add e76 ro_109_19 i67 rfl; have a9 := tx_i2l e130; (first | have a10 := in_u i129 | (have a10 := i129; unfold In at a10)); omega); rw [hl3]; exact si_push (s := sc62) (a := y62_5.toNatClampNeg) (m := y62_3.toNatClampNeg) g62_0 (by show ((y62_3.toInt.toNat : Nat) : Int) = _; (first | have a0 := in_u h1 | (have a0 := h1; unfold In at a0)); (first | have a1 := in_u ro_109_20 | (have a1 := ro_109_20; unfold In at a1)); (first | have a2 := in_u ro_109_19 | (have a2 := ro_109_19; unfold In at a2)); (first | have a3 := in_u i67 | (have a3 := i67; unfold In at a3)); (first | have a4 := in_u i98 | (have a4 := i98; unfold In at a4)); (first | have a5 := in_u j62_3 | (have a5 := j62_3; unfold In at a5)); (first | have a6 := in_u j62_2 | (have a6 := j62_2; unfold In at a6)); (first | have a7 := in_u i76 | (have a7 := i76; unfold In at a7)); have a8 := t_add e76 ro_109_19 i67 rfl; have a9 := tx_i2l e130; (first | have a10 := in_u i129 | (have a10 := i129; unfold In at a10)); omega) (by rw [sI_p rfl, sI_q]) (by rw [sI_q, sI_p rfl]) (by rw [sI_p rfl, sI_p rfl]) (by rw [sI_p rfl, sI_p rfl]) (by rw [sI_p rfl, sI_p rfl]) (by rw [sI_p rfl, sI_p rfl]) rfl rfl rfl i95 (by rw [← e201]; exact c202) (by show y62_5.toInt.toNat < 160; (first | have a0 := in_u h1 | (have a0 := h1; unfold In at a0)); (first | have a1 := in_u ro_109_20 | (have a1 := ro_109_20; unfold In at a1)); (first | have a2 := in_u ro_109_19 | (have a2 := ro_109_19; unfold In at a2)); (first | have a3 := in_u i67 | (have a3 := i67; unfold In at a3)); (first | have a4 := in_u i98 | (have a4 := i98; unfold In at a4)); (first | have a5 := in_u j62_3 | (have a5 := j62_3; unfold In at a5)); (first | have a6 := in_u j62_2 | (have a6 := j62_2; unfold In at a6)); (first | have a7 := in_u i76 | (have a7 := i76; unfold In at a7)); have a8 := t_add e76 ro_109_19 i67 rfl; have a9 := tx_i2l e130; (first | have a10 := in_u i129 | (have a10 := i129; unfold In at a10)); (first | exact zt_l (by decide) (by omega) | omega)) (Or.inr ⟨by show _ = 200 + ((y62_5.toInt.toNat : Nat) : Int); (first | have a0 := in_u h1 | (have a0 := h1; unfold In at a0)); (first | have a1 := in_u ro_109_20 | (have a1 := ro_109_20; unfold In at a1)); (first | have a2 := in_u ro_109_19 | (have a2 := ro_109_19; unfold In at a2)); (first | have a3 := in_u i67 | (have a3 := i67; unfold In at a3)); (first | have a4 := in_u i98 | (have a4 := i98; unfold In at a4)); (first | have a5 := in_u j62_3 | (have a5 := j62_3; unfold In at a5)); (first | have a6 := in_u j62_2 | (have a6 := j62_2; unfold In at a6)); (first | have a7 := in_u i76 | (have a7 := i76; unfold In at a7)); have a8 := t_add e76 ro_109_19 i67 rfl; have a9 := tx_i2l e130; (first | have a10 := in_u i129 | (have a10 := i129; unfold In at a10)); omega, by rw [hbs, ← e85]; exact c86, by rw [hbs]; exact e95.symm, by rw [hbs, ← e184, Int32.toInt_inj.mp c187]; exact g62_1, by rw [hbs, ← e184]; exact i184, by rw [← e211]; exact c214a⟩))) | (have nsi : SI sc62 (x1).toInt (y62_3).toInt := (by have hl3 : (y62_3).toInt = y62_3.toInt + 1 := (by (first | have a0 := in_u h1 | (have a0 := h1; unfold In at a0)); (first | have a1 := in_u ro_109_20 | (have a1 := ro_109_20; unfold In at a1)); (first | have a2 := in_u ro_109_19 | (have a2 := ro_109_19; unfold In at a2)); (first | have a3 := in_u i67 | (have a3 := i67; unfold In at a3)); (first | have a4 := in_u i98 | (have a4 := i98; unfold In at a4)); (first | have a5 := in_u j62_3 | (have a5 := j62_3; unfold In at a5)); (first | have a6 := in_u j62_2 | (have a6 := j62_2; unfold In at a6)); (first | have a7 := in_u i76 | (have a7 := i76; unfold In at a7)); have a8 := t_add e76 ro_109_19 i67 rfl; have a9 := tx_i2l e130; (first | have a10 := in_u i129 | (have a10 := i129; unfold In at a10)); omega); rw [hl3]; exact si_push (s := sc62) (a := y62_5.toNatClampNeg) (m := y62_3.toNatClampNeg) g62_0 (by show ((y62_3.toInt.toNat : Nat) : Int) = _; (first | have a0 := in_u h1 | (have a0 := h1; unfold In at a0)); (first | have a1 := in_u ro_109_20 | (have a1 := ro_109_20; unfold In at a1)); (first | have a2 := in_u ro_109_19 | (have a2 := ro_109_19; unfold In at a2)); (first | have a3 := in_u i67 | (have a3 := i67; unfold In at a3)); (first | have a4 := in_u i98 | (have a4 := i98; unfold In at a4)); (first | have a5 := in_u j62_3 | (have a5 := j62_3; unfold In at a5)); (first | have a6 := in_u j62_2 | (have a6 := j62_2; unfold In at a6)); (first | have a7 := in_u i76 | (have a7 := i76; unfold In at a7)); have a8 := t_add e76 ro_109_19 i67 rfl; have a9 := tx_i2l e130; (first | have a10 := in_u i129 | (have a10 := i129; unfold In at a10)); omega) (by rw [sI_p rfl, sI_q]) (by rw [sI_q, sI_p rfl]) (by rw [sI_p rfl, sI_p rfl]) (by rw [sI_p rfl, sI_p rfl]) (by rw [sI_p rfl, sI_p rfl]) (by rw [sI_p rfl, sI_p rfl]) rfl rfl rfl i95 (by rw [← e201]; exact c202) (by show y62_5.toInt.toNat < 160; (first | have a0 := in_u h1 | (have a0 := h1; unfold In at a0)); (first | have a1 := in_u ro_109_20 | (have a1 := ro_109_20; unfold In at a1)); (first | have a2 := in_u ro_109_19 | (have a2 := ro_109_19; unfold In at a2)); (first | have a3 := in_u i67 | (have a3 := i67; unfold In at a3)); (first | have a4 := in_u i98 | (have a4 := i98; unfold In at a4)); (first | have a5 := in_u j62_3 | (have a5 := j62_3; unfold In at a5)); (first | have a6 := in_u j62_2 | (have a6 := j62_2; unfold In at a6)); (first | have a7 := in_u i76 | (have a7 := i76; unfold In at a7)); have a8 := t_add e76 ro_109_19 i67 rfl; have a9 := tx_i2l e130; (first | have a10 := in_u i129 | (have a10 := i129; unfold In at a10)); (first | exact zt_l (by decide) (by omega) | omega)) (Or.inr ⟨by show _ = 200 + ((y62_5.toInt.toNat : Nat) : Int); (first | have a0 := in_u h1 | (have a0 := h1; unfold In at a0)); (first | have a1 := in_u ro_109_20 | (have a1 := ro_109_20; unfold In at a1)); (first | have a2 := in_u ro_109_19 | (have a2 := ro_109_19; unfold In at a2)); (first | have a3 := in_u i67 | (have a3 := i67; unfold In at a3)); (first | have a4 := in_u i98 | (have a4 := i98; unfold In at a4)); (first | have a5 := in_u j62_3 | (have a5 := j62_3; unfold In at a5)); (first | have a6 := in_u j62_2 | (have a6 := j62_2; unfold In at a6)); (first | have a7 := in_u i76 | (have a7 := i76; unfold In at a7)); have a8 := t_add e76 ro_109_19 i67 rfl; have a9 := tx_i2l e130; (first | have a10 := in_u i129 | (have a10 := i129; unfold In at a10)); omega, by rw [hbs, ← e85]; exact c86, by rw [hbs]; exact e95.symm, by rw [hbs, ← e184, Int32.toInt_inj.mp c187]; exact g62_1, by rw [hbs, ← e184]; exact i184, by rw [← e122]; exact c214a⟩))) | (have nsi : SI sc62 (x1).toInt (y62_3).toInt := (by have hl3 : (y62_3).toInt = y62_3.toInt + 1 := (by (first | have a0 := in_u h1 | (have a0 := h1; unfold In at a0)); (first | have a1 := in_u ro_109_20 | (have a1 := ro_109_20; unfold In at a1)); (first | have a2 := in_u ro_109_19 | (have a2 := ro_109_19; unfold In at a2)); (first | have a3 := in_u i67 | (have a3 := i67; unfold In at a3)); (first | have a4 := in_u i98 | (have a4 := i98; unfold In at a4)); (first | have a5 := in_u j62_3 | (have a5 := j62_3; unfold In at a5)); (first | have a6 := in_u j62_2 | (have a6 := j62_2; unfold In at a6)); (first | have a7 := in_u i76 | (have a7 := i76; unfold In at a7)); have a8 := t_add e76 ro_109_19 i67 rfl; have a9 := tx_i2l e130; (first | have a10 := in_u i129 | (have a10 := i129; unfold In at a10)); omega); rw [hl3]; exact si_push (s := sc62) (a := y62_5.toNatClampNeg) (m := y62_3.toNatClampNeg) g62_0 (by show ((y62_3.toInt.toNat : Nat) : Int) = _; (first | have a0 := in_u h1 | (have a0 := h1; unfold In at a0)); (first | have a1 := in_u ro_109_20 | (have a1 := ro_109_20; unfold In at a1)); (first | have a2 := in_u ro_109_19 | (have a2 := ro_109_19; unfold In at a2)); (first | have a3 := in_u i67 | (have a3 := i67; unfold In at a3)); (first | have a4 := in_u i98 | (have a4 := i98; unfold In at a4)); (first | have a5 := in_u j62_3 | (have a5 := j62_3; unfold In at a5)); (first | have a6 := in_u j62_2 | (have a6 := j62_2; unfold In at a6)); (first | have a7 := in_u i76 | (have a7 := i76; unfold In at a7)); have a8 := t_add e76 ro_109_19 i67 rfl; have a9 := tx_i2l e130; (first | have a10 := in_u i129 | (have a10 := i129; unfold In at a10)); omega) (by rw [sI_p rfl, sI_q]) (by rw [sI_q, sI_p rfl]) (by rw [sI_p rfl, sI_p rfl]) (by rw [sI_p rfl, sI_p rfl]) (by rw [sI_p rfl, sI_p rfl]) (by rw [sI_p rfl, sI_p rfl]) rfl rfl rfl i95 (by rw [← e201]; exact c202) (by show y62_5.toInt.toNat < 160; (first | have a0 := in_u h1 | (have a0 := h1; unfold In at a0)); (first | have a1 := in_u ro_109_20 | (have a1 := ro_109_20; unfold In at a1)); (first | have a2 := in_u ro_109_19 | (have a2 := ro_109_19; unfold In at a2)); (first | have a3 := in_u i67 | (have a3 := i67; unfold In at a3)); (first | have a4 := in_u i98 | (have a4 := i98; unfold In at a4)); (first | have a5 := in_u j62_3 | (have a5 := j62_3; unfold In at a5)); (first | have a6 := in_u j62_2 | (have a6 := j62_2; unfold In at a6)); (first | have a7 := in_u i76 | (have a7 := i76; unfold In at a7)); have a8 := t_add e76 ro_109_19 i67 rfl; have a9 := tx_i2l e130; (first | have a10 := in_u i129 | (have a10 := i129; unfold In at a10)); (first | exact zt_l (by decide) (by omega) | omega)) (Or.inr ⟨by show _ = 200 + ((y62_5.toInt.toNat : Nat) : Int); (first | have a0 := in_u h1 | (have a0 := h1; unfold In at a0)); (first | have a1 := in_u ro_109_20 | (have a1 := ro_109_20; unfold In at a1)); (first | have a2 := in_u ro_109_19 | (have a2 := ro_109_19; unfold In at a2)); (first | have a3 := in_u i67 | (have a3 := i67; unfold In at a3)); (first | have a4 := in_u i98 | (have a4 := i98; unfold In at a4)); (first | have a5 := in_u j62_3 | (have a5 := j62_3; unfold In at a5)); (first | have a6 := in_u j62_2 | (have a6 := j62_2; unfold In at a6)); (first | have a7 := in_u i76 | (have a7 := i76; unfold In at a7)); have a8 := t_add e76 ro_109_19 i67 rfl; have a9 := tx_i2l e130; (first | have a10 := in_u i129 | (have a10 := i129; unfold In at a10)); omega, by rw [hbs, ← e85]; exact c86, by rw [hbs]; exact e95.symm, by rw [hbs, ← e111, Int32.toInt_inj.mp c187]; exact g62_1, by rw [hbs, ← e111]; exact i111, by rw [← e211]; exact c214a⟩))) | (have nsi : SI sc62 (x1).toInt (y62_3).toInt := (by have hl3 : (y62_3).toInt = y62_3.toInt + 1 := (by (first | have a0 := in_u h1 | (have a0 := h1; unfold In at a0)); (first | have a1 := in_u ro_109_20 | (have a1 := ro_109_20; unfold In at a1)); (first | have a2 := in_u ro_109_19 | (have a2 := ro_109_19; unfold In at a2)); (first | have a3 := in_u i67 | (have a3 := i67; unfold In at a3)); (first | have a4 := in_u i98 | (have a4 := i98; unfold In at a4)); (first | have a5 := in_u j62_3 | (have a5 := j62_3; unfold In at a5)); (first | have a6 := in_u j62_2 | (have a6 := j62_2; unfold In at a6)); (first | have a7 := in_u i76 | (have a7 := i76; unfold In at a7)); have a8 := t_add e76 ro_109_19 i67 rfl; have a9 := tx_i2l e130; (first | have a10 := in_u i129 | (have a10 := i129; unfold In at a10)); omega); rw [hl3]; exact si_push (s := sc62) (a := y62_5.toNatClampNeg) (m := y62_3.toNatClampNeg) g62_0 (by show ((y62_3.toInt.toNat : Nat) : Int) = _; (first | have a0 := in_u h1 | (have a0 := h1; unfold In at a0)); (first | have a1 := in_u ro_109_20 | (have a1 := ro_109_20; unfold In at a1)); (first | have a2 := in_u ro_109_19 | (have a2 := ro_109_19; unfold In at a2)); (first | have a3 := in_u i67 | (have a3 := i67; unfold In at a3)); (first | have a4 := in_u i98 | (have a4 := i98; unfold In at a4)); (first | have a5 := in_u j62_3 | (have a5 := j62_3; unfold In at a5)); (first | have a6 := in_u j62_2 | (have a6 := j62_2; unfold In at a6)); (first | have a7 := in_u i76 | (have a7 := i76; unfold In at a7)); have a8 := t_add e76 ro_109_19 i67 rfl; have a9 := tx_i2l e130; (first | have a10 := in_u i129 | (have a10 := i129; unfold In at a10)); omega) (by rw [sI_p rfl, sI_q]) (by rw [sI_q, sI_p rfl]) (by rw [sI_p rfl, sI_p rfl]) (by rw [sI_p rfl, sI_p rfl]) (by rw [sI_p rfl, sI_p rfl]) (by rw [sI_p rfl, sI_p rfl]) rfl rfl rfl i95 (by rw [← e201]; exact c202) (by show y62_5.toInt.toNat < 160; (first | have a0 := in_u h1 | (have a0 := h1; unfold In at a0)); (first | have a1 := in_u ro_109_20 | (have a1 := ro_109_20; unfold In at a1)); (first | have a2 := in_u ro_109_19 | (have a2 := ro_109_19; unfold In at a2)); (first | have a3 := in_u i67 | (have a3 := i67; unfold In at a3)); (first | have a4 := in_u i98 | (have a4 := i98; unfold In at a4)); (first | have a5 := in_u j62_3 | (have a5 := j62_3; unfold In at a5)); (first | have a6 := in_u j62_2 | (have a6 := j62_2; unfold In at a6)); (first | have a7 := in_u i76 | (have a7 := i76; unfold In at a7)); have a8 := t_add e76 ro_109_19 i67 rfl; have a9 := tx_i2l e130; (first | have a10 := in_u i129 | (have a10 := i129; unfold In at a10)); (first | exact zt_l (by decide) (by omega) | omega)) (Or.inr ⟨by show _ = 200 + ((y62_5.toInt.toNat : Nat) : Int); (first | have a0 := in_u h1 | (have a0 := h1; unfold In at a0)); (first | have a1 := in_u ro_109_20 | (have a1 := ro_109_20; unfold In at a1)); (first | have a2 := in_u ro_109_19 | (have a2 := ro_109_19; unfold In at a2)); (first | have a3 := in_u i67 | (have a3 := i67; unfold In at a3)); (first | have a4 := in_u i98 | (have a4 := i98; unfold In at a4)); (first | have a5 := in_u j62_3 | (have a5 := j62_3; unfold In at a5)); (first | have a6 := in_u j62_2 | (have a6 := j62_2; unfold In at a6)); (first | have a7 := in_u i76 | (have a7 := i76; unfold In at a7)); have a8 := t_add e76 ro_109_19 i67 rfl; have a9 := tx_i2l e130; (first | have a10 := in_u i129 | (have a10 := i129; unfold In at a10)); omega, by rw [hbs, ← e85]; exact c86, by rw [hbs]; exact e95.symm, by rw [hbs, ← e111, Int32.toInt_inj.mp c187]; exact g62_1, by rw [hbs, ← e111]; exact i111, by rw [← e122]; exact c214a⟩))) | skip
                            refine g_iinc 254 (gd rfl) rfl rfl (Nat.le_of_ble_eq_true rfl) (fun z251 e251 => ?_)
                            have i251 := in_add 1 160 e251 i67 (in_c 1 rfl) rfl rfl
                            refine g_goto 62 (gd rfl) rfl ?_
                            have n62 : (y62_2).toInt = y43_2.toInt + 1 := by first | exact n62_0 | ((first | have a0 := in_u h1 | (have a0 := h1; unfold In at a0)); (first | have a1 := in_u ro_109_20 | (have a1 := ro_109_20; unfold In at a1)); (first | have a2 := in_u ro_109_19 | (have a2 := ro_109_19; unfold In at a2)); (first | have a3 := in_u i67 | (have a3 := i67; unfold In at a3)); (first | have a4 := in_u i98 | (have a4 := i98; unfold In at a4)); (first | have a5 := in_u j62_3 | (have a5 := j62_3; unfold In at a5)); (first | have a6 := in_u j62_2 | (have a6 := j62_2; unfold In at a6)); (first | have a7 := in_u i76 | (have a7 := i76; unfold In at a7)); have a8 := t_add e76 ro_109_19 i67 rfl; (first | have a9 := in_u i251 | (have a9 := i251; unfold In at a9)); have a10 := t_add e251 i67 (in_c 1 rfl) rfl; (first | have a11 := in_u ((in_c 1 rfl)) | (have a11 := (in_c 1 rfl); unfold In at a11)); have a12 := tx_i2l e130; (first | have a13 := in_u i129 | (have a13 := i129; unfold In at a13)); omega)
                            have n62a : (y62_2).toInt ≤ (y62_3).toInt := by first | exact n62_1 | ((first | have a0 := in_u h1 | (have a0 := h1; unfold In at a0)); (first | have a1 := in_u ro_109_20 | (have a1 := ro_109_20; unfold In at a1)); (first | have a2 := in_u ro_109_19 | (have a2 := ro_109_19; unfold In at a2)); (first | have a3 := in_u i67 | (have a3 := i67; unfold In at a3)); (first | have a4 := in_u i98 | (have a4 := i98; unfold In at a4)); (first | have a5 := in_u j62_3 | (have a5 := j62_3; unfold In at a5)); (first | have a6 := in_u j62_2 | (have a6 := j62_2; unfold In at a6)); (first | have a7 := in_u i76 | (have a7 := i76; unfold In at a7)); have a8 := t_add e76 ro_109_19 i67 rfl; (first | have a9 := in_u i251 | (have a9 := i251; unfold In at a9)); have a10 := t_add e251 i67 (in_c 1 rfl) rfl; (first | have a11 := in_u ((in_c 1 rfl)) | (have a11 := (in_c 1 rfl); unfold In at a11)); have a12 := tx_i2l e130; (first | have a13 := in_u i129 | (have a13 := i129; unfold In at a13)); omega)
                            have n62b : SI sc62 (x1).toInt (y62_3).toInt := by first | exact g43_0 | exact g62_0 | exact nsi
                            have n62c : 0 ≤ (sc62.1 148 (y62_4).toNatClampNeg).toInt := by first | exact g62_1 | (first | exact g62_1 | (have h := g43_0.2.2.1 y43_2.toNatClampNeg (by show ((y43_2.toInt.toNat : Nat) : Int) < _; (first | have a0 := in_u h1 | (have a0 := h1; unfold In at a0)); (first | have a1 := in_u ro_109_20 | (have a1 := ro_109_20; unfold In at a1)); (first | have a2 := in_u ro_109_19 | (have a2 := ro_109_19; unfold In at a2)); (first | have a3 := in_u i67 | (have a3 := i67; unfold In at a3)); (first | have a4 := in_u i98 | (have a4 := i98; unfold In at a4)); (first | have a5 := in_u j62_3 | (have a5 := j62_3; unfold In at a5)); (first | have a6 := in_u j62_2 | (have a6 := j62_2; unfold In at a6)); (first | have a7 := in_u i76 | (have a7 := i76; unfold In at a7)); have a8 := t_add e76 ro_109_19 i67 rfl; (first | have a9 := in_u i251 | (have a9 := i251; unfold In at a9)); have a10 := t_add e251 i67 (in_c 1 rfl) rfl; (first | have a11 := in_u ((in_c 1 rfl)) | (have a11 := (in_c 1 rfl); unfold In at a11)); have a12 := tx_i2l e130; (first | have a13 := in_u i129 | (have a13 := i129; unfold In at a13)); omega); rw [← e53] at h; exact h.2) | (rw [sI_p rfl, sI_q]; exact up_ge g62_1 (by (first | have a0 := in_u h1 | (have a0 := h1; unfold In at a0)); (first | have a1 := in_u ro_109_20 | (have a1 := ro_109_20; unfold In at a1)); (first | have a2 := in_u ro_109_19 | (have a2 := ro_109_19; unfold In at a2)); (first | have a3 := in_u i67 | (have a3 := i67; unfold In at a3)); (first | have a4 := in_u i98 | (have a4 := i98; unfold In at a4)); (first | have a5 := in_u j62_3 | (have a5 := j62_3; unfold In at a5)); (first | have a6 := in_u j62_2 | (have a6 := j62_2; unfold In at a6)); (first | have a7 := in_u i76 | (have a7 := i76; unfold In at a7)); have a8 := t_add e76 ro_109_19 i67 rfl; (first | have a9 := in_u i251 | (have a9 := i251; unfold In at a9)); have a10 := t_add e251 i67 (in_c 1 rfl) rfl; (first | have a11 := in_u ((in_c 1 rfl)) | (have a11 := (in_c 1 rfl); unfold In at a11)); have a12 := tx_i2l e130; (first | have a13 := in_u i129 | (have a13 := i129; unfold In at a13)); omega)))
                            exact gg_w (by first | exact Nat.le_add_right _ _ | exact gw2 | exact gw3 | exact gwe rfl | exact gwf rfl | exact gwg rfl | exact gwh rfl | omega) (gg_f (gf_cons rfl (gf_cons rfl (gf_cons rfl (gf_cons rfl (gf_cons rfl (gf_cons rfl gf_nil)))))) (ih62 sc62 y62_2 y62_3 y62_4 z251 hIc62 hFc62 (in_w 1 32 j62_2 rfl) (in_w 0 32 j62_3 rfl) (in_w 0 1951 i98 rfl) (in_w 0 160 i251 rfl) n62 n62a n62b n62c (m_up mm62 (t_add e251 i67 (in_c 1 rfl) rfl) (in_w 1 1 (in_c 1 rfl) rfl))))
                          · skip
                            have i214 := z_gt 1 1 c214 i213 rfl
                            have c214a := lc_gt e213 c214
                            have i214a := lr_lt2 1 9223372036854775807 c214a (l_c 0 rfl) (l_rng z211) rfl
                            refine g_aload_n 218 (gd rfl) rfl rfl ?_
                            refine g_getA (q2 := 148) 221 (gd rfl) rfl rfl rfl rfl ?_
                            refine g_aload_n 222 (gd rfl) rfl rfl ?_
                            refine g_getA (q2 := 113) 225 (gd rfl) rfl rfl rfl rfl ?_
                            refine g_iload 227 (gd rfl) rfl rfl ?_
                            refine g_iaload 228 (gd rfl) rfl (n := 480) rfl (in_ix i76 rfl) (fun z227 e227 => ?_)
                            have q227 : z95 = z227 := (e95).trans e227.symm
                            subst q227
                            refine g_sipush 200 231 (gd rfl) rfl rfl ?_
                            refine g_iload 233 (gd rfl) rfl rfl ?_
                            refine g_iadd 234 (gd rfl) rfl (fun z233 e233 => ?_)
                            have i233 := in_add 200 359 e233 (in_c 200 rfl) i67 rfl rfl
                            refine g_iastore 235 (gd rfl) rfl (n := 34) rfl (in_ix i95 rfl) ?_
                            have hI234 := inv_sI (q := 148) (j := z95.toNatClampNeg) hIc62 rfl (in_w (-1) 1000 i233 rfl)
                            refine g_aload_n 236 (gd rfl) rfl rfl ?_
                            refine g_getA (q2 := 132) 239 (gd rfl) rfl rfl rfl rfl ?_
                            refine g_iload_n 240 (gd rfl) rfl rfl ?_
                            refine g_aload_n 241 (gd rfl) rfl rfl ?_
                            refine g_getA (q2 := 113) 244 (gd rfl) rfl rfl rfl rfl ?_
                            refine g_iload 246 (gd rfl) rfl rfl ?_
                            refine g_iaload 247 (gd rfl) rfl (n := 480) rfl (in_ix i76 rfl) (fun z246 e246 => ?_)
                            have q246 : z95 = z246 := (sI_ne rfl (e95)).trans e246.symm
                            subst q246
                            refine g_iastore 248 (gd rfl) rfl (n := 4000) rfl (in_ix j62_3 rfl) ?_
                            have hI247 := inv_sI (q := 132) (j := y62_3.toNatClampNeg) hI234 rfl (in_w 0 1951 i95 rfl)
                            refine g_iinc 251 (gd rfl) rfl rfl (Nat.le_of_ble_eq_true rfl) (fun z248 e248 => ?_)
                            have i248 := in_add 1 33 e248 j62_3 (in_c 1 rfl) rfl rfl
                            first | (have nsi : SI (sI (sI sc62 148 z95.toNatClampNeg z233) 132 y62_3.toNatClampNeg z95) (x1).toInt (z248).toInt := (by have hl3 : (z248).toInt = y62_3.toInt + 1 := (by (first | have a0 := in_u h1 | (have a0 := h1; unfold In at a0)); (first | have a1 := in_u ro_109_20 | (have a1 := ro_109_20; unfold In at a1)); (first | have a2 := in_u ro_109_19 | (have a2 := ro_109_19; unfold In at a2)); (first | have a3 := in_u i67 | (have a3 := i67; unfold In at a3)); (first | have a4 := in_u i98 | (have a4 := i98; unfold In at a4)); (first | have a5 := in_u j62_3 | (have a5 := j62_3; unfold In at a5)); (first | have a6 := in_u j62_2 | (have a6 := j62_2; unfold In at a6)); (first | have a7 := in_u i76 | (have a7 := i76; unfold In at a7)); have a8 := t_add e76 ro_109_19 i67 rfl; (first | have a9 := in_u i248 | (have a9 := i248; unfold In at a9)); have a10 := t_add e248 j62_3 (in_c 1 rfl) rfl; (first | have a11 := in_u ((in_c 1 rfl)) | (have a11 := (in_c 1 rfl); unfold In at a11)); (first | have a12 := in_u i233 | (have a12 := i233; unfold In at a12)); have a13 := t_add e233 (in_c 200 rfl) i67 rfl; (first | have a14 := in_u ((in_c 200 rfl)) | (have a14 := (in_c 200 rfl); unfold In at a14)); have a15 := tx_i2l e130; (first | have a16 := in_u i129 | (have a16 := i129; unfold In at a16)); omega); rw [hl3]; exact si_push (s := sc62) (a := y62_5.toNatClampNeg) (m := y62_3.toNatClampNeg) g62_0 (by show ((y62_3.toInt.toNat : Nat) : Int) = _; (first | have a0 := in_u h1 | (have a0 := h1; unfold In at a0)); (first | have a1 := in_u ro_109_20 | (have a1 := ro_109_20; unfold In at a1)); (first | have a2 := in_u ro_109_19 | (have a2 := ro_109_19; unfold In at a2)); (first | have a3 := in_u i67 | (have a3 := i67; unfold In at a3)); (first | have a4 := in_u i98 | (have a4 := i98; unfold In at a4)); (first | have a5 := in_u j62_3 | (have a5 := j62_3; unfold In at a5)); (first | have a6 := in_u j62_2 | (have a6 := j62_2; unfold In at a6)); (first | have a7 := in_u i76 | (have a7 := i76; unfold In at a7)); have a8 := t_add e76 ro_109_19 i67 rfl; (first | have a9 := in_u i248 | (have a9 := i248; unfold In at a9)); have a10 := t_add e248 j62_3 (in_c 1 rfl) rfl; (first | have a11 := in_u ((in_c 1 rfl)) | (have a11 := (in_c 1 rfl); unfold In at a11)); (first | have a12 := in_u i233 | (have a12 := i233; unfold In at a12)); have a13 := t_add e233 (in_c 200 rfl) i67 rfl; (first | have a14 := in_u ((in_c 200 rfl)) | (have a14 := (in_c 200 rfl); unfold In at a14)); have a15 := tx_i2l e130; (first | have a16 := in_u i129 | (have a16 := i129; unfold In at a16)); omega) (by rw [sI_p rfl, sI_q]) (by rw [sI_q, sI_p rfl]) (by rw [sI_p rfl, sI_p rfl]) (by rw [sI_p rfl, sI_p rfl]) (by rw [sI_p rfl, sI_p rfl]) (by rw [sI_p rfl, sI_p rfl]) rfl rfl rfl i111 (by rw [← e112]; exact c113) (by show y62_5.toInt.toNat < 160; (first | have a0 := in_u h1 | (have a0 := h1; unfold In at a0)); (first | have a1 := in_u ro_109_20 | (have a1 := ro_109_20; unfold In at a1)); (first | have a2 := in_u ro_109_19 | (have a2 := ro_109_19; unfold In at a2)); (first | have a3 := in_u i67 | (have a3 := i67; unfold In at a3)); (first | have a4 := in_u i98 | (have a4 := i98; unfold In at a4)); (first | have a5 := in_u j62_3 | (have a5 := j62_3; unfold In at a5)); (first | have a6 := in_u j62_2 | (have a6 := j62_2; unfold In at a6)); (first | have a7 := in_u i76 | (have a7 := i76; unfold In at a7)); have a8 := t_add e76 ro_109_19 i67 rfl; (first | have a9 := in_u i248 | (have a9 := i248; unfold In at a9)); have a10 := t_add e248 j62_3 (in_c 1 rfl) rfl; (first | have a11 := in_u ((in_c 1 rfl)) | (have a11 := (in_c 1 rfl); unfold In at a11)); (first | have a12 := in_u i233 | (have a12 := i233; unfold In at a12)); have a13 := t_add e233 (in_c 200 rfl) i67 rfl; (first | have a14 := in_u ((in_c 200 rfl)) | (have a14 := (in_c 200 rfl); unfold In at a14)); have a15 := tx_i2l e130; (first | have a16 := in_u i129 | (have a16 := i129; unfold In at a16)); (first | exact zt_l (by decide) (by omega) | omega)) (Or.inl ⟨by show _ = ((y62_5.toInt.toNat : Nat) : Int); (first | have a0 := in_u h1 | (have a0 := h1; unfold In at a0)); (first | have a1 := in_u ro_109_20 | (have a1 := ro_109_20; unfold In at a1)); (first | have a2 := in_u ro_109_19 | (have a2 := ro_109_19; unfold In at a2)); (first | have a3 := in_u i67 | (have a3 := i67; unfold In at a3)); (first | have a4 := in_u i98 | (have a4 := i98; unfold In at a4)); (first | have a5 := in_u j62_3 | (have a5 := j62_3; unfold In at a5)); (first | have a6 := in_u j62_2 | (have a6 := j62_2; unfold In at a6)); (first | have a7 := in_u i76 | (have a7 := i76; unfold In at a7)); have a8 := t_add e76 ro_109_19 i67 rfl; (first | have a9 := in_u i248 | (have a9 := i248; unfold In at a9)); have a10 := t_add e248 j62_3 (in_c 1 rfl) rfl; (first | have a11 := in_u ((in_c 1 rfl)) | (have a11 := (in_c 1 rfl); unfold In at a11)); (first | have a12 := in_u i233 | (have a12 := i233; unfold In at a12)); have a13 := t_add e233 (in_c 200 rfl) i67 rfl; (first | have a14 := in_u ((in_c 200 rfl)) | (have a14 := (in_c 200 rfl); unfold In at a14)); have a15 := tx_i2l e130; (first | have a16 := in_u i129 | (have a16 := i129; unfold In at a16)); omega, by rw [hbs, ← e85]; exact c86, by rw [hbs]; exact e111.symm, by rw [hbs, ← e95, Int32.toInt_inj.mp c98]; exact g62_1, by rw [hbs, ← e95]; exact i95, by rw [hbs, ← e122, ← e129, ← tx_i2l e130]; exact c132a⟩))) | (have nsi : SI (sI (sI sc62 148 z95.toNatClampNeg z233) 132 y62_3.toNatClampNeg z95) (x1).toInt (z248).toInt := (by have hl3 : (z248).toInt = y62_3.toInt + 1 := (by (first | have a0 := in_u h1 | (have a0 := h1; unfold In at a0)); (first | have a1 := in_u ro_109_20 | (have a1 := ro_109_20; unfold In at a1)); (first | have a2 := in_u ro_109_19 | (have a2 := ro_109_19; unfold In at a2)); (first | have a3 := in_u i67 | (have a3 := i67; unfold In at a3)); (first | have a4 := in_u i98 | (have a4 := i98; unfold In at a4)); (first | have a5 := in_u j62_3 | (have a5 := j62_3; unfold In at a5)); (first | have a6 := in_u j62_2 | (have a6 := j62_2; unfold In at a6)); (first | have a7 := in_u i76 | (have a7 := i76; unfold In at a7)); have a8 := t_add e76 ro_109_19 i67 rfl; (first | have a9 := in_u i248 | (have a9 := i248; unfold In at a9)); have a10 := t_add e248 j62_3 (in_c 1 rfl) rfl; (first | have a11 := in_u ((in_c 1 rfl)) | (have a11 := (in_c 1 rfl); unfold In at a11)); (first | have a12 := in_u i233 | (have a12 := i233; unfold In at a12)); have a13 := t_add e233 (in_c 200 rfl) i67 rfl; (first | have a14 := in_u ((in_c 200 rfl)) | (have a14 := (in_c 200 rfl); unfold In at a14)); have a15 := tx_i2l e130; (first | have a16 := in_u i129 | (have a16 := i129; unfold In at a16)); omega); rw [hl3]; exact si_push (s := sc62) (a := y62_5.toNatClampNeg) (m := y62_3.toNatClampNeg) g62_0 (by show ((y62_3.toInt.toNat : Nat) : Int) = _; (first | have a0 := in_u h1 | (have a0 := h1; unfold In at a0)); (first | have a1 := in_u ro_109_20 | (have a1 := ro_109_20; unfold In at a1)); (first | have a2 := in_u ro_109_19 | (have a2 := ro_109_19; unfold In at a2)); (first | have a3 := in_u i67 | (have a3 := i67; unfold In at a3)); (first | have a4 := in_u i98 | (have a4 := i98; unfold In at a4)); (first | have a5 := in_u j62_3 | (have a5 := j62_3; unfold In at a5)); (first | have a6 := in_u j62_2 | (have a6 := j62_2; unfold In at a6)); (first | have a7 := in_u i76 | (have a7 := i76; unfold In at a7)); have a8 := t_add e76 ro_109_19 i67 rfl; (first | have a9 := in_u i248 | (have a9 := i248; unfold In at a9)); have a10 := t_add e248 j62_3 (in_c 1 rfl) rfl; (first | have a11 := in_u ((in_c 1 rfl)) | (have a11 := (in_c 1 rfl); unfold In at a11)); (first | have a12 := in_u i233 | (have a12 := i233; unfold In at a12)); have a13 := t_add e233 (in_c 200 rfl) i67 rfl; (first | have a14 := in_u ((in_c 200 rfl)) | (have a14 := (in_c 200 rfl); unfold In at a14)); have a15 := tx_i2l e130; (first | have a16 := in_u i129 | (have a16 := i129; unfold In at a16)); omega) (by rw [sI_p rfl, sI_q]) (by rw [sI_q, sI_p rfl]) (by rw [sI_p rfl, sI_p rfl]) (by rw [sI_p rfl, sI_p rfl]) (by rw [sI_p rfl, sI_p rfl]) (by rw [sI_p rfl, sI_p rfl]) rfl rfl rfl i95 (by rw [← e201]; exact c202) (by show y62_5.toInt.toNat < 160; (first | have a0 := in_u h1 | (have a0 := h1; unfold In at a0)); (first | have a1 := in_u ro_109_20 | (have a1 := ro_109_20; unfold In at a1)); (first | have a2 := in_u ro_109_19 | (have a2 := ro_109_19; unfold In at a2)); (first | have a3 := in_u i67 | (have a3 := i67; unfold In at a3)); (first | have a4 := in_u i98 | (have a4 := i98; unfold In at a4)); (first | have a5 := in_u j62_3 | (have a5 := j62_3; unfold In at a5)); (first | have a6 := in_u j62_2 | (have a6 := j62_2; unfold In at a6)); (first | have a7 := in_u i76 | (have a7 := i76; unfold In at a7)); have a8 := t_add e76 ro_109_19 i67 rfl; (first | have a9 := in_u i248 | (have a9 := i248; unfold In at a9)); have a10 := t_add e248 j62_3 (in_c 1 rfl) rfl; (first | have a11 := in_u ((in_c 1 rfl)) | (have a11 := (in_c 1 rfl); unfold In at a11)); (first | have a12 := in_u i233 | (have a12 := i233; unfold In at a12)); have a13 := t_add e233 (in_c 200 rfl) i67 rfl; (first | have a14 := in_u ((in_c 200 rfl)) | (have a14 := (in_c 200 rfl); unfold In at a14)); have a15 := tx_i2l e130; (first | have a16 := in_u i129 | (have a16 := i129; unfold In at a16)); (first | exact zt_l (by decide) (by omega) | omega)) (Or.inr ⟨by show _ = 200 + ((y62_5.toInt.toNat : Nat) : Int); (first | have a0 := in_u h1 | (have a0 := h1; unfold In at a0)); (first | have a1 := in_u ro_109_20 | (have a1 := ro_109_20; unfold In at a1)); (first | have a2 := in_u ro_109_19 | (have a2 := ro_109_19; unfold In at a2)); (first | have a3 := in_u i67 | (have a3 := i67; unfold In at a3)); (first | have a4 := in_u i98 | (have a4 := i98; unfold In at a4)); (first | have a5 := in_u j62_3 | (have a5 := j62_3; unfold In at a5)); (first | have a6 := in_u j62_2 | (have a6 := j62_2; unfold In at a6)); (first | have a7 := in_u i76 | (have a7 := i76; unfold In at a7)); have a8 := t_add e76 ro_109_19 i67 rfl; (first | have a9 := in_u i248 | (have a9 := i248; unfold In at a9)); have a10 := t_add e248 j62_3 (in_c 1 rfl) rfl; (first | have a11 := in_u ((in_c 1 rfl)) | (have a11 := (in_c 1 rfl); unfold In at a11)); (first | have a12 := in_u i233 | (have a12 := i233; unfold In at a12)); have a13 := t_add e233 (in_c 200 rfl) i67 rfl; (first | have a14 := in_u ((in_c 200 rfl)) | (have a14 := (in_c 200 rfl); unfold In at a14)); have a15 := tx_i2l e130; (first | have a16 := in_u i129 | (have a16 := i129; unfold In at a16)); omega, by rw [hbs, ← e85]; exact c86, by rw [hbs]; exact e95.symm, by rw [hbs, ← e184, Int32.toInt_inj.mp c187]; exact g62_1, by rw [hbs, ← e184]; exact i184, by rw [← e211]; exact c214a⟩))) | (have nsi : SI (sI (sI sc62 148 z95.toNatClampNeg z233) 132 y62_3.toNatClampNeg z95) (x1).toInt (z248).toInt := (by have hl3 : (z248).toInt = y62_3.toInt + 1 := (by (first | have a0 := in_u h1 | (have a0 := h1; unfold In at a0)); (first | have a1 := in_u ro_109_20 | (have a1 := ro_109_20; unfold In at a1)); (first | have a2 := in_u ro_109_19 | (have a2 := ro_109_19; unfold In at a2)); (first | have a3 := in_u i67 | (have a3 := i67; unfold In at a3)); (first | have a4 := in_u i98 | (have a4 := i98; unfold In at a4)); (first | have a5 := in_u j62_3 | (have a5 := j62_3; unfold In at a5)); (first | have a6 := in_u j62_2 | (have a6 := j62_2; unfold In at a6)); (first | have a7 := in_u i76 | (have a7 := i76; unfold In at a7)); have a8 := t_add e76 ro_109_19 i67 rfl; (first | have a9 := in_u i248 | (have a9 := i248; unfold In at a9)); have a10 := t_add e248 j62_3 (in_c 1 rfl) rfl; (first | have a11 := in_u ((in_c 1 rfl)) | (have a11 := (in_c 1 rfl); unfold In at a11)); (first | have a12 := in_u i233 | (have a12 := i233; unfold In at a12)); have a13 := t_add e233 (in_c 200 rfl) i67 rfl; (first | have a14 := in_u ((in_c 200 rfl)) | (have a14 := (in_c 200 rfl); unfold In at a14)); have a15 := tx_i2l e130; (first | have a16 := in_u i129 | (have a16 := i129; unfold In at a16)); omega); rw [hl3]; exact si_push (s := sc62) (a := y62_5.toNatClampNeg) (m := y62_3.toNatClampNeg) g62_0 (by show ((y62_3.toInt.toNat : Nat) : Int) = _; (first | have a0 := in_u h1 | (have a0 := h1; unfold In at a0)); (first | have a1 := in_u ro_109_20 | (have a1 := ro_109_20; unfold In at a1)); (first | have a2 := in_u ro_109_19 | (have a2 := ro_109_19; unfold In at a2)); (first | have a3 := in_u i67 | (have a3 := i67; unfold In at a3)); (first | have a4 := in_u i98 | (have a4 := i98; unfold In at a4)); (first | have a5 := in_u j62_3 | (have a5 := j62_3; unfold In at a5)); (first | have a6 := in_u j62_2 | (have a6 := j62_2; unfold In at a6)); (first | have a7 := in_u i76 | (have a7 := i76; unfold In at a7)); have a8 := t_add e76 ro_109_19 i67 rfl; (first | have a9 := in_u i248 | (have a9 := i248; unfold In at a9)); have a10 := t_add e248 j62_3 (in_c 1 rfl) rfl; (first | have a11 := in_u ((in_c 1 rfl)) | (have a11 := (in_c 1 rfl); unfold In at a11)); (first | have a12 := in_u i233 | (have a12 := i233; unfold In at a12)); have a13 := t_add e233 (in_c 200 rfl) i67 rfl; (first | have a14 := in_u ((in_c 200 rfl)) | (have a14 := (in_c 200 rfl); unfold In at a14)); have a15 := tx_i2l e130; (first | have a16 := in_u i129 | (have a16 := i129; unfold In at a16)); omega) (by rw [sI_p rfl, sI_q]) (by rw [sI_q, sI_p rfl]) (by rw [sI_p rfl, sI_p rfl]) (by rw [sI_p rfl, sI_p rfl]) (by rw [sI_p rfl, sI_p rfl]) (by rw [sI_p rfl, sI_p rfl]) rfl rfl rfl i95 (by rw [← e201]; exact c202) (by show y62_5.toInt.toNat < 160; (first | have a0 := in_u h1 | (have a0 := h1; unfold In at a0)); (first | have a1 := in_u ro_109_20 | (have a1 := ro_109_20; unfold In at a1)); (first | have a2 := in_u ro_109_19 | (have a2 := ro_109_19; unfold In at a2)); (first | have a3 := in_u i67 | (have a3 := i67; unfold In at a3)); (first | have a4 := in_u i98 | (have a4 := i98; unfold In at a4)); (first | have a5 := in_u j62_3 | (have a5 := j62_3; unfold In at a5)); (first | have a6 := in_u j62_2 | (have a6 := j62_2; unfold In at a6)); (first | have a7 := in_u i76 | (have a7 := i76; unfold In at a7)); have a8 := t_add e76 ro_109_19 i67 rfl; (first | have a9 := in_u i248 | (have a9 := i248; unfold In at a9)); have a10 := t_add e248 j62_3 (in_c 1 rfl) rfl; (first | have a11 := in_u ((in_c 1 rfl)) | (have a11 := (in_c 1 rfl); unfold In at a11)); (first | have a12 := in_u i233 | (have a12 := i233; unfold In at a12)); have a13 := t_add e233 (in_c 200 rfl) i67 rfl; (first | have a14 := in_u ((in_c 200 rfl)) | (have a14 := (in_c 200 rfl); unfold In at a14)); have a15 := tx_i2l e130; (first | have a16 := in_u i129 | (have a16 := i129; unfold In at a16)); (first | exact zt_l (by decide) (by omega) | omega)) (Or.inr ⟨by show _ = 200 + ((y62_5.toInt.toNat : Nat) : Int); (first | have a0 := in_u h1 | (have a0 := h1; unfold In at a0)); (first | have a1 := in_u ro_109_20 | (have a1 := ro_109_20; unfold In at a1)); (first | have a2 := in_u ro_109_19 | (have a2 := ro_109_19; unfold In at a2)); (first | have a3 := in_u i67 | (have a3 := i67; unfold In at a3)); (first | have a4 := in_u i98 | (have a4 := i98; unfold In at a4)); (first | have a5 := in_u j62_3 | (have a5 := j62_3; unfold In at a5)); (first | have a6 := in_u j62_2 | (have a6 := j62_2; unfold In at a6)); (first | have a7 := in_u i76 | (have a7 := i76; unfold In at a7)); have a8 := t_add e76 ro_109_19 i67 rfl; (first | have a9 := in_u i248 | (have a9 := i248; unfold In at a9)); have a10 := t_add e248 j62_3 (in_c 1 rfl) rfl; (first | have a11 := in_u ((in_c 1 rfl)) | (have a11 := (in_c 1 rfl); unfold In at a11)); (first | have a12 := in_u i233 | (have a12 := i233; unfold In at a12)); have a13 := t_add e233 (in_c 200 rfl) i67 rfl; (first | have a14 := in_u ((in_c 200 rfl)) | (have a14 := (in_c 200 rfl); unfold In at a14)); have a15 := tx_i2l e130; (first | have a16 := in_u i129 | (have a16 := i129; unfold In at a16)); omega, by rw [hbs, ← e85]; exact c86, by rw [hbs]; exact e95.symm, by rw [hbs, ← e184, Int32.toInt_inj.mp c187]; exact g62_1, by rw [hbs, ← e184]; exact i184, by rw [← e122]; exact c214a⟩))) | (have nsi : SI (sI (sI sc62 148 z95.toNatClampNeg z233) 132 y62_3.toNatClampNeg z95) (x1).toInt (z248).toInt := (by have hl3 : (z248).toInt = y62_3.toInt + 1 := (by (first | have a0 := in_u h1 | (have a0 := h1; unfold In at a0)); (first | have a1 := in_u ro_109_20 | (have a1 := ro_109_20; unfold In at a1)); (first | have a2 := in_u ro_109_19 | (have a2 := ro_109_19; unfold In at a2)); (first | have a3 := in_u i67 | (have a3 := i67; unfold In at a3)); (first | have a4 := in_u i98 | (have a4 := i98; unfold In at a4)); (first | have a5 := in_u j62_3 | (have a5 := j62_3; unfold In at a5)); (first | have a6 := in_u j62_2 | (have a6 := j62_2; unfold In at a6)); (first | have a7 := in_u i76 | (have a7 := i76; unfold In at a7)); have a8 := t_add e76 ro_109_19 i67 rfl; (first | have a9 := in_u i248 | (have a9 := i248; unfold In at a9)); have a10 := t_add e248 j62_3 (in_c 1 rfl) rfl; (first | have a11 := in_u ((in_c 1 rfl)) | (have a11 := (in_c 1 rfl); unfold In at a11)); (first | have a12 := in_u i233 | (have a12 := i233; unfold In at a12)); have a13 := t_add e233 (in_c 200 rfl) i67 rfl; (first | have a14 := in_u ((in_c 200 rfl)) | (have a14 := (in_c 200 rfl); unfold In at a14)); have a15 := tx_i2l e130; (first | have a16 := in_u i129 | (have a16 := i129; unfold In at a16)); omega); rw [hl3]; exact si_push (s := sc62) (a := y62_5.toNatClampNeg) (m := y62_3.toNatClampNeg) g62_0 (by show ((y62_3.toInt.toNat : Nat) : Int) = _; (first | have a0 := in_u h1 | (have a0 := h1; unfold In at a0)); (first | have a1 := in_u ro_109_20 | (have a1 := ro_109_20; unfold In at a1)); (first | have a2 := in_u ro_109_19 | (have a2 := ro_109_19; unfold In at a2)); (first | have a3 := in_u i67 | (have a3 := i67; unfold In at a3)); (first | have a4 := in_u i98 | (have a4 := i98; unfold In at a4)); (first | have a5 := in_u j62_3 | (have a5 := j62_3; unfold In at a5)); (first | have a6 := in_u j62_2 | (have a6 := j62_2; unfold In at a6)); (first | have a7 := in_u i76 | (have a7 := i76; unfold In at a7)); have a8 := t_add e76 ro_109_19 i67 rfl; (first | have a9 := in_u i248 | (have a9 := i248; unfold In at a9)); have a10 := t_add e248 j62_3 (in_c 1 rfl) rfl; (first | have a11 := in_u ((in_c 1 rfl)) | (have a11 := (in_c 1 rfl); unfold In at a11)); (first | have a12 := in_u i233 | (have a12 := i233; unfold In at a12)); have a13 := t_add e233 (in_c 200 rfl) i67 rfl; (first | have a14 := in_u ((in_c 200 rfl)) | (have a14 := (in_c 200 rfl); unfold In at a14)); have a15 := tx_i2l e130; (first | have a16 := in_u i129 | (have a16 := i129; unfold In at a16)); omega) (by rw [sI_p rfl, sI_q]) (by rw [sI_q, sI_p rfl]) (by rw [sI_p rfl, sI_p rfl]) (by rw [sI_p rfl, sI_p rfl]) (by rw [sI_p rfl, sI_p rfl]) (by rw [sI_p rfl, sI_p rfl]) rfl rfl rfl i95 (by rw [← e201]; exact c202) (by show y62_5.toInt.toNat < 160; (first | have a0 := in_u h1 | (have a0 := h1; unfold In at a0)); (first | have a1 := in_u ro_109_20 | (have a1 := ro_109_20; unfold In at a1)); (first | have a2 := in_u ro_109_19 | (have a2 := ro_109_19; unfold In at a2)); (first | have a3 := in_u i67 | (have a3 := i67; unfold In at a3)); (first | have a4 := in_u i98 | (have a4 := i98; unfold In at a4)); (first | have a5 := in_u j62_3 | (have a5 := j62_3; unfold In at a5)); (first | have a6 := in_u j62_2 | (have a6 := j62_2; unfold In at a6)); (first | have a7 := in_u i76 | (have a7 := i76; unfold In at a7)); have a8 := t_add e76 ro_109_19 i67 rfl; (first | have a9 := in_u i248 | (have a9 := i248; unfold In at a9)); have a10 := t_add e248 j62_3 (in_c 1 rfl) rfl; (first | have a11 := in_u ((in_c 1 rfl)) | (have a11 := (in_c 1 rfl); unfold In at a11)); (first | have a12 := in_u i233 | (have a12 := i233; unfold In at a12)); have a13 := t_add e233 (in_c 200 rfl) i67 rfl; (first | have a14 := in_u ((in_c 200 rfl)) | (have a14 := (in_c 200 rfl); unfold In at a14)); have a15 := tx_i2l e130; (first | have a16 := in_u i129 | (have a16 := i129; unfold In at a16)); (first | exact zt_l (by decide) (by omega) | omega)) (Or.inr ⟨by show _ = 200 + ((y62_5.toInt.toNat : Nat) : Int); (first | have a0 := in_u h1 | (have a0 := h1; unfold In at a0)); (first | have a1 := in_u ro_109_20 | (have a1 := ro_109_20; unfold In at a1)); (first | have a2 := in_u ro_109_19 | (have a2 := ro_109_19; unfold In at a2)); (first | have a3 := in_u i67 | (have a3 := i67; unfold In at a3)); (first | have a4 := in_u i98 | (have a4 := i98; unfold In at a4)); (first | have a5 := in_u j62_3 | (have a5 := j62_3; unfold In at a5)); (first | have a6 := in_u j62_2 | (have a6 := j62_2; unfold In at a6)); (first | have a7 := in_u i76 | (have a7 := i76; unfold In at a7)); have a8 := t_add e76 ro_109_19 i67 rfl; (first | have a9 := in_u i248 | (have a9 := i248; unfold In at a9)); have a10 := t_add e248 j62_3 (in_c 1 rfl) rfl; (first | have a11 := in_u ((in_c 1 rfl)) | (have a11 := (in_c 1 rfl); unfold In at a11)); (first | have a12 := in_u i233 | (have a12 := i233; unfold In at a12)); have a13 := t_add e233 (in_c 200 rfl) i67 rfl; (first | have a14 := in_u ((in_c 200 rfl)) | (have a14 := (in_c 200 rfl); unfold In at a14)); have a15 := tx_i2l e130; (first | have a16 := in_u i129 | (have a16 := i129; unfold In at a16)); omega, by rw [hbs, ← e85]; exact c86, by rw [hbs]; exact e95.symm, by rw [hbs, ← e111, Int32.toInt_inj.mp c187]; exact g62_1, by rw [hbs, ← e111]; exact i111, by rw [← e211]; exact c214a⟩))) | (have nsi : SI (sI (sI sc62 148 z95.toNatClampNeg z233) 132 y62_3.toNatClampNeg z95) (x1).toInt (z248).toInt := (by have hl3 : (z248).toInt = y62_3.toInt + 1 := (by (first | have a0 := in_u h1 | (have a0 := h1; unfold In at a0)); (first | have a1 := in_u ro_109_20 | (have a1 := ro_109_20; unfold In at a1)); (first | have a2 := in_u ro_109_19 | (have a2 := ro_109_19; unfold In at a2)); (first | have a3 := in_u i67 | (have a3 := i67; unfold In at a3)); (first | have a4 := in_u i98 | (have a4 := i98; unfold In at a4)); (first | have a5 := in_u j62_3 | (have a5 := j62_3; unfold In at a5)); (first | have a6 := in_u j62_2 | (have a6 := j62_2; unfold In at a6)); (first | have a7 := in_u i76 | (have a7 := i76; unfold In at a7)); have a8 := t_add e76 ro_109_19 i67 rfl; (first | have a9 := in_u i248 | (have a9 := i248; unfold In at a9)); have a10 := t_add e248 j62_3 (in_c 1 rfl) rfl; (first | have a11 := in_u ((in_c 1 rfl)) | (have a11 := (in_c 1 rfl); unfold In at a11)); (first | have a12 := in_u i233 | (have a12 := i233; unfold In at a12)); have a13 := t_add e233 (in_c 200 rfl) i67 rfl; (first | have a14 := in_u ((in_c 200 rfl)) | (have a14 := (in_c 200 rfl); unfold In at a14)); have a15 := tx_i2l e130; (first | have a16 := in_u i129 | (have a16 := i129; unfold In at a16)); omega); rw [hl3]; exact si_push (s := sc62) (a := y62_5.toNatClampNeg) (m := y62_3.toNatClampNeg) g62_0 (by show ((y62_3.toInt.toNat : Nat) : Int) = _; (first | have a0 := in_u h1 | (have a0 := h1; unfold In at a0)); (first | have a1 := in_u ro_109_20 | (have a1 := ro_109_20; unfold In at a1)); (first | have a2 := in_u ro_109_19 | (have a2 := ro_109_19; unfold In at a2)); (first | have a3 := in_u i67 | (have a3 := i67; unfold In at a3)); (first | have a4 := in_u i98 | (have a4 := i98; unfold In at a4)); (first | have a5 := in_u j62_3 | (have a5 := j62_3; unfold In at a5)); (first | have a6 := in_u j62_2 | (have a6 := j62_2; unfold In at a6)); (first | have a7 := in_u i76 | (have a7 := i76; unfold In at a7)); have a8 := t_add e76 ro_109_19 i67 rfl; (first | have a9 := in_u i248 | (have a9 := i248; unfold In at a9)); have a10 := t_add e248 j62_3 (in_c 1 rfl) rfl; (first | have a11 := in_u ((in_c 1 rfl)) | (have a11 := (in_c 1 rfl); unfold In at a11)); (first | have a12 := in_u i233 | (have a12 := i233; unfold In at a12)); have a13 := t_add e233 (in_c 200 rfl) i67 rfl; (first | have a14 := in_u ((in_c 200 rfl)) | (have a14 := (in_c 200 rfl); unfold In at a14)); have a15 := tx_i2l e130; (first | have a16 := in_u i129 | (have a16 := i129; unfold In at a16)); omega) (by rw [sI_p rfl, sI_q]) (by rw [sI_q, sI_p rfl]) (by rw [sI_p rfl, sI_p rfl]) (by rw [sI_p rfl, sI_p rfl]) (by rw [sI_p rfl, sI_p rfl]) (by rw [sI_p rfl, sI_p rfl]) rfl rfl rfl i95 (by rw [← e201]; exact c202) (by show y62_5.toInt.toNat < 160; (first | have a0 := in_u h1 | (have a0 := h1; unfold In at a0)); (first | have a1 := in_u ro_109_20 | (have a1 := ro_109_20; unfold In at a1)); (first | have a2 := in_u ro_109_19 | (have a2 := ro_109_19; unfold In at a2)); (first | have a3 := in_u i67 | (have a3 := i67; unfold In at a3)); (first | have a4 := in_u i98 | (have a4 := i98; unfold In at a4)); (first | have a5 := in_u j62_3 | (have a5 := j62_3; unfold In at a5)); (first | have a6 := in_u j62_2 | (have a6 := j62_2; unfold In at a6)); (first | have a7 := in_u i76 | (have a7 := i76; unfold In at a7)); have a8 := t_add e76 ro_109_19 i67 rfl; (first | have a9 := in_u i248 | (have a9 := i248; unfold In at a9)); have a10 := t_add e248 j62_3 (in_c 1 rfl) rfl; (first | have a11 := in_u ((in_c 1 rfl)) | (have a11 := (in_c 1 rfl); unfold In at a11)); (first | have a12 := in_u i233 | (have a12 := i233; unfold In at a12)); have a13 := t_add e233 (in_c 200 rfl) i67 rfl; (first | have a14 := in_u ((in_c 200 rfl)) | (have a14 := (in_c 200 rfl); unfold In at a14)); have a15 := tx_i2l e130; (first | have a16 := in_u i129 | (have a16 := i129; unfold In at a16)); (first | exact zt_l (by decide) (by omega) | omega)) (Or.inr ⟨by show _ = 200 + ((y62_5.toInt.toNat : Nat) : Int); (first | have a0 := in_u h1 | (have a0 := h1; unfold In at a0)); (first | have a1 := in_u ro_109_20 | (have a1 := ro_109_20; unfold In at a1)); (first | have a2 := in_u ro_109_19 | (have a2 := ro_109_19; unfold In at a2)); (first | have a3 := in_u i67 | (have a3 := i67; unfold In at a3)); (first | have a4 := in_u i98 | (have a4 := i98; unfold In at a4)); (first | have a5 := in_u j62_3 | (have a5 := j62_3; unfold In at a5)); (first | have a6 := in_u j62_2 | (have a6 := j62_2; unfold In at a6)); (first | have a7 := in_u i76 | (have a7 := i76; unfold In at a7)); have a8 := t_add e76 ro_109_19 i67 rfl; (first | have a9 := in_u i248 | (have a9 := i248; unfold In at a9)); have a10 := t_add e248 j62_3 (in_c 1 rfl) rfl; (first | have a11 := in_u ((in_c 1 rfl)) | (have a11 := (in_c 1 rfl); unfold In at a11)); (first | have a12 := in_u i233 | (have a12 := i233; unfold In at a12)); have a13 := t_add e233 (in_c 200 rfl) i67 rfl; (first | have a14 := in_u ((in_c 200 rfl)) | (have a14 := (in_c 200 rfl); unfold In at a14)); have a15 := tx_i2l e130; (first | have a16 := in_u i129 | (have a16 := i129; unfold In at a16)); omega, by rw [hbs, ← e85]; exact c86, by rw [hbs]; exact e95.symm, by rw [hbs, ← e111, Int32.toInt_inj.mp c187]; exact g62_1, by rw [hbs, ← e111]; exact i111, by rw [← e122]; exact c214a⟩))) | skip
                            refine g_iinc 254 (gd rfl) rfl rfl (Nat.le_of_ble_eq_true rfl) (fun z251 e251 => ?_)
                            have i251 := in_add 1 160 e251 i67 (in_c 1 rfl) rfl rfl
                            refine g_goto 62 (gd rfl) rfl ?_
                            have i62 : In z248 0 32 := by first | (exact ⟨by (first | have a0 := in_u h1 | (have a0 := h1; unfold In at a0)); (first | have a1 := in_u ro_109_20 | (have a1 := ro_109_20; unfold In at a1)); (first | have a2 := in_u ro_109_19 | (have a2 := ro_109_19; unfold In at a2)); (first | have a3 := in_u i67 | (have a3 := i67; unfold In at a3)); (first | have a4 := in_u i98 | (have a4 := i98; unfold In at a4)); (first | have a5 := in_u j62_3 | (have a5 := j62_3; unfold In at a5)); (first | have a6 := in_u j62_2 | (have a6 := j62_2; unfold In at a6)); (first | have a7 := in_u i76 | (have a7 := i76; unfold In at a7)); have a8 := t_add e76 ro_109_19 i67 rfl; (first | have a9 := in_u i251 | (have a9 := i251; unfold In at a9)); have a10 := t_add e251 i67 (in_c 1 rfl) rfl; (first | have a11 := in_u ((in_c 1 rfl)) | (have a11 := (in_c 1 rfl); unfold In at a11)); (first | have a12 := in_u i248 | (have a12 := i248; unfold In at a12)); have a13 := t_add e248 j62_3 (in_c 1 rfl) rfl; (first | have a14 := in_u i233 | (have a14 := i233; unfold In at a14)); have a15 := t_add e233 (in_c 200 rfl) i67 rfl; (first | have a16 := in_u ((in_c 200 rfl)) | (have a16 := (in_c 200 rfl); unfold In at a16)); have a17 := tx_i2l e130; (first | have a18 := in_u i129 | (have a18 := i129; unfold In at a18)); omega, by (first | have a0 := in_u h1 | (have a0 := h1; unfold In at a0)); (first | have a1 := in_u ro_109_20 | (have a1 := ro_109_20; unfold In at a1)); (first | have a2 := in_u ro_109_19 | (have a2 := ro_109_19; unfold In at a2)); (first | have a3 := in_u i67 | (have a3 := i67; unfold In at a3)); (first | have a4 := in_u i98 | (have a4 := i98; unfold In at a4)); (first | have a5 := in_u j62_3 | (have a5 := j62_3; unfold In at a5)); (first | have a6 := in_u j62_2 | (have a6 := j62_2; unfold In at a6)); (first | have a7 := in_u i76 | (have a7 := i76; unfold In at a7)); have a8 := t_add e76 ro_109_19 i67 rfl; (first | have a9 := in_u i251 | (have a9 := i251; unfold In at a9)); have a10 := t_add e251 i67 (in_c 1 rfl) rfl; (first | have a11 := in_u ((in_c 1 rfl)) | (have a11 := (in_c 1 rfl); unfold In at a11)); (first | have a12 := in_u i248 | (have a12 := i248; unfold In at a12)); have a13 := t_add e248 j62_3 (in_c 1 rfl) rfl; (first | have a14 := in_u i233 | (have a14 := i233; unfold In at a14)); have a15 := t_add e233 (in_c 200 rfl) i67 rfl; (first | have a16 := in_u ((in_c 200 rfl)) | (have a16 := (in_c 200 rfl); unfold In at a16)); have a17 := tx_i2l e130; (first | have a18 := in_u i129 | (have a18 := i129; unfold In at a18)); omega⟩) | (have hq := si_le nsi; exact ⟨by (first | have a0 := in_u h1 | (have a0 := h1; unfold In at a0)); (first | have a1 := in_u ro_109_20 | (have a1 := ro_109_20; unfold In at a1)); (first | have a2 := in_u ro_109_19 | (have a2 := ro_109_19; unfold In at a2)); (first | have a3 := in_u i67 | (have a3 := i67; unfold In at a3)); (first | have a4 := in_u i98 | (have a4 := i98; unfold In at a4)); (first | have a5 := in_u j62_3 | (have a5 := j62_3; unfold In at a5)); (first | have a6 := in_u j62_2 | (have a6 := j62_2; unfold In at a6)); (first | have a7 := in_u i76 | (have a7 := i76; unfold In at a7)); have a8 := t_add e76 ro_109_19 i67 rfl; (first | have a9 := in_u i251 | (have a9 := i251; unfold In at a9)); have a10 := t_add e251 i67 (in_c 1 rfl) rfl; (first | have a11 := in_u ((in_c 1 rfl)) | (have a11 := (in_c 1 rfl); unfold In at a11)); (first | have a12 := in_u i248 | (have a12 := i248; unfold In at a12)); have a13 := t_add e248 j62_3 (in_c 1 rfl) rfl; (first | have a14 := in_u i233 | (have a14 := i233; unfold In at a14)); have a15 := t_add e233 (in_c 200 rfl) i67 rfl; (first | have a16 := in_u ((in_c 200 rfl)) | (have a16 := (in_c 200 rfl); unfold In at a16)); have a17 := tx_i2l e130; (first | have a18 := in_u i129 | (have a18 := i129; unfold In at a18)); omega, by (first | have a0 := in_u h1 | (have a0 := h1; unfold In at a0)); (first | have a1 := in_u ro_109_20 | (have a1 := ro_109_20; unfold In at a1)); (first | have a2 := in_u ro_109_19 | (have a2 := ro_109_19; unfold In at a2)); (first | have a3 := in_u i67 | (have a3 := i67; unfold In at a3)); (first | have a4 := in_u i98 | (have a4 := i98; unfold In at a4)); (first | have a5 := in_u j62_3 | (have a5 := j62_3; unfold In at a5)); (first | have a6 := in_u j62_2 | (have a6 := j62_2; unfold In at a6)); (first | have a7 := in_u i76 | (have a7 := i76; unfold In at a7)); have a8 := t_add e76 ro_109_19 i67 rfl; (first | have a9 := in_u i251 | (have a9 := i251; unfold In at a9)); have a10 := t_add e251 i67 (in_c 1 rfl) rfl; (first | have a11 := in_u ((in_c 1 rfl)) | (have a11 := (in_c 1 rfl); unfold In at a11)); (first | have a12 := in_u i248 | (have a12 := i248; unfold In at a12)); have a13 := t_add e248 j62_3 (in_c 1 rfl) rfl; (first | have a14 := in_u i233 | (have a14 := i233; unfold In at a14)); have a15 := t_add e233 (in_c 200 rfl) i67 rfl; (first | have a16 := in_u ((in_c 200 rfl)) | (have a16 := (in_c 200 rfl); unfold In at a16)); have a17 := tx_i2l e130; (first | have a18 := in_u i129 | (have a18 := i129; unfold In at a18)); omega⟩)
                            have n62 : (y62_2).toInt = y43_2.toInt + 1 := by first | exact n62_0 | ((first | have a0 := in_u h1 | (have a0 := h1; unfold In at a0)); (first | have a1 := in_u ro_109_20 | (have a1 := ro_109_20; unfold In at a1)); (first | have a2 := in_u ro_109_19 | (have a2 := ro_109_19; unfold In at a2)); (first | have a3 := in_u i67 | (have a3 := i67; unfold In at a3)); (first | have a4 := in_u i98 | (have a4 := i98; unfold In at a4)); (first | have a5 := in_u j62_3 | (have a5 := j62_3; unfold In at a5)); (first | have a6 := in_u j62_2 | (have a6 := j62_2; unfold In at a6)); (first | have a7 := in_u i76 | (have a7 := i76; unfold In at a7)); have a8 := t_add e76 ro_109_19 i67 rfl; (first | have a9 := in_u i251 | (have a9 := i251; unfold In at a9)); have a10 := t_add e251 i67 (in_c 1 rfl) rfl; (first | have a11 := in_u ((in_c 1 rfl)) | (have a11 := (in_c 1 rfl); unfold In at a11)); (first | have a12 := in_u i62 | (have a12 := i62; unfold In at a12)); have a13 := t_add e248 j62_3 (in_c 1 rfl) rfl; (first | have a14 := in_u i233 | (have a14 := i233; unfold In at a14)); have a15 := t_add e233 (in_c 200 rfl) i67 rfl; (first | have a16 := in_u ((in_c 200 rfl)) | (have a16 := (in_c 200 rfl); unfold In at a16)); have a17 := tx_i2l e130; (first | have a18 := in_u i129 | (have a18 := i129; unfold In at a18)); omega)
                            have n62a : (y62_2).toInt ≤ (z248).toInt := by (first | have a0 := in_u h1 | (have a0 := h1; unfold In at a0)); (first | have a1 := in_u ro_109_20 | (have a1 := ro_109_20; unfold In at a1)); (first | have a2 := in_u ro_109_19 | (have a2 := ro_109_19; unfold In at a2)); (first | have a3 := in_u i67 | (have a3 := i67; unfold In at a3)); (first | have a4 := in_u i98 | (have a4 := i98; unfold In at a4)); (first | have a5 := in_u j62_3 | (have a5 := j62_3; unfold In at a5)); (first | have a6 := in_u j62_2 | (have a6 := j62_2; unfold In at a6)); (first | have a7 := in_u i76 | (have a7 := i76; unfold In at a7)); have a8 := t_add e76 ro_109_19 i67 rfl; (first | have a9 := in_u i251 | (have a9 := i251; unfold In at a9)); have a10 := t_add e251 i67 (in_c 1 rfl) rfl; (first | have a11 := in_u ((in_c 1 rfl)) | (have a11 := (in_c 1 rfl); unfold In at a11)); (first | have a12 := in_u i62 | (have a12 := i62; unfold In at a12)); have a13 := t_add e248 j62_3 (in_c 1 rfl) rfl; (first | have a14 := in_u i233 | (have a14 := i233; unfold In at a14)); have a15 := t_add e233 (in_c 200 rfl) i67 rfl; (first | have a16 := in_u ((in_c 200 rfl)) | (have a16 := (in_c 200 rfl); unfold In at a16)); have a17 := tx_i2l e130; (first | have a18 := in_u i129 | (have a18 := i129; unfold In at a18)); omega
                            have n62b : SI (sI (sI sc62 148 z95.toNatClampNeg z233) 132 y62_3.toNatClampNeg z95) (x1).toInt (z248).toInt := by first | exact g43_0 | exact g62_0 | exact nsi
                            have n62c : 0 ≤ ((sI (sI sc62 148 z95.toNatClampNeg z233) 132 y62_3.toNatClampNeg z95).1 148 (y62_4).toNatClampNeg).toInt := by first | exact g62_1 | (have h := g43_0.2.2.1 y43_2.toNatClampNeg (by show ((y43_2.toInt.toNat : Nat) : Int) < _; (first | have a0 := in_u h1 | (have a0 := h1; unfold In at a0)); (first | have a1 := in_u ro_109_20 | (have a1 := ro_109_20; unfold In at a1)); (first | have a2 := in_u ro_109_19 | (have a2 := ro_109_19; unfold In at a2)); (first | have a3 := in_u i67 | (have a3 := i67; unfold In at a3)); (first | have a4 := in_u i98 | (have a4 := i98; unfold In at a4)); (first | have a5 := in_u j62_3 | (have a5 := j62_3; unfold In at a5)); (first | have a6 := in_u j62_2 | (have a6 := j62_2; unfold In at a6)); (first | have a7 := in_u i76 | (have a7 := i76; unfold In at a7)); have a8 := t_add e76 ro_109_19 i67 rfl; (first | have a9 := in_u i251 | (have a9 := i251; unfold In at a9)); have a10 := t_add e251 i67 (in_c 1 rfl) rfl; (first | have a11 := in_u ((in_c 1 rfl)) | (have a11 := (in_c 1 rfl); unfold In at a11)); (first | have a12 := in_u i62 | (have a12 := i62; unfold In at a12)); have a13 := t_add e248 j62_3 (in_c 1 rfl) rfl; (first | have a14 := in_u i233 | (have a14 := i233; unfold In at a14)); have a15 := t_add e233 (in_c 200 rfl) i67 rfl; (first | have a16 := in_u ((in_c 200 rfl)) | (have a16 := (in_c 200 rfl); unfold In at a16)); have a17 := tx_i2l e130; (first | have a18 := in_u i129 | (have a18 := i129; unfold In at a18)); omega); rw [← e53] at h; exact h.2) | (rw [sI_p rfl, sI_q]; exact up_ge g62_1 (by (first | have a0 := in_u h1 | (have a0 := h1; unfold In at a0)); (first | have a1 := in_u ro_109_20 | (have a1 := ro_109_20; unfold In at a1)); (first | have a2 := in_u ro_109_19 | (have a2 := ro_109_19; unfold In at a2)); (first | have a3 := in_u i67 | (have a3 := i67; unfold In at a3)); (first | have a4 := in_u i98 | (have a4 := i98; unfold In at a4)); (first | have a5 := in_u j62_3 | (have a5 := j62_3; unfold In at a5)); (first | have a6 := in_u j62_2 | (have a6 := j62_2; unfold In at a6)); (first | have a7 := in_u i76 | (have a7 := i76; unfold In at a7)); have a8 := t_add e76 ro_109_19 i67 rfl; (first | have a9 := in_u i251 | (have a9 := i251; unfold In at a9)); have a10 := t_add e251 i67 (in_c 1 rfl) rfl; (first | have a11 := in_u ((in_c 1 rfl)) | (have a11 := (in_c 1 rfl); unfold In at a11)); (first | have a12 := in_u i62 | (have a12 := i62; unfold In at a12)); have a13 := t_add e248 j62_3 (in_c 1 rfl) rfl; (first | have a14 := in_u i233 | (have a14 := i233; unfold In at a14)); have a15 := t_add e233 (in_c 200 rfl) i67 rfl; (first | have a16 := in_u ((in_c 200 rfl)) | (have a16 := (in_c 200 rfl); unfold In at a16)); have a17 := tx_i2l e130; (first | have a18 := in_u i129 | (have a18 := i129; unfold In at a18)); omega))
                            exact gg_w (by first | exact Nat.le_add_right _ _ | exact gw2 | exact gw3 | exact gwe rfl | exact gwf rfl | exact gwg rfl | exact gwh rfl | omega) (gg_f (gf_cons rfl (gf_cons rfl (gf_cons rfl (gf_cons rfl (gf_cons rfl (gf_cons rfl gf_nil)))))) (ih62 (sI (sI sc62 148 z95.toNatClampNeg z233) 132 y62_3.toNatClampNeg z95) y62_2 z248 y62_4 z251 hI247 (fr_sI rfl (fr_sI rfl hFc62)) (in_w 1 32 j62_2 rfl) i62 (in_w 0 1951 i98 rfl) (in_w 0 160 i251 rfl) n62 n62a n62b n62c (m_up mm62 (t_add e251 i67 (in_c 1 rfl) rfl) (in_w 1 1 (in_c 1 rfl) rfl))))
                  · skip
                    have i132 := z_lt (-1) (-1) c132 i131 rfl
                    have c132a := lc_lt e131 c132
                    have i132a := lr_lt1 (-9223372036854775808) 999999 c132a (l_rng z122) i130 rfl
                    refine g_aload_n 136 (gd rfl) rfl rfl ?_
                    refine g_getA (q2 := 148) 139 (gd rfl) rfl rfl rfl rfl ?_
                    refine g_aload_n 140 (gd rfl) rfl rfl ?_
                    refine g_getA (q2 := 114) 143 (gd rfl) rfl rfl rfl rfl ?_
                    refine g_iload 145 (gd rfl) rfl rfl ?_
                    refine g_iaload 146 (gd rfl) rfl (n := 480) rfl (in_ix i76 rfl) (fun z145 e145 => ?_)
                    have q145 : z111 = z145 := (e111).trans e145.symm
                    subst q145
                    refine g_iload 148 (gd rfl) rfl rfl ?_
                    refine g_iastore 149 (gd rfl) rfl (n := 34) rfl (in_ix i111 rfl) ?_
                    have hI148 := inv_sI (q := 148) (j := z111.toNatClampNeg) hIc62 rfl (in_w (-1) 1000 i67 rfl)
                    refine g_aload_n 150 (gd rfl) rfl rfl ?_
                    refine g_getA (q2 := 132) 153 (gd rfl) rfl rfl rfl rfl ?_
                    refine g_iload_n 154 (gd rfl) rfl rfl ?_
                    refine g_aload_n 155 (gd rfl) rfl rfl ?_
                    refine g_getA (q2 := 114) 158 (gd rfl) rfl rfl rfl rfl ?_
                    refine g_iload 160 (gd rfl) rfl rfl ?_
                    refine g_iaload 161 (gd rfl) rfl (n := 480) rfl (in_ix i76 rfl) (fun z160 e160 => ?_)
                    have q160 : z111 = z160 := (sI_ne rfl (e111)).trans e160.symm
                    subst q160
                    refine g_iastore 162 (gd rfl) rfl (n := 4000) rfl (in_ix j62_3 rfl) ?_
                    have hI161 := inv_sI (q := 132) (j := y62_3.toNatClampNeg) hI148 rfl (in_w 0 1951 i111 rfl)
                    refine g_iinc 165 (gd rfl) rfl rfl (Nat.le_of_ble_eq_true rfl) (fun z162 e162 => ?_)
                    have i162 := in_add 1 33 e162 j62_3 (in_c 1 rfl) rfl rfl
                    refine g_goto 251 (gd rfl) rfl ?_
                    first | (have nsi : SI (sI (sI sc62 148 z111.toNatClampNeg y62_5) 132 y62_3.toNatClampNeg z111) (x1).toInt (z162).toInt := (by have hl3 : (z162).toInt = y62_3.toInt + 1 := (by (first | have a0 := in_u h1 | (have a0 := h1; unfold In at a0)); (first | have a1 := in_u ro_109_20 | (have a1 := ro_109_20; unfold In at a1)); (first | have a2 := in_u ro_109_19 | (have a2 := ro_109_19; unfold In at a2)); (first | have a3 := in_u i67 | (have a3 := i67; unfold In at a3)); (first | have a4 := in_u i98 | (have a4 := i98; unfold In at a4)); (first | have a5 := in_u j62_3 | (have a5 := j62_3; unfold In at a5)); (first | have a6 := in_u j62_2 | (have a6 := j62_2; unfold In at a6)); (first | have a7 := in_u i76 | (have a7 := i76; unfold In at a7)); have a8 := t_add e76 ro_109_19 i67 rfl; (first | have a9 := in_u i162 | (have a9 := i162; unfold In at a9)); have a10 := t_add e162 j62_3 (in_c 1 rfl) rfl; (first | have a11 := in_u ((in_c 1 rfl)) | (have a11 := (in_c 1 rfl); unfold In at a11)); have a12 := tx_i2l e130; (first | have a13 := in_u i129 | (have a13 := i129; unfold In at a13)); omega); rw [hl3]; exact si_push (s := sc62) (a := y62_5.toNatClampNeg) (m := y62_3.toNatClampNeg) g62_0 (by show ((y62_3.toInt.toNat : Nat) : Int) = _; (first | have a0 := in_u h1 | (have a0 := h1; unfold In at a0)); (first | have a1 := in_u ro_109_20 | (have a1 := ro_109_20; unfold In at a1)); (first | have a2 := in_u ro_109_19 | (have a2 := ro_109_19; unfold In at a2)); (first | have a3 := in_u i67 | (have a3 := i67; unfold In at a3)); (first | have a4 := in_u i98 | (have a4 := i98; unfold In at a4)); (first | have a5 := in_u j62_3 | (have a5 := j62_3; unfold In at a5)); (first | have a6 := in_u j62_2 | (have a6 := j62_2; unfold In at a6)); (first | have a7 := in_u i76 | (have a7 := i76; unfold In at a7)); have a8 := t_add e76 ro_109_19 i67 rfl; (first | have a9 := in_u i162 | (have a9 := i162; unfold In at a9)); have a10 := t_add e162 j62_3 (in_c 1 rfl) rfl; (first | have a11 := in_u ((in_c 1 rfl)) | (have a11 := (in_c 1 rfl); unfold In at a11)); have a12 := tx_i2l e130; (first | have a13 := in_u i129 | (have a13 := i129; unfold In at a13)); omega) (by rw [sI_p rfl, sI_q]) (by rw [sI_q, sI_p rfl]) (by rw [sI_p rfl, sI_p rfl]) (by rw [sI_p rfl, sI_p rfl]) (by rw [sI_p rfl, sI_p rfl]) (by rw [sI_p rfl, sI_p rfl]) rfl rfl rfl i111 (by rw [← e112]; exact c113) (by show y62_5.toInt.toNat < 160; (first | have a0 := in_u h1 | (have a0 := h1; unfold In at a0)); (first | have a1 := in_u ro_109_20 | (have a1 := ro_109_20; unfold In at a1)); (first | have a2 := in_u ro_109_19 | (have a2 := ro_109_19; unfold In at a2)); (first | have a3 := in_u i67 | (have a3 := i67; unfold In at a3)); (first | have a4 := in_u i98 | (have a4 := i98; unfold In at a4)); (first | have a5 := in_u j62_3 | (have a5 := j62_3; unfold In at a5)); (first | have a6 := in_u j62_2 | (have a6 := j62_2; unfold In at a6)); (first | have a7 := in_u i76 | (have a7 := i76; unfold In at a7)); have a8 := t_add e76 ro_109_19 i67 rfl; (first | have a9 := in_u i162 | (have a9 := i162; unfold In at a9)); have a10 := t_add e162 j62_3 (in_c 1 rfl) rfl; (first | have a11 := in_u ((in_c 1 rfl)) | (have a11 := (in_c 1 rfl); unfold In at a11)); have a12 := tx_i2l e130; (first | have a13 := in_u i129 | (have a13 := i129; unfold In at a13)); (first | exact zt_l (by decide) (by omega) | omega)) (Or.inl ⟨by show _ = ((y62_5.toInt.toNat : Nat) : Int); (first | have a0 := in_u h1 | (have a0 := h1; unfold In at a0)); (first | have a1 := in_u ro_109_20 | (have a1 := ro_109_20; unfold In at a1)); (first | have a2 := in_u ro_109_19 | (have a2 := ro_109_19; unfold In at a2)); (first | have a3 := in_u i67 | (have a3 := i67; unfold In at a3)); (first | have a4 := in_u i98 | (have a4 := i98; unfold In at a4)); (first | have a5 := in_u j62_3 | (have a5 := j62_3; unfold In at a5)); (first | have a6 := in_u j62_2 | (have a6 := j62_2; unfold In at a6)); (first | have a7 := in_u i76 | (have a7 := i76; unfold In at a7)); have a8 := t_add e76 ro_109_19 i67 rfl; (first | have a9 := in_u i162 | (have a9 := i162; unfold In at a9)); have a10 := t_add e162 j62_3 (in_c 1 rfl) rfl; (first | have a11 := in_u ((in_c 1 rfl)) | (have a11 := (in_c 1 rfl); unfold In at a11)); have a12 := tx_i2l e130; (first | have a13 := in_u i129 | (have a13 := i129; unfold In at a13)); omega, by rw [hbs, ← e85]; exact c86, by rw [hbs]; exact e111.symm, by rw [hbs, ← e95, Int32.toInt_inj.mp c98]; exact g62_1, by rw [hbs, ← e95]; exact i95, by rw [hbs, ← e122, ← e129, ← tx_i2l e130]; exact c132a⟩))) | (have nsi : SI (sI (sI sc62 148 z111.toNatClampNeg y62_5) 132 y62_3.toNatClampNeg z111) (x1).toInt (z162).toInt := (by have hl3 : (z162).toInt = y62_3.toInt + 1 := (by (first | have a0 := in_u h1 | (have a0 := h1; unfold In at a0)); (first | have a1 := in_u ro_109_20 | (have a1 := ro_109_20; unfold In at a1)); (first | have a2 := in_u ro_109_19 | (have a2 := ro_109_19; unfold In at a2)); (first | have a3 := in_u i67 | (have a3 := i67; unfold In at a3)); (first | have a4 := in_u i98 | (have a4 := i98; unfold In at a4)); (first | have a5 := in_u j62_3 | (have a5 := j62_3; unfold In at a5)); (first | have a6 := in_u j62_2 | (have a6 := j62_2; unfold In at a6)); (first | have a7 := in_u i76 | (have a7 := i76; unfold In at a7)); have a8 := t_add e76 ro_109_19 i67 rfl; (first | have a9 := in_u i162 | (have a9 := i162; unfold In at a9)); have a10 := t_add e162 j62_3 (in_c 1 rfl) rfl; (first | have a11 := in_u ((in_c 1 rfl)) | (have a11 := (in_c 1 rfl); unfold In at a11)); have a12 := tx_i2l e130; (first | have a13 := in_u i129 | (have a13 := i129; unfold In at a13)); omega); rw [hl3]; exact si_push (s := sc62) (a := y62_5.toNatClampNeg) (m := y62_3.toNatClampNeg) g62_0 (by show ((y62_3.toInt.toNat : Nat) : Int) = _; (first | have a0 := in_u h1 | (have a0 := h1; unfold In at a0)); (first | have a1 := in_u ro_109_20 | (have a1 := ro_109_20; unfold In at a1)); (first | have a2 := in_u ro_109_19 | (have a2 := ro_109_19; unfold In at a2)); (first | have a3 := in_u i67 | (have a3 := i67; unfold In at a3)); (first | have a4 := in_u i98 | (have a4 := i98; unfold In at a4)); (first | have a5 := in_u j62_3 | (have a5 := j62_3; unfold In at a5)); (first | have a6 := in_u j62_2 | (have a6 := j62_2; unfold In at a6)); (first | have a7 := in_u i76 | (have a7 := i76; unfold In at a7)); have a8 := t_add e76 ro_109_19 i67 rfl; (first | have a9 := in_u i162 | (have a9 := i162; unfold In at a9)); have a10 := t_add e162 j62_3 (in_c 1 rfl) rfl; (first | have a11 := in_u ((in_c 1 rfl)) | (have a11 := (in_c 1 rfl); unfold In at a11)); have a12 := tx_i2l e130; (first | have a13 := in_u i129 | (have a13 := i129; unfold In at a13)); omega) (by rw [sI_p rfl, sI_q]) (by rw [sI_q, sI_p rfl]) (by rw [sI_p rfl, sI_p rfl]) (by rw [sI_p rfl, sI_p rfl]) (by rw [sI_p rfl, sI_p rfl]) (by rw [sI_p rfl, sI_p rfl]) rfl rfl rfl i95 (by rw [← e201]; exact c202) (by show y62_5.toInt.toNat < 160; (first | have a0 := in_u h1 | (have a0 := h1; unfold In at a0)); (first | have a1 := in_u ro_109_20 | (have a1 := ro_109_20; unfold In at a1)); (first | have a2 := in_u ro_109_19 | (have a2 := ro_109_19; unfold In at a2)); (first | have a3 := in_u i67 | (have a3 := i67; unfold In at a3)); (first | have a4 := in_u i98 | (have a4 := i98; unfold In at a4)); (first | have a5 := in_u j62_3 | (have a5 := j62_3; unfold In at a5)); (first | have a6 := in_u j62_2 | (have a6 := j62_2; unfold In at a6)); (first | have a7 := in_u i76 | (have a7 := i76; unfold In at a7)); have a8 := t_add e76 ro_109_19 i67 rfl; (first | have a9 := in_u i162 | (have a9 := i162; unfold In at a9)); have a10 := t_add e162 j62_3 (in_c 1 rfl) rfl; (first | have a11 := in_u ((in_c 1 rfl)) | (have a11 := (in_c 1 rfl); unfold In at a11)); have a12 := tx_i2l e130; (first | have a13 := in_u i129 | (have a13 := i129; unfold In at a13)); (first | exact zt_l (by decide) (by omega) | omega)) (Or.inr ⟨by show _ = 200 + ((y62_5.toInt.toNat : Nat) : Int); (first | have a0 := in_u h1 | (have a0 := h1; unfold In at a0)); (first | have a1 := in_u ro_109_20 | (have a1 := ro_109_20; unfold In at a1)); (first | have a2 := in_u ro_109_19 | (have a2 := ro_109_19; unfold In at a2)); (first | have a3 := in_u i67 | (have a3 := i67; unfold In at a3)); (first | have a4 := in_u i98 | (have a4 := i98; unfold In at a4)); (first | have a5 := in_u j62_3 | (have a5 := j62_3; unfold In at a5)); (first | have a6 := in_u j62_2 | (have a6 := j62_2; unfold In at a6)); (first | have a7 := in_u i76 | (have a7 := i76; unfold In at a7)); have a8 := t_add e76 ro_109_19 i67 rfl; (first | have a9 := in_u i162 | (have a9 := i162; unfold In at a9)); have a10 := t_add e162 j62_3 (in_c 1 rfl) rfl; (first | have a11 := in_u ((in_c 1 rfl)) | (have a11 := (in_c 1 rfl); unfold In at a11)); have a12 := tx_i2l e130; (first | have a13 := in_u i129 | (have a13 := i129; unfold In at a13)); omega, by rw [hbs, ← e85]; exact c86, by rw [hbs]; exact e95.symm, by rw [hbs, ← e184, Int32.toInt_inj.mp c187]; exact g62_1, by rw [hbs, ← e184]; exact i184, by rw [← e211]; exact c214a⟩))) | (have nsi : SI (sI (sI sc62 148 z111.toNatClampNeg y62_5) 132 y62_3.toNatClampNeg z111) (x1).toInt (z162).toInt := (by have hl3 : (z162).toInt = y62_3.toInt + 1 := (by (first | have a0 := in_u h1 | (have a0 := h1; unfold In at a0)); (first | have a1 := in_u ro_109_20 | (have a1 := ro_109_20; unfold In at a1)); (first | have a2 := in_u ro_109_19 | (have a2 := ro_109_19; unfold In at a2)); (first | have a3 := in_u i67 | (have a3 := i67; unfold In at a3)); (first | have a4 := in_u i98 | (have a4 := i98; unfold In at a4)); (first | have a5 := in_u j62_3 | (have a5 := j62_3; unfold In at a5)); (first | have a6 := in_u j62_2 | (have a6 := j62_2; unfold In at a6)); (first | have a7 := in_u i76 | (have a7 := i76; unfold In at a7)); have a8 := t_add e76 ro_109_19 i67 rfl; (first | have a9 := in_u i162 | (have a9 := i162; unfold In at a9)); have a10 := t_add e162 j62_3 (in_c 1 rfl) rfl; (first | have a11 := in_u ((in_c 1 rfl)) | (have a11 := (in_c 1 rfl); unfold In at a11)); have a12 := tx_i2l e130; (first | have a13 := in_u i129 | (have a13 := i129; unfold In at a13)); omega); rw [hl3]; exact si_push (s := sc62) (a := y62_5.toNatClampNeg) (m := y62_3.toNatClampNeg) g62_0 (by show ((y62_3.toInt.toNat : Nat) : Int) = _; (first | have a0 := in_u h1 | (have a0 := h1; unfold In at a0)); (first | have a1 := in_u ro_109_20 | (have a1 := ro_109_20; unfold In at a1)); (first | have a2 := in_u ro_109_19 | (have a2 := ro_109_19; unfold In at a2)); (first | have a3 := in_u i67 | (have a3 := i67; unfold In at a3)); (first | have a4 := in_u i98 | (have a4 := i98; unfold In at a4)); (first | have a5 := in_u j62_3 | (have a5 := j62_3; unfold In at a5)); (first | have a6 := in_u j62_2 | (have a6 := j62_2; unfold In at a6)); (first | have a7 := in_u i76 | (have a7 := i76; unfold In at a7)); have a8 := t_add e76 ro_109_19 i67 rfl; (first | have a9 := in_u i162 | (have a9 := i162; unfold In at a9)); have a10 := t_add e162 j62_3 (in_c 1 rfl) rfl; (first | have a11 := in_u ((in_c 1 rfl)) | (have a11 := (in_c 1 rfl); unfold In at a11)); have a12 := tx_i2l e130; (first | have a13 := in_u i129 | (have a13 := i129; unfold In at a13)); omega) (by rw [sI_p rfl, sI_q]) (by rw [sI_q, sI_p rfl]) (by rw [sI_p rfl, sI_p rfl]) (by rw [sI_p rfl, sI_p rfl]) (by rw [sI_p rfl, sI_p rfl]) (by rw [sI_p rfl, sI_p rfl]) rfl rfl rfl i95 (by rw [← e201]; exact c202) (by show y62_5.toInt.toNat < 160; (first | have a0 := in_u h1 | (have a0 := h1; unfold In at a0)); (first | have a1 := in_u ro_109_20 | (have a1 := ro_109_20; unfold In at a1)); (first | have a2 := in_u ro_109_19 | (have a2 := ro_109_19; unfold In at a2)); (first | have a3 := in_u i67 | (have a3 := i67; unfold In at a3)); (first | have a4 := in_u i98 | (have a4 := i98; unfold In at a4)); (first | have a5 := in_u j62_3 | (have a5 := j62_3; unfold In at a5)); (first | have a6 := in_u j62_2 | (have a6 := j62_2; unfold In at a6)); (first | have a7 := in_u i76 | (have a7 := i76; unfold In at a7)); have a8 := t_add e76 ro_109_19 i67 rfl; (first | have a9 := in_u i162 | (have a9 := i162; unfold In at a9)); have a10 := t_add e162 j62_3 (in_c 1 rfl) rfl; (first | have a11 := in_u ((in_c 1 rfl)) | (have a11 := (in_c 1 rfl); unfold In at a11)); have a12 := tx_i2l e130; (first | have a13 := in_u i129 | (have a13 := i129; unfold In at a13)); (first | exact zt_l (by decide) (by omega) | omega)) (Or.inr ⟨by show _ = 200 + ((y62_5.toInt.toNat : Nat) : Int); (first | have a0 := in_u h1 | (have a0 := h1; unfold In at a0)); (first | have a1 := in_u ro_109_20 | (have a1 := ro_109_20; unfold In at a1)); (first | have a2 := in_u ro_109_19 | (have a2 := ro_109_19; unfold In at a2)); (first | have a3 := in_u i67 | (have a3 := i67; unfold In at a3)); (first | have a4 := in_u i98 | (have a4 := i98; unfold In at a4)); (first | have a5 := in_u j62_3 | (have a5 := j62_3; unfold In at a5)); (first | have a6 := in_u j62_2 | (have a6 := j62_2; unfold In at a6)); (first | have a7 := in_u i76 | (have a7 := i76; unfold In at a7)); have a8 := t_add e76 ro_109_19 i67 rfl; (first | have a9 := in_u i162 | (have a9 := i162; unfold In at a9)); have a10 := t_add e162 j62_3 (in_c 1 rfl) rfl; (first | have a11 := in_u ((in_c 1 rfl)) | (have a11 := (in_c 1 rfl); unfold In at a11)); have a12 := tx_i2l e130; (first | have a13 := in_u i129 | (have a13 := i129; unfold In at a13)); omega, by rw [hbs, ← e85]; exact c86, by rw [hbs]; exact e95.symm, by rw [hbs, ← e184, Int32.toInt_inj.mp c187]; exact g62_1, by rw [hbs, ← e184]; exact i184, by rw [← e122]; exact c214a⟩))) | (have nsi : SI (sI (sI sc62 148 z111.toNatClampNeg y62_5) 132 y62_3.toNatClampNeg z111) (x1).toInt (z162).toInt := (by have hl3 : (z162).toInt = y62_3.toInt + 1 := (by (first | have a0 := in_u h1 | (have a0 := h1; unfold In at a0)); (first | have a1 := in_u ro_109_20 | (have a1 := ro_109_20; unfold In at a1)); (first | have a2 := in_u ro_109_19 | (have a2 := ro_109_19; unfold In at a2)); (first | have a3 := in_u i67 | (have a3 := i67; unfold In at a3)); (first | have a4 := in_u i98 | (have a4 := i98; unfold In at a4)); (first | have a5 := in_u j62_3 | (have a5 := j62_3; unfold In at a5)); (first | have a6 := in_u j62_2 | (have a6 := j62_2; unfold In at a6)); (first | have a7 := in_u i76 | (have a7 := i76; unfold In at a7)); have a8 := t_add e76 ro_109_19 i67 rfl; (first | have a9 := in_u i162 | (have a9 := i162; unfold In at a9)); have a10 := t_add e162 j62_3 (in_c 1 rfl) rfl; (first | have a11 := in_u ((in_c 1 rfl)) | (have a11 := (in_c 1 rfl); unfold In at a11)); have a12 := tx_i2l e130; (first | have a13 := in_u i129 | (have a13 := i129; unfold In at a13)); omega); rw [hl3]; exact si_push (s := sc62) (a := y62_5.toNatClampNeg) (m := y62_3.toNatClampNeg) g62_0 (by show ((y62_3.toInt.toNat : Nat) : Int) = _; (first | have a0 := in_u h1 | (have a0 := h1; unfold In at a0)); (first | have a1 := in_u ro_109_20 | (have a1 := ro_109_20; unfold In at a1)); (first | have a2 := in_u ro_109_19 | (have a2 := ro_109_19; unfold In at a2)); (first | have a3 := in_u i67 | (have a3 := i67; unfold In at a3)); (first | have a4 := in_u i98 | (have a4 := i98; unfold In at a4)); (first | have a5 := in_u j62_3 | (have a5 := j62_3; unfold In at a5)); (first | have a6 := in_u j62_2 | (have a6 := j62_2; unfold In at a6)); (first | have a7 := in_u i76 | (have a7 := i76; unfold In at a7)); have a8 := t_add e76 ro_109_19 i67 rfl; (first | have a9 := in_u i162 | (have a9 := i162; unfold In at a9)); have a10 := t_add e162 j62_3 (in_c 1 rfl) rfl; (first | have a11 := in_u ((in_c 1 rfl)) | (have a11 := (in_c 1 rfl); unfold In at a11)); have a12 := tx_i2l e130; (first | have a13 := in_u i129 | (have a13 := i129; unfold In at a13)); omega) (by rw [sI_p rfl, sI_q]) (by rw [sI_q, sI_p rfl]) (by rw [sI_p rfl, sI_p rfl]) (by rw [sI_p rfl, sI_p rfl]) (by rw [sI_p rfl, sI_p rfl]) (by rw [sI_p rfl, sI_p rfl]) rfl rfl rfl i95 (by rw [← e201]; exact c202) (by show y62_5.toInt.toNat < 160; (first | have a0 := in_u h1 | (have a0 := h1; unfold In at a0)); (first | have a1 := in_u ro_109_20 | (have a1 := ro_109_20; unfold In at a1)); (first | have a2 := in_u ro_109_19 | (have a2 := ro_109_19; unfold In at a2)); (first | have a3 := in_u i67 | (have a3 := i67; unfold In at a3)); (first | have a4 := in_u i98 | (have a4 := i98; unfold In at a4)); (first | have a5 := in_u j62_3 | (have a5 := j62_3; unfold In at a5)); (first | have a6 := in_u j62_2 | (have a6 := j62_2; unfold In at a6)); (first | have a7 := in_u i76 | (have a7 := i76; unfold In at a7)); have a8 := t_add e76 ro_109_19 i67 rfl; (first | have a9 := in_u i162 | (have a9 := i162; unfold In at a9)); have a10 := t_add e162 j62_3 (in_c 1 rfl) rfl; (first | have a11 := in_u ((in_c 1 rfl)) | (have a11 := (in_c 1 rfl); unfold In at a11)); have a12 := tx_i2l e130; (first | have a13 := in_u i129 | (have a13 := i129; unfold In at a13)); (first | exact zt_l (by decide) (by omega) | omega)) (Or.inr ⟨by show _ = 200 + ((y62_5.toInt.toNat : Nat) : Int); (first | have a0 := in_u h1 | (have a0 := h1; unfold In at a0)); (first | have a1 := in_u ro_109_20 | (have a1 := ro_109_20; unfold In at a1)); (first | have a2 := in_u ro_109_19 | (have a2 := ro_109_19; unfold In at a2)); (first | have a3 := in_u i67 | (have a3 := i67; unfold In at a3)); (first | have a4 := in_u i98 | (have a4 := i98; unfold In at a4)); (first | have a5 := in_u j62_3 | (have a5 := j62_3; unfold In at a5)); (first | have a6 := in_u j62_2 | (have a6 := j62_2; unfold In at a6)); (first | have a7 := in_u i76 | (have a7 := i76; unfold In at a7)); have a8 := t_add e76 ro_109_19 i67 rfl; (first | have a9 := in_u i162 | (have a9 := i162; unfold In at a9)); have a10 := t_add e162 j62_3 (in_c 1 rfl) rfl; (first | have a11 := in_u ((in_c 1 rfl)) | (have a11 := (in_c 1 rfl); unfold In at a11)); have a12 := tx_i2l e130; (first | have a13 := in_u i129 | (have a13 := i129; unfold In at a13)); omega, by rw [hbs, ← e85]; exact c86, by rw [hbs]; exact e95.symm, by rw [hbs, ← e111, Int32.toInt_inj.mp c187]; exact g62_1, by rw [hbs, ← e111]; exact i111, by rw [← e211]; exact c214a⟩))) | (have nsi : SI (sI (sI sc62 148 z111.toNatClampNeg y62_5) 132 y62_3.toNatClampNeg z111) (x1).toInt (z162).toInt := (by have hl3 : (z162).toInt = y62_3.toInt + 1 := (by (first | have a0 := in_u h1 | (have a0 := h1; unfold In at a0)); (first | have a1 := in_u ro_109_20 | (have a1 := ro_109_20; unfold In at a1)); (first | have a2 := in_u ro_109_19 | (have a2 := ro_109_19; unfold In at a2)); (first | have a3 := in_u i67 | (have a3 := i67; unfold In at a3)); (first | have a4 := in_u i98 | (have a4 := i98; unfold In at a4)); (first | have a5 := in_u j62_3 | (have a5 := j62_3; unfold In at a5)); (first | have a6 := in_u j62_2 | (have a6 := j62_2; unfold In at a6)); (first | have a7 := in_u i76 | (have a7 := i76; unfold In at a7)); have a8 := t_add e76 ro_109_19 i67 rfl; (first | have a9 := in_u i162 | (have a9 := i162; unfold In at a9)); have a10 := t_add e162 j62_3 (in_c 1 rfl) rfl; (first | have a11 := in_u ((in_c 1 rfl)) | (have a11 := (in_c 1 rfl); unfold In at a11)); have a12 := tx_i2l e130; (first | have a13 := in_u i129 | (have a13 := i129; unfold In at a13)); omega); rw [hl3]; exact si_push (s := sc62) (a := y62_5.toNatClampNeg) (m := y62_3.toNatClampNeg) g62_0 (by show ((y62_3.toInt.toNat : Nat) : Int) = _; (first | have a0 := in_u h1 | (have a0 := h1; unfold In at a0)); (first | have a1 := in_u ro_109_20 | (have a1 := ro_109_20; unfold In at a1)); (first | have a2 := in_u ro_109_19 | (have a2 := ro_109_19; unfold In at a2)); (first | have a3 := in_u i67 | (have a3 := i67; unfold In at a3)); (first | have a4 := in_u i98 | (have a4 := i98; unfold In at a4)); (first | have a5 := in_u j62_3 | (have a5 := j62_3; unfold In at a5)); (first | have a6 := in_u j62_2 | (have a6 := j62_2; unfold In at a6)); (first | have a7 := in_u i76 | (have a7 := i76; unfold In at a7)); have a8 := t_add e76 ro_109_19 i67 rfl; (first | have a9 := in_u i162 | (have a9 := i162; unfold In at a9)); have a10 := t_add e162 j62_3 (in_c 1 rfl) rfl; (first | have a11 := in_u ((in_c 1 rfl)) | (have a11 := (in_c 1 rfl); unfold In at a11)); have a12 := tx_i2l e130; (first | have a13 := in_u i129 | (have a13 := i129; unfold In at a13)); omega) (by rw [sI_p rfl, sI_q]) (by rw [sI_q, sI_p rfl]) (by rw [sI_p rfl, sI_p rfl]) (by rw [sI_p rfl, sI_p rfl]) (by rw [sI_p rfl, sI_p rfl]) (by rw [sI_p rfl, sI_p rfl]) rfl rfl rfl i95 (by rw [← e201]; exact c202) (by show y62_5.toInt.toNat < 160; (first | have a0 := in_u h1 | (have a0 := h1; unfold In at a0)); (first | have a1 := in_u ro_109_20 | (have a1 := ro_109_20; unfold In at a1)); (first | have a2 := in_u ro_109_19 | (have a2 := ro_109_19; unfold In at a2)); (first | have a3 := in_u i67 | (have a3 := i67; unfold In at a3)); (first | have a4 := in_u i98 | (have a4 := i98; unfold In at a4)); (first | have a5 := in_u j62_3 | (have a5 := j62_3; unfold In at a5)); (first | have a6 := in_u j62_2 | (have a6 := j62_2; unfold In at a6)); (first | have a7 := in_u i76 | (have a7 := i76; unfold In at a7)); have a8 := t_add e76 ro_109_19 i67 rfl; (first | have a9 := in_u i162 | (have a9 := i162; unfold In at a9)); have a10 := t_add e162 j62_3 (in_c 1 rfl) rfl; (first | have a11 := in_u ((in_c 1 rfl)) | (have a11 := (in_c 1 rfl); unfold In at a11)); have a12 := tx_i2l e130; (first | have a13 := in_u i129 | (have a13 := i129; unfold In at a13)); (first | exact zt_l (by decide) (by omega) | omega)) (Or.inr ⟨by show _ = 200 + ((y62_5.toInt.toNat : Nat) : Int); (first | have a0 := in_u h1 | (have a0 := h1; unfold In at a0)); (first | have a1 := in_u ro_109_20 | (have a1 := ro_109_20; unfold In at a1)); (first | have a2 := in_u ro_109_19 | (have a2 := ro_109_19; unfold In at a2)); (first | have a3 := in_u i67 | (have a3 := i67; unfold In at a3)); (first | have a4 := in_u i98 | (have a4 := i98; unfold In at a4)); (first | have a5 := in_u j62_3 | (have a5 := j62_3; unfold In at a5)); (first | have a6 := in_u j62_2 | (have a6 := j62_2; unfold In at a6)); (first | have a7 := in_u i76 | (have a7 := i76; unfold In at a7)); have a8 := t_add e76 ro_109_19 i67 rfl; (first | have a9 := in_u i162 | (have a9 := i162; unfold In at a9)); have a10 := t_add e162 j62_3 (in_c 1 rfl) rfl; (first | have a11 := in_u ((in_c 1 rfl)) | (have a11 := (in_c 1 rfl); unfold In at a11)); have a12 := tx_i2l e130; (first | have a13 := in_u i129 | (have a13 := i129; unfold In at a13)); omega, by rw [hbs, ← e85]; exact c86, by rw [hbs]; exact e95.symm, by rw [hbs, ← e111, Int32.toInt_inj.mp c187]; exact g62_1, by rw [hbs, ← e111]; exact i111, by rw [← e122]; exact c214a⟩))) | skip
                    refine g_iinc 254 (gd rfl) rfl rfl (Nat.le_of_ble_eq_true rfl) (fun z251 e251 => ?_)
                    have i251 := in_add 1 160 e251 i67 (in_c 1 rfl) rfl rfl
                    refine g_goto 62 (gd rfl) rfl ?_
                    have i62 : In z162 0 32 := by first | (exact ⟨by (first | have a0 := in_u h1 | (have a0 := h1; unfold In at a0)); (first | have a1 := in_u ro_109_20 | (have a1 := ro_109_20; unfold In at a1)); (first | have a2 := in_u ro_109_19 | (have a2 := ro_109_19; unfold In at a2)); (first | have a3 := in_u i67 | (have a3 := i67; unfold In at a3)); (first | have a4 := in_u i98 | (have a4 := i98; unfold In at a4)); (first | have a5 := in_u j62_3 | (have a5 := j62_3; unfold In at a5)); (first | have a6 := in_u j62_2 | (have a6 := j62_2; unfold In at a6)); (first | have a7 := in_u i76 | (have a7 := i76; unfold In at a7)); have a8 := t_add e76 ro_109_19 i67 rfl; (first | have a9 := in_u i251 | (have a9 := i251; unfold In at a9)); have a10 := t_add e251 i67 (in_c 1 rfl) rfl; (first | have a11 := in_u ((in_c 1 rfl)) | (have a11 := (in_c 1 rfl); unfold In at a11)); (first | have a12 := in_u i162 | (have a12 := i162; unfold In at a12)); have a13 := t_add e162 j62_3 (in_c 1 rfl) rfl; have a14 := tx_i2l e130; (first | have a15 := in_u i129 | (have a15 := i129; unfold In at a15)); omega, by (first | have a0 := in_u h1 | (have a0 := h1; unfold In at a0)); (first | have a1 := in_u ro_109_20 | (have a1 := ro_109_20; unfold In at a1)); (first | have a2 := in_u ro_109_19 | (have a2 := ro_109_19; unfold In at a2)); (first | have a3 := in_u i67 | (have a3 := i67; unfold In at a3)); (first | have a4 := in_u i98 | (have a4 := i98; unfold In at a4)); (first | have a5 := in_u j62_3 | (have a5 := j62_3; unfold In at a5)); (first | have a6 := in_u j62_2 | (have a6 := j62_2; unfold In at a6)); (first | have a7 := in_u i76 | (have a7 := i76; unfold In at a7)); have a8 := t_add e76 ro_109_19 i67 rfl; (first | have a9 := in_u i251 | (have a9 := i251; unfold In at a9)); have a10 := t_add e251 i67 (in_c 1 rfl) rfl; (first | have a11 := in_u ((in_c 1 rfl)) | (have a11 := (in_c 1 rfl); unfold In at a11)); (first | have a12 := in_u i162 | (have a12 := i162; unfold In at a12)); have a13 := t_add e162 j62_3 (in_c 1 rfl) rfl; have a14 := tx_i2l e130; (first | have a15 := in_u i129 | (have a15 := i129; unfold In at a15)); omega⟩) | (have hq := si_le nsi; exact ⟨by (first | have a0 := in_u h1 | (have a0 := h1; unfold In at a0)); (first | have a1 := in_u ro_109_20 | (have a1 := ro_109_20; unfold In at a1)); (first | have a2 := in_u ro_109_19 | (have a2 := ro_109_19; unfold In at a2)); (first | have a3 := in_u i67 | (have a3 := i67; unfold In at a3)); (first | have a4 := in_u i98 | (have a4 := i98; unfold In at a4)); (first | have a5 := in_u j62_3 | (have a5 := j62_3; unfold In at a5)); (first | have a6 := in_u j62_2 | (have a6 := j62_2; unfold In at a6)); (first | have a7 := in_u i76 | (have a7 := i76; unfold In at a7)); have a8 := t_add e76 ro_109_19 i67 rfl; (first | have a9 := in_u i251 | (have a9 := i251; unfold In at a9)); have a10 := t_add e251 i67 (in_c 1 rfl) rfl; (first | have a11 := in_u ((in_c 1 rfl)) | (have a11 := (in_c 1 rfl); unfold In at a11)); (first | have a12 := in_u i162 | (have a12 := i162; unfold In at a12)); have a13 := t_add e162 j62_3 (in_c 1 rfl) rfl; have a14 := tx_i2l e130; (first | have a15 := in_u i129 | (have a15 := i129; unfold In at a15)); omega, by (first | have a0 := in_u h1 | (have a0 := h1; unfold In at a0)); (first | have a1 := in_u ro_109_20 | (have a1 := ro_109_20; unfold In at a1)); (first | have a2 := in_u ro_109_19 | (have a2 := ro_109_19; unfold In at a2)); (first | have a3 := in_u i67 | (have a3 := i67; unfold In at a3)); (first | have a4 := in_u i98 | (have a4 := i98; unfold In at a4)); (first | have a5 := in_u j62_3 | (have a5 := j62_3; unfold In at a5)); (first | have a6 := in_u j62_2 | (have a6 := j62_2; unfold In at a6)); (first | have a7 := in_u i76 | (have a7 := i76; unfold In at a7)); have a8 := t_add e76 ro_109_19 i67 rfl; (first | have a9 := in_u i251 | (have a9 := i251; unfold In at a9)); have a10 := t_add e251 i67 (in_c 1 rfl) rfl; (first | have a11 := in_u ((in_c 1 rfl)) | (have a11 := (in_c 1 rfl); unfold In at a11)); (first | have a12 := in_u i162 | (have a12 := i162; unfold In at a12)); have a13 := t_add e162 j62_3 (in_c 1 rfl) rfl; have a14 := tx_i2l e130; (first | have a15 := in_u i129 | (have a15 := i129; unfold In at a15)); omega⟩)
                    have n62 : (y62_2).toInt = y43_2.toInt + 1 := by first | exact n62_0 | ((first | have a0 := in_u h1 | (have a0 := h1; unfold In at a0)); (first | have a1 := in_u ro_109_20 | (have a1 := ro_109_20; unfold In at a1)); (first | have a2 := in_u ro_109_19 | (have a2 := ro_109_19; unfold In at a2)); (first | have a3 := in_u i67 | (have a3 := i67; unfold In at a3)); (first | have a4 := in_u i98 | (have a4 := i98; unfold In at a4)); (first | have a5 := in_u j62_3 | (have a5 := j62_3; unfold In at a5)); (first | have a6 := in_u j62_2 | (have a6 := j62_2; unfold In at a6)); (first | have a7 := in_u i76 | (have a7 := i76; unfold In at a7)); have a8 := t_add e76 ro_109_19 i67 rfl; (first | have a9 := in_u i251 | (have a9 := i251; unfold In at a9)); have a10 := t_add e251 i67 (in_c 1 rfl) rfl; (first | have a11 := in_u ((in_c 1 rfl)) | (have a11 := (in_c 1 rfl); unfold In at a11)); (first | have a12 := in_u i62 | (have a12 := i62; unfold In at a12)); have a13 := t_add e162 j62_3 (in_c 1 rfl) rfl; have a14 := tx_i2l e130; (first | have a15 := in_u i129 | (have a15 := i129; unfold In at a15)); omega)
                    have n62a : (y62_2).toInt ≤ (z162).toInt := by (first | have a0 := in_u h1 | (have a0 := h1; unfold In at a0)); (first | have a1 := in_u ro_109_20 | (have a1 := ro_109_20; unfold In at a1)); (first | have a2 := in_u ro_109_19 | (have a2 := ro_109_19; unfold In at a2)); (first | have a3 := in_u i67 | (have a3 := i67; unfold In at a3)); (first | have a4 := in_u i98 | (have a4 := i98; unfold In at a4)); (first | have a5 := in_u j62_3 | (have a5 := j62_3; unfold In at a5)); (first | have a6 := in_u j62_2 | (have a6 := j62_2; unfold In at a6)); (first | have a7 := in_u i76 | (have a7 := i76; unfold In at a7)); have a8 := t_add e76 ro_109_19 i67 rfl; (first | have a9 := in_u i251 | (have a9 := i251; unfold In at a9)); have a10 := t_add e251 i67 (in_c 1 rfl) rfl; (first | have a11 := in_u ((in_c 1 rfl)) | (have a11 := (in_c 1 rfl); unfold In at a11)); (first | have a12 := in_u i62 | (have a12 := i62; unfold In at a12)); have a13 := t_add e162 j62_3 (in_c 1 rfl) rfl; have a14 := tx_i2l e130; (first | have a15 := in_u i129 | (have a15 := i129; unfold In at a15)); omega
                    have n62b : SI (sI (sI sc62 148 z111.toNatClampNeg y62_5) 132 y62_3.toNatClampNeg z111) (x1).toInt (z162).toInt := by first | exact g43_0 | exact g62_0 | exact nsi
                    have n62c : 0 ≤ ((sI (sI sc62 148 z111.toNatClampNeg y62_5) 132 y62_3.toNatClampNeg z111).1 148 (y62_4).toNatClampNeg).toInt := by first | exact g62_1 | (have h := g43_0.2.2.1 y43_2.toNatClampNeg (by show ((y43_2.toInt.toNat : Nat) : Int) < _; (first | have a0 := in_u h1 | (have a0 := h1; unfold In at a0)); (first | have a1 := in_u ro_109_20 | (have a1 := ro_109_20; unfold In at a1)); (first | have a2 := in_u ro_109_19 | (have a2 := ro_109_19; unfold In at a2)); (first | have a3 := in_u i67 | (have a3 := i67; unfold In at a3)); (first | have a4 := in_u i98 | (have a4 := i98; unfold In at a4)); (first | have a5 := in_u j62_3 | (have a5 := j62_3; unfold In at a5)); (first | have a6 := in_u j62_2 | (have a6 := j62_2; unfold In at a6)); (first | have a7 := in_u i76 | (have a7 := i76; unfold In at a7)); have a8 := t_add e76 ro_109_19 i67 rfl; (first | have a9 := in_u i251 | (have a9 := i251; unfold In at a9)); have a10 := t_add e251 i67 (in_c 1 rfl) rfl; (first | have a11 := in_u ((in_c 1 rfl)) | (have a11 := (in_c 1 rfl); unfold In at a11)); (first | have a12 := in_u i62 | (have a12 := i62; unfold In at a12)); have a13 := t_add e162 j62_3 (in_c 1 rfl) rfl; have a14 := tx_i2l e130; (first | have a15 := in_u i129 | (have a15 := i129; unfold In at a15)); omega); rw [← e53] at h; exact h.2) | (rw [sI_p rfl, sI_q]; exact up_ge g62_1 (by (first | have a0 := in_u h1 | (have a0 := h1; unfold In at a0)); (first | have a1 := in_u ro_109_20 | (have a1 := ro_109_20; unfold In at a1)); (first | have a2 := in_u ro_109_19 | (have a2 := ro_109_19; unfold In at a2)); (first | have a3 := in_u i67 | (have a3 := i67; unfold In at a3)); (first | have a4 := in_u i98 | (have a4 := i98; unfold In at a4)); (first | have a5 := in_u j62_3 | (have a5 := j62_3; unfold In at a5)); (first | have a6 := in_u j62_2 | (have a6 := j62_2; unfold In at a6)); (first | have a7 := in_u i76 | (have a7 := i76; unfold In at a7)); have a8 := t_add e76 ro_109_19 i67 rfl; (first | have a9 := in_u i251 | (have a9 := i251; unfold In at a9)); have a10 := t_add e251 i67 (in_c 1 rfl) rfl; (first | have a11 := in_u ((in_c 1 rfl)) | (have a11 := (in_c 1 rfl); unfold In at a11)); (first | have a12 := in_u i62 | (have a12 := i62; unfold In at a12)); have a13 := t_add e162 j62_3 (in_c 1 rfl) rfl; have a14 := tx_i2l e130; (first | have a15 := in_u i129 | (have a15 := i129; unfold In at a15)); omega))
                    exact gg_w (by first | exact Nat.le_add_right _ _ | exact gw2 | exact gw3 | exact gwe rfl | exact gwf rfl | exact gwg rfl | exact gwh rfl | omega) (gg_f (gf_cons rfl (gf_cons rfl (gf_cons rfl (gf_cons rfl (gf_cons rfl (gf_cons rfl gf_nil)))))) (ih62 (sI (sI sc62 148 z111.toNatClampNeg y62_5) 132 y62_3.toNatClampNeg z111) y62_2 z162 y62_4 z251 hI161 (fr_sI rfl (fr_sI rfl hFc62)) (in_w 1 32 j62_2 rfl) i62 (in_w 0 1951 i98 rfl) (in_w 0 160 i251 rfl) n62 n62a n62b n62c (m_up mm62 (t_add e251 i67 (in_c 1 rfl) rfl) (in_w 1 1 (in_c 1 rfl) rfl))))
      refine g_iload_n 44 (gd rfl) rfl rfl ?_
      refine g_iload_n 45 (gd rfl) rfl rfl ?_
      refine g_cmp_ge 48 260 (gd rfl) rfl rfl (fun c45 => ?_) (fun c45 => ?_)
      · skip
        have n260 : SR sc43 (x1).toInt := by exact si_sr g43_0
        exact g_return (gd rfl) rfl (hP _ _ ⟨sc43, hIc43, hFc43, rfl, rfl, n260⟩)
      · skip
        have i45 := r_lt1 0 31 c45 j43_2 j43_3 rfl
        have i45a := r_lt2 1 32 c45 j43_2 j43_3 rfl
        refine g_aload_n 49 (gd rfl) rfl rfl ?_
        refine g_getA (q2 := 132) 52 (gd rfl) rfl rfl rfl rfl ?_
        refine g_iload_n 53 (gd rfl) rfl rfl ?_
        refine g_iaload 54 (gd rfl) rfl (n := 4000) rfl (in_ix i45 rfl) (fun z53 e53 => ?_)
        have i53 := inv_I hIc43 (n := 4000) (t := 0) 0 1951 rfl (in_ix i45 rfl) rfl e53
        refine g_istore 56 (gd rfl) rfl (Nat.le_of_ble_eq_true rfl) ?_
        refine g_iinc 59 (gd rfl) rfl rfl (Nat.le_of_ble_eq_true rfl) (fun z56 e56 => ?_)
        have i56 := in_add 1 32 e56 i45 (in_c 1 rfl) rfl rfl
        refine g_iconst 0 60 (gd rfl) rfl rfl ?_
        refine g_istore 62 (gd rfl) rfl (Nat.le_of_ble_eq_true rfl) ?_
        have n62 : (z56).toInt = y43_2.toInt + 1 := by (first | have a0 := in_u h1 | (have a0 := h1; unfold In at a0)); (first | have a1 := in_u ro_109_20 | (have a1 := ro_109_20; unfold In at a1)); (first | have a2 := in_u ro_109_19 | (have a2 := ro_109_19; unfold In at a2)); (first | have a3 := in_u i45a | (have a3 := i45a; unfold In at a3)); (first | have a4 := in_u i45 | (have a4 := i45; unfold In at a4)); (first | have a5 := in_u ((in_c 0 rfl)) | (have a5 := (in_c 0 rfl); unfold In at a5)); (first | have a6 := in_u i53 | (have a6 := i53; unfold In at a6)); (first | have a7 := in_u i56 | (have a7 := i56; unfold In at a7)); have a8 := t_add e56 i45 (in_c 1 rfl) rfl; (first | have a9 := in_u ((in_c 1 rfl)) | (have a9 := (in_c 1 rfl); unfold In at a9)); omega
        have n62a : (z56).toInt ≤ (y43_3).toInt := by (first | have a0 := in_u h1 | (have a0 := h1; unfold In at a0)); (first | have a1 := in_u ro_109_20 | (have a1 := ro_109_20; unfold In at a1)); (first | have a2 := in_u ro_109_19 | (have a2 := ro_109_19; unfold In at a2)); (first | have a3 := in_u i45a | (have a3 := i45a; unfold In at a3)); (first | have a4 := in_u i45 | (have a4 := i45; unfold In at a4)); (first | have a5 := in_u ((in_c 0 rfl)) | (have a5 := (in_c 0 rfl); unfold In at a5)); (first | have a6 := in_u i53 | (have a6 := i53; unfold In at a6)); (first | have a7 := in_u i56 | (have a7 := i56; unfold In at a7)); have a8 := t_add e56 i45 (in_c 1 rfl) rfl; (first | have a9 := in_u ((in_c 1 rfl)) | (have a9 := (in_c 1 rfl); unfold In at a9)); omega
        have n62b : SI sc43 (x1).toInt (y43_3).toInt := by first | exact g43_0 | exact g62_0 | exact nsi
        have n62c : 0 ≤ (sc43.1 148 (z53).toNatClampNeg).toInt := by first | exact g62_1 | (have h := g43_0.2.2.1 y43_2.toNatClampNeg (by show ((y43_2.toInt.toNat : Nat) : Int) < _; (first | have a0 := in_u h1 | (have a0 := h1; unfold In at a0)); (first | have a1 := in_u ro_109_20 | (have a1 := ro_109_20; unfold In at a1)); (first | have a2 := in_u ro_109_19 | (have a2 := ro_109_19; unfold In at a2)); (first | have a3 := in_u i45a | (have a3 := i45a; unfold In at a3)); (first | have a4 := in_u i45 | (have a4 := i45; unfold In at a4)); (first | have a5 := in_u ((in_c 0 rfl)) | (have a5 := (in_c 0 rfl); unfold In at a5)); (first | have a6 := in_u i53 | (have a6 := i53; unfold In at a6)); (first | have a7 := in_u i56 | (have a7 := i56; unfold In at a7)); have a8 := t_add e56 i45 (in_c 1 rfl) rfl; (first | have a9 := in_u ((in_c 1 rfl)) | (have a9 := (in_c 1 rfl); unfold In at a9)); omega); rw [← e53] at h; exact h.2) | (rw [sI_p rfl, sI_q]; exact up_ge g62_1 (by (first | have a0 := in_u h1 | (have a0 := h1; unfold In at a0)); (first | have a1 := in_u ro_109_20 | (have a1 := ro_109_20; unfold In at a1)); (first | have a2 := in_u ro_109_19 | (have a2 := ro_109_19; unfold In at a2)); (first | have a3 := in_u i45a | (have a3 := i45a; unfold In at a3)); (first | have a4 := in_u i45 | (have a4 := i45; unfold In at a4)); (first | have a5 := in_u ((in_c 0 rfl)) | (have a5 := (in_c 0 rfl); unfold In at a5)); (first | have a6 := in_u i53 | (have a6 := i53; unfold In at a6)); (first | have a7 := in_u i56 | (have a7 := i56; unfold In at a7)); have a8 := t_add e56 i45 (in_c 1 rfl) rfl; (first | have a9 := in_u ((in_c 1 rfl)) | (have a9 := (in_c 1 rfl); unfold In at a9)); omega))
        exact gg_w (by first | exact Nat.le_add_right _ _ | exact gw2 | exact gw3 | exact gwe rfl | exact gwf rfl | exact gwg rfl | exact gwh rfl | omega) (gg_f (gf_cons rfl (gf_cons rfl (gf_cons rfl (gf_cons rfl (gf_cons rfl (gf_cons rfl gf_nil)))))) (ct62 161 sc43 z56 y43_3 z53 (Int32.ofInt 0) hIc43 hFc43 (in_w 1 32 i56 rfl) (in_w 0 32 i45a rfl) (in_w 0 1951 i53 rfl) (in_w 0 160 (in_c 0 rfl) rfl) n62 n62a n62b n62c (m_in 161 (in_w 0 160 (in_c 0 rfl) rfl) rfl)))
  have ct2 : ∀ (k2 : Nat) (sc2 : GS) (y2_2 : Int32), Inv sc2 → Fr fm_348 s sc2 → (In y2_2 0 32) → (∀ k : Nat, (k : Int) < (y2_2).toInt → (sc2.1 148 k).toInt < 0) → 32 - (y2_2).toInt < (k2 : Int) → GG Z (d - 1) 348 post (gx xp) (4870835 + k2 * 900) 2 (fun j => xlook j [(0, .ref (A 109)), (1, .int x1), (2, .int y2_2)]) [] (WW Z A sc2 ++ ex) 0 0 := by
    intro k2
    induction k2 with
    | zero => intro sc2 y2_2 hIc2 hFc2 j2_2 g2_0 mm2; exact m_no mm2 j2_2 rfl
    | succ k2 ih2 =>
      intro sc2 y2_2 hIc2 hFc2 j2_2 g2_0 mm2
      refine gg_w (M := 4870835 + k2 * 900 + 900) gws ?_
      refine g_iload_n 3 (gd rfl) rfl rfl ?_
      refine g_aload_n 4 (gd rfl) rfl rfl ?_
      refine g_getI 7 (gd rfl) rfl rfl rfl (fun z4 e4 => ?_)
      have q4 : u_109_20 = z4 := (fr_F e_109_20 hFc2 rfl).trans e4.symm
      subst q4
      refine g_cmp_ge 10 23 (gd rfl) rfl rfl (fun c7 => ?_) (fun c7 => ?_)
      · skip
        refine g_aload_n 24 (gd rfl) rfl rfl ?_
        refine g_getA (q2 := 148) 27 (gd rfl) rfl rfl rfl rfl ?_
        refine g_iload_n 28 (gd rfl) rfl rfl ?_
        refine g_sipush 1000 31 (gd rfl) rfl rfl ?_
        refine g_iastore 32 (gd rfl) rfl (n := 34) rfl (in_ix h1 rfl) ?_
        have hI31 := inv_sI (q := 148) (j := x1.toNatClampNeg) hIc2 rfl (in_w (-1) 1000 (in_c 1000 rfl) rfl)
        refine g_iconst 0 33 (gd rfl) rfl rfl ?_
        refine g_istore_n 34 (gd rfl) rfl (Nat.le_of_ble_eq_true rfl) ?_
        refine g_iconst 1 35 (gd rfl) rfl rfl ?_
        refine g_istore_n 36 (gd rfl) rfl (Nat.le_of_ble_eq_true rfl) ?_
        refine g_aload_n 37 (gd rfl) rfl rfl ?_
        refine g_getA (q2 := 132) 40 (gd rfl) rfl rfl rfl rfl ?_
        refine g_iconst 0 41 (gd rfl) rfl rfl ?_
        refine g_iload_n 42 (gd rfl) rfl rfl ?_
        refine g_iastore 43 (gd rfl) rfl (n := 4000) rfl (in_ix (in_c 0 rfl) rfl) ?_
        have hI42 := inv_sI (q := 132) (j := (Int32.ofInt 0).toNatClampNeg) hI31 rfl (in_w 0 1951 h1 rfl)
        have n43 : ((Int32.ofInt 0)).toInt ≤ ((Int32.ofInt 1)).toInt := by (first | have a0 := in_u h1 | (have a0 := h1; unfold In at a0)); (first | have a1 := in_u ro_109_20 | (have a1 := ro_109_20; unfold In at a1)); (first | have a2 := in_u ro_109_19 | (have a2 := ro_109_19; unfold In at a2)); (first | have a3 := in_u j2_2 | (have a3 := j2_2; unfold In at a3)); (first | have a4 := in_u ((in_c 1 rfl)) | (have a4 := (in_c 1 rfl); unfold In at a4)); (first | have a5 := in_u ((in_c 0 rfl)) | (have a5 := (in_c 0 rfl); unfold In at a5)); omega
        have n43a : SI (sI (sI sc2 148 x1.toNatClampNeg (Int32.ofInt 1000)) 132 (Int32.ofInt 0).toNatClampNeg x1) (x1).toInt ((Int32.ofInt 1)).toInt := by first | exact g62_0 | exact si_0 (s := sc2) h1 (by rw [sI_p rfl, sI_q]) (by decide) (by rw [sI_q]; rfl) rfl (fun k hk => g2_0 k (by rw [← e4] at hk; (first | have a0 := in_u h1 | (have a0 := h1; unfold In at a0)); (first | have a1 := in_u ro_109_20 | (have a1 := ro_109_20; unfold In at a1)); (first | have a2 := in_u ro_109_19 | (have a2 := ro_109_19; unfold In at a2)); (first | have a3 := in_u j2_2 | (have a3 := j2_2; unfold In at a3)); (first | have a4 := in_u ((in_c 1 rfl)) | (have a4 := (in_c 1 rfl); unfold In at a4)); (first | have a5 := in_u ((in_c 0 rfl)) | (have a5 := (in_c 0 rfl); unfold In at a5)); omega))
        have m43 : 32 - ((Int32.ofInt 0)).toInt < ((33 : Nat) : Int) := by (first | have a0 := in_u h1 | (have a0 := h1; unfold In at a0)); (first | have a1 := in_u ro_109_20 | (have a1 := ro_109_20; unfold In at a1)); (first | have a2 := in_u ro_109_19 | (have a2 := ro_109_19; unfold In at a2)); (first | have a3 := in_u j2_2 | (have a3 := j2_2; unfold In at a3)); (first | have a4 := in_u ((in_c 1 rfl)) | (have a4 := (in_c 1 rfl); unfold In at a4)); (first | have a5 := in_u ((in_c 0 rfl)) | (have a5 := (in_c 0 rfl); unfold In at a5)); omega
        exact gg_w (by first | exact Nat.le_add_right _ _ | exact gw2 | exact gw3 | exact gwe rfl | exact gwf rfl | exact gwg rfl | exact gwh rfl | omega) (gg_f (gf_cons rfl (gf_cons rfl (gf_cons rfl (gf_cons rfl gf_nil)))) (ct43 33 (sI (sI sc2 148 x1.toNatClampNeg (Int32.ofInt 1000)) 132 (Int32.ofInt 0).toNatClampNeg x1) (Int32.ofInt 0) (Int32.ofInt 1) hI42 (fr_sI rfl (fr_sI rfl hFc2)) (in_w 0 32 (in_c 0 rfl) rfl) (in_w 0 32 (in_c 1 rfl) rfl) n43 n43a m43))
      · skip
        have i7 := r_lt1 0 31 c7 j2_2 ro_109_20 rfl
        have i7a := r_lt2 1 32 c7 j2_2 ro_109_20 rfl
        refine g_aload_n 11 (gd rfl) rfl rfl ?_
        refine g_getA (q2 := 148) 14 (gd rfl) rfl rfl rfl rfl ?_
        refine g_iload_n 15 (gd rfl) rfl rfl ?_
        refine g_iconst (-1) 16 (gd rfl) rfl rfl ?_
        refine g_iastore 17 (gd rfl) rfl (n := 34) rfl (in_ix i7 rfl) ?_
        have hI16 := inv_sI (q := 148) (j := y2_2.toNatClampNeg) hIc2 rfl (in_w (-1) 1000 (in_c (-1) rfl) rfl)
        refine g_iinc 20 (gd rfl) rfl rfl (Nat.le_of_ble_eq_true rfl) (fun z17 e17 => ?_)
        have i17 := in_add 1 32 e17 i7 (in_c 1 rfl) rfl rfl
        refine g_goto 2 (gd rfl) rfl ?_
        have n2 : ∀ k : Nat, (k : Int) < (z17).toInt → ((sI sc2 148 y2_2.toNatClampNeg (Int32.ofInt (-1))).1 148 k).toInt < 0 := by first | (intro k hk; exfalso; have h0 : (Int32.ofInt 0).toInt = 0 := rfl; omega) | (intro k hk; rw [sI_q]; unfold upd; have e3 : y2_2.toNatClampNeg = y2_2.toInt.toNat := rfl; by_cases c : k = y2_2.toNatClampNeg; (rw [if_pos c]; decide); (rw [if_neg c]; exact g2_0 k (by (first | have a0 := in_u h1 | (have a0 := h1; unfold In at a0)); (first | have a1 := in_u i7a | (have a1 := i7a; unfold In at a1)); (first | have a2 := in_u ro_109_19 | (have a2 := ro_109_19; unfold In at a2)); (first | have a3 := in_u i7 | (have a3 := i7; unfold In at a3)); (first | have a4 := in_u i17 | (have a4 := i17; unfold In at a4)); have a5 := t_add e17 i7 (in_c 1 rfl) rfl; (first | have a6 := in_u ((in_c 1 rfl)) | (have a6 := (in_c 1 rfl); unfold In at a6)); omega)))
        exact gg_w (by first | exact Nat.le_add_right _ _ | exact gw2 | exact gw3 | exact gwe rfl | exact gwf rfl | exact gwg rfl | exact gwh rfl | omega) (gg_f (gf_cons rfl (gf_cons rfl (gf_cons rfl gf_nil))) (ih2 (sI sc2 148 y2_2.toNatClampNeg (Int32.ofInt (-1))) z17 hI16 (fr_sI rfl hFc2) (in_w 0 32 i17 rfl) n2 (m_up mm2 (t_add e17 i7 (in_c 1 rfl) rfl) (in_w 1 1 (in_c 1 rfl) rfl))))
  refine g_enter2 (k := 348) (N := 4901435) (by first | exact dq1 hd rfl | exact dq0 hd rfl | exact dq2 hd rfl | exact dq3 hd rfl | omega) rfl (Nat.le_of_ble_eq_true rfl) ?_
  refine g_iconst 0 1 (gd rfl) rfl rfl ?_
  refine g_istore_n 2 (gd rfl) rfl (Nat.le_of_ble_eq_true rfl) ?_
  have n2 : ∀ k : Nat, (k : Int) < ((Int32.ofInt 0)).toInt → (s.1 148 k).toInt < 0 := by first | (intro k hk; exfalso; have h0 : (Int32.ofInt 0).toInt = 0 := rfl; omega) | (intro k hk; rw [sI_q]; unfold upd; have e3 : y2_2.toNatClampNeg = y2_2.toInt.toNat := rfl; by_cases c : k = y2_2.toNatClampNeg; (rw [if_pos c]; decide); (rw [if_neg c]; exact g2_0 k (by (first | have a0 := in_u ro_109_20 | (have a0 := ro_109_20; unfold In at a0)); (first | have a1 := in_u ro_109_19 | (have a1 := ro_109_19; unfold In at a1)); (first | have a2 := in_u h1 | (have a2 := h1; unfold In at a2)); (first | have a3 := in_u ((in_c 0 rfl)) | (have a3 := (in_c 0 rfl); unfold In at a3)); omega)))
  exact gg_w (by first | exact Nat.le_of_ble_eq_true rfl | omega) (gg_f (gf_cons rfl (gf_cons rfl (gf_cons rfl gf_nil))) (ct2 33 s (Int32.ofInt 0) hI fr_rf (in_w 0 32 (in_c 0 rfl) rfl) n2 (m_in 33 (in_w 0 32 (in_c 0 rfl) rfl) rfl)))
end
section
/-! methods, by vc.py -/
def fm_356 : FM := ([148], [149], [], [])
/-- GraphHouseModel.cheapest -/
theorem k_356 {Z : AmZ} {A : Nat → Nat} {s : GS} {ex : va_W} {d : Nat} {X : AmX} {x1 : Int32} (hd : 1 ≤ d) (hI : Inv s) (h1 : In x1 0 31) (q_0 : CP s) (q_1 : (x1).toInt < (s.2.2.1 109 20).toInt) : GC Z d 356 [.ref (A 109), .int x1] (WW Z A s ++ ex) 0 0 (fun v u => ∃ t : GS, Inv t ∧ Fr fm_356 s t ∧ v = none ∧ u = WW Z A t ++ ex ∧ (CHE t (x1).toInt)) X := by
  intro post xp hP hX
  obtain ⟨u_109_19, e_109_19⟩ : ∃ w, w = s.2.2.1 109 19 := ⟨_, rfl⟩
  have ro_109_19 := inv_F hI 0 160 rfl e_109_19
  obtain ⟨u_109_20, e_109_20⟩ : ∃ w, w = s.2.2.1 109 20 := ⟨_, rfl⟩
  have ro_109_20 := inv_F hI 0 32 rfl e_109_20
  have ct50 : ∀ (k50 : Nat) (sc50 : GS) (y50_2 : Int32), Inv sc50 → Fr fm_356 s sc50 → (In y50_2 0 1) → (CI s (x1).toInt sc50) → ((y50_2).toInt = 0 → CLQ s sc50 160) → 2 * mq s (x1).toInt sc50 + (y50_2).toInt.toNat < k50 → GG Z (d - 1) 356 post (gx xp) (1 + k50 * 439525) 50 (fun j => xlook j [(0, .ref (A 109)), (1, .int x1), (2, .int y50_2)]) [] (WW Z A sc50 ++ ex) 0 0 := by
    intro k50
    induction k50 with
    | zero => intro sc50 y50_2 hIc50 hFc50 j50_2 g50_0 g50_1 mm50; exact absurd mm50 (Nat.not_lt_zero _)
    | succ k50 ih50 =>
      intro sc50 y50_2 hIc50 hFc50 j50_2 g50_0 g50_1 mm50
      refine gg_w (M := 1 + k50 * 439525 + 439525) gws ?_
      have ct58 : ∀ (k58 : Nat) (sc58 : GS) (y58_2 : Int32) (y58_3 : Int32), Inv sc58 → Fr fm_356 s sc58 → (In y58_2 0 1) → (In y58_3 0 160) → (WK s (x1).toInt (mq s (x1).toInt sc50) sc58 (y58_2).toInt (y58_3).toNatClampNeg) → (y50_2.toInt = 1) → 160 - (y58_3).toInt < (k58 : Int) → GG Z (d - 1) 356 post (gx xp) (1 + k50 * 439525 + 1 + k58 * 2702) 58 (fun j => xlook j [(0, .ref (A 109)), (1, .int x1), (2, .int y58_2), (3, .int y58_3)]) [] (WW Z A sc58 ++ ex) 0 0 := by
        intro k58
        induction k58 with
        | zero => intro sc58 y58_2 y58_3 hIc58 hFc58 j58_2 j58_3 g58_0 g58_1 mm58; exact m_no mm58 j58_3 rfl
        | succ k58 ih58 =>
          intro sc58 y58_2 y58_3 hIc58 hFc58 j58_2 j58_3 g58_0 g58_1 mm58
          refine gg_w (M := 1 + k50 * 439525 + 1 + k58 * 2702 + 2702) gws ?_
          have ct324 : ∀ (sc324 : GS) (y324_2 : Int32) (y324_4 : Int32), Inv sc324 → Fr fm_356 s sc324 → (In y324_2 0 1) → (In y58_3 0 159) → (In y324_4 0 400) → (WK s (x1).toInt (mq s (x1).toInt sc50) sc324 (y324_2).toInt ((y58_3).toNatClampNeg + 1)) → GG Z (d - 1) 356 post (gx xp) (1 + k50 * 439525 + 1 + k58 * 2702 + 901) 324 (fun j => xlook j [(0, .ref (A 109)), (1, .int x1), (2, .int y324_2), (3, .int y58_3), (4, .int y324_4)]) [] (WW Z A sc324 ++ ex) 0 0 := by
            intro sc324 y324_2 y324_4 hIc324 hFc324 j324_2 j324_3 j324_4 g324_0
            refine g_iinc 327 (gd rfl) rfl rfl (Nat.le_of_ble_eq_true rfl) (fun z324 e324 => ?_)
            have i324 := in_add 1 160 e324 j324_3 (in_c 1 rfl) rfl rfl
            refine g_goto 58 (gd rfl) rfl ?_
            have n58 : WK s (x1).toInt (mq s (x1).toInt sc50) sc324 (y324_2).toInt (z324).toNatClampNeg := by first | exact wk_0 g50_0 | (rw [show (z324).toNatClampNeg = y58_3.toNatClampNeg + 1 from (by show z324.toInt.toNat = y58_3.toInt.toNat + 1; (first | have a0 := in_u j324_3 | (have a0 := j324_3; unfold In at a0)); (first | have a1 := in_u h1 | (have a1 := h1; unfold In at a1)); (first | have a2 := in_u ro_109_20 | (have a2 := ro_109_20; unfold In at a2)); (first | have a3 := in_u ro_109_19 | (have a3 := ro_109_19; unfold In at a3)); (first | have a4 := in_u j324_4 | (have a4 := j324_4; unfold In at a4)); (first | have a5 := in_u j324_2 | (have a5 := j324_2; unfold In at a5)); (first | have a6 := in_u i324 | (have a6 := i324; unfold In at a6)); have a7 := t_add e324 j324_3 (in_c 1 rfl) rfl; (first | have a8 := in_u ((in_c 1 rfl)) | (have a8 := (in_c 1 rfl); unfold In at a8)); (first | exact zt_s (by omega) (by omega) | omega))]; exact g324_0)
            have n58a : y50_2.toInt = 1 := by first | exact g58_1 | (first | exact g58_1 | (have hj := j50_2; unfold In at hj; have hc := c51; omega))
            exact gg_w (by first | exact Nat.le_add_right _ _ | exact gw2 | exact gw3 | exact gwe rfl | exact gwf rfl | exact gwg rfl | exact gwh rfl | omega) (gg_f (gf_cons rfl (gf_cons rfl (gf_cons rfl (gf_cons rfl gf_nil)))) (ih58 sc324 y324_2 z324 hIc324 hFc324 (in_w 0 1 j324_2 rfl) (in_w 0 160 i324 rfl) n58 n58a (m_up mm58 (t_add e324 j324_3 (in_c 1 rfl) rfl) (in_w 1 1 (in_c 1 rfl) rfl))))
          have ct205 : ∀ (sc205 : GS) (y205_2 : Int32) (y205_4 : Int32), Inv sc205 → Fr fm_356 s sc205 → (In y205_2 0 1) → (In y58_3 0 159) → (In y205_4 0 400) → ((y205_4).toInt = (u_109_19).toInt + (y58_3).toInt) → (WK s (x1).toInt (mq s (x1).toInt sc50) sc205 (y205_2).toInt (y58_3).toNatClampNeg) → ((s.1 112 (y205_4).toNatClampNeg).toInt ≠ 0) → ((y205_2).toInt = 0 → FWQ s sc205 (y58_3).toNatClampNeg) → GG Z (d - 1) 356 post (gx xp) (1 + k50 * 439525 + 1 + k58 * 2702 + 1802) 205 (fun j => xlook j [(0, .ref (A 109)), (1, .int x1), (2, .int y205_2), (3, .int y58_3), (4, .int y205_4)]) [] (WW Z A sc205 ++ ex) 0 0 := by
            intro sc205 y205_2 y205_4 hIc205 hFc205 j205_2 j205_3 j205_4 n205_0 g205_0 g205_1 g205_2
            refine g_aload_n 206 (gd rfl) rfl rfl ?_
            refine g_getA (q2 := 147) 209 (gd rfl) rfl rfl rfl rfl ?_
            refine g_iload_n 210 (gd rfl) rfl rfl ?_
            refine g_laload 211 (gd rfl) rfl (n := 160) rfl (in_ix j205_3 rfl) (fun z210 e210 => ?_)
            refine g_lconst 0 212 (gd rfl) rfl rfl ?_
            refine g_lcmp 213 (gd rfl) rfl (fun z212 e212 => ?_)
            have i212 := lc_in e212
            refine g_if_le 216 324 (gd rfl) rfl rfl (fun c213 => ?_) (fun c213 => ?_)
            · skip
              have i213 := z_le (-1) 0 c213 i212 rfl
              have c213a := lc_le e212 c213
              have i213a := lr_le1 (-9223372036854775808) 0 c213a (l_rng z210) (l_c 0 rfl) rfl
              have n324 : WK s (x1).toInt (mq s (x1).toInt sc50) sc205 (y205_2).toInt ((y58_3).toNatClampNeg + 1) := by exact wk_bw g205_0 g205_2 (fun h0 _ => by exfalso; rw [← hFc205.2.1 147 rfl, ← e210] at h0; have hc := i213a.2; omega)
              exact gg_w (by first | exact Nat.le_add_right _ _ | exact gw2 | exact gw3 | exact gwe rfl | exact gwf rfl | exact gwg rfl | exact gwh rfl | omega) (gg_f (gf_cons rfl (gf_cons rfl (gf_cons rfl (gf_cons rfl (gf_cons rfl gf_nil))))) (ct324 sc205 y205_2 y205_4 hIc205 hFc205 (in_w 0 1 j205_2 rfl) (in_w 0 159 j205_3 rfl) (in_w 0 400 j205_4 rfl) n324))
            · skip
              have i213 := z_gt 1 1 c213 i212 rfl
              have c213a := lc_gt e212 c213
              have i213a := lr_lt2 1 9223372036854775807 c213a (l_c 0 rfl) (l_rng z210) rfl
              refine g_aload_n 217 (gd rfl) rfl rfl ?_
              refine g_getA (q2 := 149) 220 (gd rfl) rfl rfl rfl rfl ?_
              refine g_aload_n 221 (gd rfl) rfl rfl ?_
              refine g_getA (q2 := 114) 224 (gd rfl) rfl rfl rfl rfl ?_
              refine g_iload 226 (gd rfl) rfl rfl ?_
              refine g_iaload 227 (gd rfl) rfl (n := 480) rfl (in_ix j205_4 rfl) (fun z226 e226 => ?_)
              have i226 := inv_I hIc205 (n := 480) (t := 0) 0 31 rfl (in_ix j205_4 rfl) rfl e226
              refine g_laload 228 (gd rfl) rfl (n := 34) rfl (in_ix i226 rfl) (fun z227 e227 => ?_)
              refine g_ldc2_w 9000000000000000 231 (gd rfl) rfl rfl ?_
              refine g_lcmp 232 (gd rfl) rfl (fun z231 e231 => ?_)
              have i231 := lc_in e231
              refine g_if_ge 235 324 (gd rfl) rfl rfl (fun c232 => ?_) (fun c232 => ?_)
              · skip
                have i232 := z_ge 0 1 c232 i231 rfl
                have c232a := lc_ge e231 c232
                have i232a := lr_le2 9000000000000000 9223372036854775807 c232a (l_c 9000000000000000 rfl) (l_rng z227) rfl
                have n324 : WK s (x1).toInt (mq s (x1).toInt sc50) sc205 (y205_2).toInt ((y58_3).toNatClampNeg + 1) := by exact wk_bw g205_0 g205_2 (fun _ h9 => by exfalso; rw [← hFc205.1 114 rfl, (bs_x (x := y205_4) (a := y58_3) e_109_19 (by (first | have a0 := in_u j205_3 | (have a0 := j205_3; unfold In at a0)); (first | have a1 := in_u h1 | (have a1 := h1; unfold In at a1)); (first | have a2 := in_u ro_109_20 | (have a2 := ro_109_20; unfold In at a2)); (first | have a3 := in_u ro_109_19 | (have a3 := ro_109_19; unfold In at a3)); (first | have a4 := in_u j205_4 | (have a4 := j205_4; unfold In at a4)); (first | have a5 := in_u j205_2 | (have a5 := j205_2; unfold In at a5)); omega) (by (first | have a0 := in_u j205_3 | (have a0 := j205_3; unfold In at a0)); (first | have a1 := in_u h1 | (have a1 := h1; unfold In at a1)); (first | have a2 := in_u ro_109_20 | (have a2 := ro_109_20; unfold In at a2)); (first | have a3 := in_u ro_109_19 | (have a3 := ro_109_19; unfold In at a3)); (first | have a4 := in_u j205_4 | (have a4 := j205_4; unfold In at a4)); (first | have a5 := in_u j205_2 | (have a5 := j205_2; unfold In at a5)); omega) (by (first | have a0 := in_u j205_3 | (have a0 := j205_3; unfold In at a0)); (first | have a1 := in_u h1 | (have a1 := h1; unfold In at a1)); (first | have a2 := in_u ro_109_20 | (have a2 := ro_109_20; unfold In at a2)); (first | have a3 := in_u ro_109_19 | (have a3 := ro_109_19; unfold In at a3)); (first | have a4 := in_u j205_4 | (have a4 := j205_4; unfold In at a4)); (first | have a5 := in_u j205_2 | (have a5 := j205_2; unfold In at a5)); omega)), ← e226, ← e227] at h9; have hc := i232a.1; omega)
                exact gg_w (by first | exact Nat.le_add_right _ _ | exact gw2 | exact gw3 | exact gwe rfl | exact gwf rfl | exact gwg rfl | exact gwh rfl | omega) (gg_f (gf_cons rfl (gf_cons rfl (gf_cons rfl (gf_cons rfl (gf_cons rfl gf_nil))))) (ct324 sc205 y205_2 y205_4 hIc205 hFc205 (in_w 0 1 j205_2 rfl) (in_w 0 159 j205_3 rfl) (in_w 0 400 j205_4 rfl) n324))
              · skip
                have i232 := z_lt (-1) (-1) c232 i231 rfl
                have c232a := lc_lt e231 c232
                have i232a := lr_lt1 (-9223372036854775808) 8999999999999999 c232a (l_rng z227) (l_c 9000000000000000 rfl) rfl
                refine g_aload_n 236 (gd rfl) rfl rfl ?_
                refine g_getA (q2 := 149) 239 (gd rfl) rfl rfl rfl rfl ?_
                refine g_aload_n 240 (gd rfl) rfl rfl ?_
                refine g_getA (q2 := 114) 243 (gd rfl) rfl rfl rfl rfl ?_
                refine g_iload 245 (gd rfl) rfl rfl ?_
                refine g_iaload 246 (gd rfl) rfl (n := 480) rfl (in_ix j205_4 rfl) (fun z245 e245 => ?_)
                have q245 : z226 = z245 := (e226).trans e245.symm
                subst q245
                refine g_laload 247 (gd rfl) rfl (n := 34) rfl (in_ix i226 rfl) (fun z246 e246 => ?_)
                refine g_aload_n 248 (gd rfl) rfl rfl ?_
                refine g_getA (q2 := 115) 251 (gd rfl) rfl rfl rfl rfl ?_
                refine g_iload 253 (gd rfl) rfl rfl ?_
                refine g_iaload 254 (gd rfl) rfl (n := 480) rfl (in_ix j205_4 rfl) (fun z253 e253 => ?_)
                have i253 := inv_I hIc205 (n := 480) (t := 0) (-1000000) 1000000 rfl (in_ix j205_4 rfl) rfl e253
                refine g_i2l 255 (gd rfl) rfl (fun z254 e254 => ?_)
                have i254 := l_i e254 i253
                refine g_lsub 256 (gd rfl) rfl (fun z255 e255 => ?_)
                refine g_aload_n 257 (gd rfl) rfl rfl ?_
                refine g_getA (q2 := 149) 260 (gd rfl) rfl rfl rfl rfl ?_
                refine g_aload_n 261 (gd rfl) rfl rfl ?_
                refine g_getA (q2 := 113) 264 (gd rfl) rfl rfl rfl rfl ?_
                refine g_iload 266 (gd rfl) rfl rfl ?_
                refine g_iaload 267 (gd rfl) rfl (n := 480) rfl (in_ix j205_4 rfl) (fun z266 e266 => ?_)
                have i266 := inv_I hIc205 (n := 480) (t := 0) 0 31 rfl (in_ix j205_4 rfl) rfl e266
                refine g_laload 268 (gd rfl) rfl (n := 34) rfl (in_ix i266 rfl) (fun z267 e267 => ?_)
                refine g_lcmp 269 (gd rfl) rfl (fun z268 e268 => ?_)
                have i268 := lc_in e268
                refine g_if_ge 272 324 (gd rfl) rfl rfl (fun c269 => ?_) (fun c269 => ?_)
                · skip
                  have i269 := z_ge 0 1 c269 i268 rfl
                  have c269a := lc_ge e268 c269
                  have n324 : WK s (x1).toInt (mq s (x1).toInt sc50) sc205 (y205_2).toInt ((y58_3).toNatClampNeg + 1) := by exact wk_bw g205_0 g205_2 (bwq_i hI q_0 (by (first | have a0 := in_u j205_3 | (have a0 := j205_3; unfold In at a0)); (first | have a1 := in_u h1 | (have a1 := h1; unfold In at a1)); (first | have a2 := in_u ro_109_20 | (have a2 := ro_109_20; unfold In at a2)); (first | have a3 := in_u ro_109_19 | (have a3 := ro_109_19; unfold In at a3)); (first | have a4 := in_u j205_4 | (have a4 := j205_4; unfold In at a4)); (first | have a5 := in_u j205_2 | (have a5 := j205_2; unfold In at a5)); have a6 := tx_i2l e254; (first | have a7 := in_u i253 | (have a7 := i253; unfold In at a7)); omega) ⟨hFc205.1 112 rfl, hFc205.1 113 rfl, hFc205.1 114 rfl, hFc205.1 115 rfl, hFc205.1 116 rfl, hFc205.2.1 147 rfl, hFc205.2.2.1 109 19 rfl, hFc205.2.2.1 109 20 rfl⟩ g205_0.1 j205_3 (bs_x e_109_19 (by (first | have a0 := in_u j205_3 | (have a0 := j205_3; unfold In at a0)); (first | have a1 := in_u h1 | (have a1 := h1; unfold In at a1)); (first | have a2 := in_u ro_109_20 | (have a2 := ro_109_20; unfold In at a2)); (first | have a3 := in_u ro_109_19 | (have a3 := ro_109_19; unfold In at a3)); (first | have a4 := in_u j205_4 | (have a4 := j205_4; unfold In at a4)); (first | have a5 := in_u j205_2 | (have a5 := j205_2; unfold In at a5)); have a6 := tx_i2l e254; (first | have a7 := in_u i253 | (have a7 := i253; unfold In at a7)); omega) (by (first | have a0 := in_u j205_3 | (have a0 := j205_3; unfold In at a0)); (first | have a1 := in_u h1 | (have a1 := h1; unfold In at a1)); (first | have a2 := in_u ro_109_20 | (have a2 := ro_109_20; unfold In at a2)); (first | have a3 := in_u ro_109_19 | (have a3 := ro_109_19; unfold In at a3)); (first | have a4 := in_u j205_4 | (have a4 := j205_4; unfold In at a4)); (first | have a5 := in_u j205_2 | (have a5 := j205_2; unfold In at a5)); have a6 := tx_i2l e254; (first | have a7 := in_u i253 | (have a7 := i253; unfold In at a7)); omega) (by (first | have a0 := in_u j205_3 | (have a0 := j205_3; unfold In at a0)); (first | have a1 := in_u h1 | (have a1 := h1; unfold In at a1)); (first | have a2 := in_u ro_109_20 | (have a2 := ro_109_20; unfold In at a2)); (first | have a3 := in_u ro_109_19 | (have a3 := ro_109_19; unfold In at a3)); (first | have a4 := in_u j205_4 | (have a4 := j205_4; unfold In at a4)); (first | have a5 := in_u j205_2 | (have a5 := j205_2; unfold In at a5)); have a6 := tx_i2l e254; (first | have a7 := in_u i253 | (have a7 := i253; unfold In at a7)); omega)).symm g205_1 e226 e266 e253 e246 (by rw [e246, ← e227]; have h := i232a.2; omega) e255 (tx_i2l e254) e267 c269a)
                  exact gg_w (by first | exact Nat.le_add_right _ _ | exact gw2 | exact gw3 | exact gwe rfl | exact gwf rfl | exact gwg rfl | exact gwh rfl | omega) (gg_f (gf_cons rfl (gf_cons rfl (gf_cons rfl (gf_cons rfl (gf_cons rfl gf_nil))))) (ct324 sc205 y205_2 y205_4 hIc205 hFc205 (in_w 0 1 j205_2 rfl) (in_w 0 159 j205_3 rfl) (in_w 0 400 j205_4 rfl) n324))
                · skip
                  have i269 := z_lt (-1) (-1) c269 i268 rfl
                  have c269a := lc_lt e268 c269
                  have i269a := lr_lt1 (-9223372036854775808) 9223372036854775806 c269a (l_rng z255) (l_rng z267) rfl
                  have i269b := lr_lt2 (-9223372036854775807) 9223372036854775807 c269a (l_rng z255) (l_rng z267) rfl
                  refine g_aload_n 273 (gd rfl) rfl rfl ?_
                  refine g_getA (q2 := 149) 276 (gd rfl) rfl rfl rfl rfl ?_
                  refine g_aload_n 277 (gd rfl) rfl rfl ?_
                  refine g_getA (q2 := 113) 280 (gd rfl) rfl rfl rfl rfl ?_
                  refine g_iload 282 (gd rfl) rfl rfl ?_
                  refine g_iaload 283 (gd rfl) rfl (n := 480) rfl (in_ix j205_4 rfl) (fun z282 e282 => ?_)
                  have q282 : z266 = z282 := (e266).trans e282.symm
                  subst q282
                  refine g_aload_n 284 (gd rfl) rfl rfl ?_
                  refine g_getA (q2 := 149) 287 (gd rfl) rfl rfl rfl rfl ?_
                  refine g_aload_n 288 (gd rfl) rfl rfl ?_
                  refine g_getA (q2 := 114) 291 (gd rfl) rfl rfl rfl rfl ?_
                  refine g_iload 293 (gd rfl) rfl rfl ?_
                  refine g_iaload 294 (gd rfl) rfl (n := 480) rfl (in_ix j205_4 rfl) (fun z293 e293 => ?_)
                  have q293 : z226 = z293 := (e226).trans e293.symm
                  subst q293
                  refine g_laload 295 (gd rfl) rfl (n := 34) rfl (in_ix i226 rfl) (fun z294 e294 => ?_)
                  refine g_aload_n 296 (gd rfl) rfl rfl ?_
                  refine g_getA (q2 := 115) 299 (gd rfl) rfl rfl rfl rfl ?_
                  refine g_iload 301 (gd rfl) rfl rfl ?_
                  refine g_iaload 302 (gd rfl) rfl (n := 480) rfl (in_ix j205_4 rfl) (fun z301 e301 => ?_)
                  have q301 : z253 = z301 := (e253).trans e301.symm
                  subst q301
                  refine g_i2l 303 (gd rfl) rfl (fun z302 e302 => ?_)
                  have i302 := l_i e302 i253
                  refine g_lsub 304 (gd rfl) rfl (fun z303 e303 => ?_)
                  refine g_lastore 305 (gd rfl) rfl (n := 34) rfl (in_ix i266 rfl) ?_
                  have hI304 := inv_sL (q := 149) (j := z266.toNatClampNeg) (x := z303) hIc205 rfl (l_rng z303)
                  refine g_aload_n 306 (gd rfl) rfl rfl ?_
                  refine g_getA (q2 := 148) 309 (gd rfl) rfl rfl rfl rfl ?_
                  refine g_aload_n 310 (gd rfl) rfl rfl ?_
                  refine g_getA (q2 := 113) 313 (gd rfl) rfl rfl rfl rfl ?_
                  refine g_iload 315 (gd rfl) rfl rfl ?_
                  refine g_iaload 316 (gd rfl) rfl (n := 480) rfl (in_ix j205_4 rfl) (fun z315 e315 => ?_)
                  have q315 : z266 = z315 := (sL_I (e266)).trans e315.symm
                  subst q315
                  refine g_sipush 200 319 (gd rfl) rfl rfl ?_
                  refine g_iload_n 320 (gd rfl) rfl rfl ?_
                  refine g_iadd 321 (gd rfl) rfl (fun z320 e320 => ?_)
                  have i320 := in_add 200 359 e320 (in_c 200 rfl) j205_3 rfl rfl
                  refine g_iastore 322 (gd rfl) rfl (n := 34) rfl (in_ix i266 rfl) ?_
                  have hI321 := inv_sI (q := 148) (j := z266.toNatClampNeg) hI304 rfl (in_w (-1) 1000 i320 rfl)
                  refine g_iconst 1 323 (gd rfl) rfl rfl ?_
                  refine g_istore_n 324 (gd rfl) rfl (Nat.le_of_ble_eq_true rfl) ?_
                  have n324 : WK s (x1).toInt (mq s (x1).toInt sc50) (sI (sL sc205 149 z266.toNatClampNeg z303) 148 z266.toNatClampNeg z320) ((Int32.ofInt 1)).toInt ((y58_3).toNatClampNeg + 1) := by exact (wk_ch g205_0 (ci_bw hI q_0 (by (first | have a0 := in_u j205_3 | (have a0 := j205_3; unfold In at a0)); (first | have a1 := in_u h1 | (have a1 := h1; unfold In at a1)); (first | have a2 := in_u ro_109_20 | (have a2 := ro_109_20; unfold In at a2)); (first | have a3 := in_u ro_109_19 | (have a3 := ro_109_19; unfold In at a3)); (first | have a4 := in_u j205_4 | (have a4 := j205_4; unfold In at a4)); (first | have a5 := in_u j205_2 | (have a5 := j205_2; unfold In at a5)); (first | have a6 := in_u ((in_c 1 rfl)) | (have a6 := (in_c 1 rfl); unfold In at a6)); (first | have a7 := in_u i320 | (have a7 := i320; unfold In at a7)); have a8 := t_add e320 (in_c 200 rfl) j205_3 rfl; (first | have a9 := in_u ((in_c 200 rfl)) | (have a9 := (in_c 200 rfl); unfold In at a9)); have a10 := tx_i2l e302; (first | have a11 := in_u i253 | (have a11 := i253; unfold In at a11)); have a12 := tx_i2l e254; omega) (by (first | have a0 := in_u j205_3 | (have a0 := j205_3; unfold In at a0)); (first | have a1 := in_u h1 | (have a1 := h1; unfold In at a1)); (first | have a2 := in_u ro_109_20 | (have a2 := ro_109_20; unfold In at a2)); (first | have a3 := in_u ro_109_19 | (have a3 := ro_109_19; unfold In at a3)); (first | have a4 := in_u j205_4 | (have a4 := j205_4; unfold In at a4)); (first | have a5 := in_u j205_2 | (have a5 := j205_2; unfold In at a5)); (first | have a6 := in_u ((in_c 1 rfl)) | (have a6 := (in_c 1 rfl); unfold In at a6)); (first | have a7 := in_u i320 | (have a7 := i320; unfold In at a7)); have a8 := t_add e320 (in_c 200 rfl) j205_3 rfl; (first | have a9 := in_u ((in_c 200 rfl)) | (have a9 := (in_c 200 rfl); unfold In at a9)); have a10 := tx_i2l e302; (first | have a11 := in_u i253 | (have a11 := i253; unfold In at a11)); have a12 := tx_i2l e254; omega) ⟨hFc205.1 112 rfl, hFc205.1 113 rfl, hFc205.1 114 rfl, hFc205.1 115 rfl, hFc205.1 116 rfl, hFc205.2.1 147 rfl, hFc205.2.2.1 109 19 rfl, hFc205.2.2.1 109 20 rfl⟩ g205_0.1 j205_3 (by (first | have a0 := in_u j205_3 | (have a0 := j205_3; unfold In at a0)); (first | have a1 := in_u h1 | (have a1 := h1; unfold In at a1)); (first | have a2 := in_u ro_109_20 | (have a2 := ro_109_20; unfold In at a2)); (first | have a3 := in_u ro_109_19 | (have a3 := ro_109_19; unfold In at a3)); (first | have a4 := in_u j205_4 | (have a4 := j205_4; unfold In at a4)); (first | have a5 := in_u j205_2 | (have a5 := j205_2; unfold In at a5)); (first | have a6 := in_u ((in_c 1 rfl)) | (have a6 := (in_c 1 rfl); unfold In at a6)); (first | have a7 := in_u i320 | (have a7 := i320; unfold In at a7)); have a8 := t_add e320 (in_c 200 rfl) j205_3 rfl; (first | have a9 := in_u ((in_c 200 rfl)) | (have a9 := (in_c 200 rfl); unfold In at a9)); have a10 := tx_i2l e302; (first | have a11 := in_u i253 | (have a11 := i253; unfold In at a11)); have a12 := tx_i2l e254; omega) (bs_x e_109_19 (by (first | have a0 := in_u j205_3 | (have a0 := j205_3; unfold In at a0)); (first | have a1 := in_u h1 | (have a1 := h1; unfold In at a1)); (first | have a2 := in_u ro_109_20 | (have a2 := ro_109_20; unfold In at a2)); (first | have a3 := in_u ro_109_19 | (have a3 := ro_109_19; unfold In at a3)); (first | have a4 := in_u j205_4 | (have a4 := j205_4; unfold In at a4)); (first | have a5 := in_u j205_2 | (have a5 := j205_2; unfold In at a5)); (first | have a6 := in_u ((in_c 1 rfl)) | (have a6 := (in_c 1 rfl); unfold In at a6)); (first | have a7 := in_u i320 | (have a7 := i320; unfold In at a7)); have a8 := t_add e320 (in_c 200 rfl) j205_3 rfl; (first | have a9 := in_u ((in_c 200 rfl)) | (have a9 := (in_c 200 rfl); unfold In at a9)); have a10 := tx_i2l e302; (first | have a11 := in_u i253 | (have a11 := i253; unfold In at a11)); have a12 := tx_i2l e254; omega) (by (first | have a0 := in_u j205_3 | (have a0 := j205_3; unfold In at a0)); (first | have a1 := in_u h1 | (have a1 := h1; unfold In at a1)); (first | have a2 := in_u ro_109_20 | (have a2 := ro_109_20; unfold In at a2)); (first | have a3 := in_u ro_109_19 | (have a3 := ro_109_19; unfold In at a3)); (first | have a4 := in_u j205_4 | (have a4 := j205_4; unfold In at a4)); (first | have a5 := in_u j205_2 | (have a5 := j205_2; unfold In at a5)); (first | have a6 := in_u ((in_c 1 rfl)) | (have a6 := (in_c 1 rfl); unfold In at a6)); (first | have a7 := in_u i320 | (have a7 := i320; unfold In at a7)); have a8 := t_add e320 (in_c 200 rfl) j205_3 rfl; (first | have a9 := in_u ((in_c 200 rfl)) | (have a9 := (in_c 200 rfl); unfold In at a9)); have a10 := tx_i2l e302; (first | have a11 := in_u i253 | (have a11 := i253; unfold In at a11)); have a12 := tx_i2l e254; omega) (by (first | have a0 := in_u j205_3 | (have a0 := j205_3; unfold In at a0)); (first | have a1 := in_u h1 | (have a1 := h1; unfold In at a1)); (first | have a2 := in_u ro_109_20 | (have a2 := ro_109_20; unfold In at a2)); (first | have a3 := in_u ro_109_19 | (have a3 := ro_109_19; unfold In at a3)); (first | have a4 := in_u j205_4 | (have a4 := j205_4; unfold In at a4)); (first | have a5 := in_u j205_2 | (have a5 := j205_2; unfold In at a5)); (first | have a6 := in_u ((in_c 1 rfl)) | (have a6 := (in_c 1 rfl); unfold In at a6)); (first | have a7 := in_u i320 | (have a7 := i320; unfold In at a7)); have a8 := t_add e320 (in_c 200 rfl) j205_3 rfl; (first | have a9 := in_u ((in_c 200 rfl)) | (have a9 := (in_c 200 rfl); unfold In at a9)); have a10 := tx_i2l e302; (first | have a11 := in_u i253 | (have a11 := i253; unfold In at a11)); have a12 := tx_i2l e254; omega)).symm g205_1 (by rw [← e210]; have h := i213a.1; omega) e226 e266 e253 e294 (by rw [e294, ← e227]; have h := i232a.2; omega) e303 (tx_i2l e302) (by rw [show z303 = z255 from (by rw [e303, e255, e294, e246, e302, e254]), ← e267]; exact c269a)) _)
                  exact gg_w (by first | exact Nat.le_add_right _ _ | exact gw2 | exact gw3 | exact gwe rfl | exact gwf rfl | exact gwg rfl | exact gwh rfl | omega) (gg_f (gf_cons rfl (gf_cons rfl (gf_cons rfl (gf_cons rfl (gf_cons rfl gf_nil))))) (ct324 (sI (sL sc205 149 z266.toNatClampNeg z303) 148 z266.toNatClampNeg z320) (Int32.ofInt 1) y205_4 hI321 (fr_sI rfl (fr_sL rfl hFc205)) (in_w 0 1 (in_c 1 rfl) rfl) (in_w 0 159 j205_3 rfl) (in_w 0 400 j205_4 rfl) n324))
          refine g_iload_n 59 (gd rfl) rfl rfl ?_
          refine g_sipush 160 62 (gd rfl) rfl rfl ?_
          refine g_cmp_ge 65 330 (gd rfl) rfl rfl (fun c62 => ?_) (fun c62 => ?_)
          · skip
            have i62 := r_le2 160 160 c62 (in_c 160 rfl) j58_3 rfl
            refine g_goto 50 (gd rfl) rfl ?_
            have n50 : CI s (x1).toInt sc58 := by first | exact g58_0.1 | exact ci_0 hI q_0 h1 q_1 ⟨hFc2.1 112 rfl, hFc2.1 113 rfl, hFc2.1 114 rfl, hFc2.1 115 rfl, hFc2.1 116 rfl, hFc2.2.1 147 rfl, hFc2.2.2.1 109 19 rfl, hFc2.2.2.1 109 20 rfl⟩ (fun k hk => g2_0 k (by rw [← e_109_20] at hk; (first | have a0 := in_u h1 | (have a0 := h1; unfold In at a0)); (first | have a1 := in_u ro_109_20 | (have a1 := ro_109_20; unfold In at a1)); (first | have a2 := in_u ro_109_19 | (have a2 := ro_109_19; unfold In at a2)); (first | have a3 := in_u i62 | (have a3 := i62; unfold In at a3)); (first | have a4 := in_u j58_2 | (have a4 := j58_2; unfold In at a4)); omega))
            have n50a : (y58_2).toInt = 0 → CLQ s sc58 160 := by first | (intro hz; exfalso; have h0 : (Int32.ofInt 1).toInt = 1 := rfl; omega) | (intro hz; have hc := g58_0.2.2.2 hz; rw [show y58_3.toNatClampNeg = 160 from (by show y58_3.toInt.toNat = 160; (first | have a0 := in_u h1 | (have a0 := h1; unfold In at a0)); (first | have a1 := in_u ro_109_20 | (have a1 := ro_109_20; unfold In at a1)); (first | have a2 := in_u ro_109_19 | (have a2 := ro_109_19; unfold In at a2)); (first | have a3 := in_u i62 | (have a3 := i62; unfold In at a3)); (first | have a4 := in_u j58_2 | (have a4 := j58_2; unfold In at a4)); (first | exact zt_e (by omega) | omega))] at hc; exact hc)
            have m50 : 2 * mq s (x1).toInt sc58 + (y58_2).toInt.toNat < k50 := by have hm := mm50; have hj := g58_1; have hm1 := g58_0.2.1; have hm2 := g58_0.2.2.1; by_cases hz : y58_2.toInt = 0; ((first | have a0 := in_u h1 | (have a0 := h1; unfold In at a0)); (first | have a1 := in_u ro_109_20 | (have a1 := ro_109_20; unfold In at a1)); (first | have a2 := in_u ro_109_19 | (have a2 := ro_109_19; unfold In at a2)); (first | have a3 := in_u i62 | (have a3 := i62; unfold In at a3)); (first | have a4 := in_u j58_2 | (have a4 := j58_2; unfold In at a4)); omega); (have hm3 := hm2 hz; have hjj := j58_2; unfold In at hjj; (first | have a0 := in_u h1 | (have a0 := h1; unfold In at a0)); (first | have a1 := in_u ro_109_20 | (have a1 := ro_109_20; unfold In at a1)); (first | have a2 := in_u ro_109_19 | (have a2 := ro_109_19; unfold In at a2)); (first | have a3 := in_u i62 | (have a3 := i62; unfold In at a3)); (first | have a4 := in_u j58_2 | (have a4 := j58_2; unfold In at a4)); omega)
            exact gg_w (by first | exact Nat.le_add_right _ _ | exact gw2 | exact gw3 | exact gwe rfl | exact gwf rfl | exact gwg rfl | exact gwh rfl | omega) (gg_f (gf_cons rfl (gf_cons rfl (gf_cons rfl gf_nil))) (ih50  sc58 y58_2 hIc58 hFc58 (in_w 0 1 j58_2 rfl) n50 n50a m50))
          · skip
            have i62 := r_lt1 0 159 c62 j58_3 (in_c 160 rfl) rfl
            refine g_aload_n 66 (gd rfl) rfl rfl ?_
            refine g_getI 69 (gd rfl) rfl rfl rfl (fun z66 e66 => ?_)
            have q66 : u_109_19 = z66 := (fr_F e_109_19 hFc58 rfl).trans e66.symm
            subst q66
            refine g_iload_n 70 (gd rfl) rfl rfl ?_
            refine g_iadd 71 (gd rfl) rfl (fun z70 e70 => ?_)
            have i70 := in_add 0 319 e70 ro_109_19 i62 rfl rfl
            refine g_istore 73 (gd rfl) rfl (Nat.le_of_ble_eq_true rfl) ?_
            refine g_aload_n 74 (gd rfl) rfl rfl ?_
            refine g_getA (q2 := 112) 77 (gd rfl) rfl rfl rfl rfl ?_
            refine g_iload 79 (gd rfl) rfl rfl ?_
            refine g_baload 80 (gd rfl) rfl (n := 480) rfl (in_ix i70 rfl) (fun z79 e79 => ?_)
            have i79 := inv_I hIc58 (n := 480) (t := 3) 0 1 rfl (in_ix i70 rfl) rfl e79
            refine g_if_eq 83 324 (gd rfl) rfl rfl (fun c80 => ?_) (fun c80 => ?_)
            · skip
              have i80 := z_eq 0 0 c80 i79 rfl
              have n324 : WK s (x1).toInt (mq s (x1).toInt sc50) sc58 (y58_2).toInt ((y58_3).toNatClampNeg + 1) := by exact wk_no g58_0 (by rw [(bs_x (x := z70) (a := y58_3) e_109_19 (by (first | have a0 := in_u h1 | (have a0 := h1; unfold In at a0)); (first | have a1 := in_u ro_109_20 | (have a1 := ro_109_20; unfold In at a1)); (first | have a2 := in_u ro_109_19 | (have a2 := ro_109_19; unfold In at a2)); (first | have a3 := in_u i62 | (have a3 := i62; unfold In at a3)); (first | have a4 := in_u j58_2 | (have a4 := j58_2; unfold In at a4)); (first | have a5 := in_u i70 | (have a5 := i70; unfold In at a5)); have a6 := t_add e70 ro_109_19 i62 rfl; omega) (by (first | have a0 := in_u h1 | (have a0 := h1; unfold In at a0)); (first | have a1 := in_u ro_109_20 | (have a1 := ro_109_20; unfold In at a1)); (first | have a2 := in_u ro_109_19 | (have a2 := ro_109_19; unfold In at a2)); (first | have a3 := in_u i62 | (have a3 := i62; unfold In at a3)); (first | have a4 := in_u j58_2 | (have a4 := j58_2; unfold In at a4)); (first | have a5 := in_u i70 | (have a5 := i70; unfold In at a5)); have a6 := t_add e70 ro_109_19 i62 rfl; omega) (by (first | have a0 := in_u h1 | (have a0 := h1; unfold In at a0)); (first | have a1 := in_u ro_109_20 | (have a1 := ro_109_20; unfold In at a1)); (first | have a2 := in_u ro_109_19 | (have a2 := ro_109_19; unfold In at a2)); (first | have a3 := in_u i62 | (have a3 := i62; unfold In at a3)); (first | have a4 := in_u j58_2 | (have a4 := j58_2; unfold In at a4)); (first | have a5 := in_u i70 | (have a5 := i70; unfold In at a5)); have a6 := t_add e70 ro_109_19 i62 rfl; omega)), ← hFc58.1 112 rfl, ← e79]; exact c80)
              exact gg_w (by first | exact Nat.le_add_right _ _ | exact gw2 | exact gw3 | exact gwe rfl | exact gwf rfl | exact gwg rfl | exact gwh rfl | omega) (gg_f (gf_cons rfl (gf_cons rfl (gf_cons rfl (gf_cons rfl (gf_cons rfl gf_nil))))) (ct324 sc58 y58_2 z70 hIc58 hFc58 (in_w 0 1 j58_2 rfl) (in_w 0 159 i62 rfl) (in_w 0 400 i70 rfl) n324))
            · skip
              have i80 := z_ne 1 1 c80 i79 rfl
              refine g_aload_n 84 (gd rfl) rfl rfl ?_
              refine g_getA (q2 := 147) 87 (gd rfl) rfl rfl rfl rfl ?_
              refine g_iload_n 88 (gd rfl) rfl rfl ?_
              refine g_laload 89 (gd rfl) rfl (n := 160) rfl (in_ix i62 rfl) (fun z88 e88 => ?_)
              refine g_aload_n 90 (gd rfl) rfl rfl ?_
              refine g_getA (q2 := 116) 93 (gd rfl) rfl rfl rfl rfl ?_
              refine g_iload 95 (gd rfl) rfl rfl ?_
              refine g_iaload 96 (gd rfl) rfl (n := 480) rfl (in_ix i70 rfl) (fun z95 e95 => ?_)
              have i95 := inv_I hIc58 (n := 480) (t := 0) 0 1000000 rfl (in_ix i70 rfl) rfl e95
              refine g_i2l 97 (gd rfl) rfl (fun z96 e96 => ?_)
              have i96 := l_i e96 i95
              refine g_lcmp 98 (gd rfl) rfl (fun z97 e97 => ?_)
              have i97 := lc_in e97
              refine g_if_ge 101 205 (gd rfl) rfl rfl (fun c98 => ?_) (fun c98 => ?_)
              · skip
                have i98 := z_ge 0 1 c98 i97 rfl
                have c98a := lc_ge e97 c98
                have i98a := lr_le2 0 9223372036854775807 c98a i96 (l_rng z88) rfl
                have n205 : (z70).toInt = (u_109_19).toInt + (y58_3).toInt := by (first | have a0 := in_u h1 | (have a0 := h1; unfold In at a0)); (first | have a1 := in_u ro_109_20 | (have a1 := ro_109_20; unfold In at a1)); (first | have a2 := in_u ro_109_19 | (have a2 := ro_109_19; unfold In at a2)); (first | have a3 := in_u i62 | (have a3 := i62; unfold In at a3)); (first | have a4 := in_u j58_2 | (have a4 := j58_2; unfold In at a4)); (first | have a5 := in_u i70 | (have a5 := i70; unfold In at a5)); have a6 := t_add e70 ro_109_19 i62 rfl; have a7 := tx_i2l e96; (first | have a8 := in_u i95 | (have a8 := i95; unfold In at a8)); omega
                have n205a : WK s (x1).toInt (mq s (x1).toInt sc50) sc58 (y58_2).toInt (y58_3).toNatClampNeg := by exact g58_0
                have n205b : (s.1 112 (z70).toNatClampNeg).toInt ≠ 0 := by rw [← hFc58.1 112 rfl, ← e79]; exact c80
                have n205c : (y58_2).toInt = 0 → FWQ s sc58 (y58_3).toNatClampNeg := by (intro _ h0 _; exfalso; rw [← hFc58.2.1 147 rfl, ← hFc58.1 116 rfl, (bs_x (x := z70) (a := y58_3) e_109_19 (by have a0 := h1; unfold In at a0; (first | have a1 := in_u ro_109_20 | (have a1 := ro_109_20; unfold In at a1)); (first | have a2 := in_u ro_109_19 | (have a2 := ro_109_19; unfold In at a2)); (first | have a3 := in_u i62 | (have a3 := i62; unfold In at a3)); (first | have a4 := in_u j58_2 | (have a4 := j58_2; unfold In at a4)); (first | have a5 := in_u i70 | (have a5 := i70; unfold In at a5)); have a6 := t_add e70 ro_109_19 i62 rfl; have a7 := tx_i2l e96; (first | have a8 := in_u i95 | (have a8 := i95; unfold In at a8)); omega) (by have a0 := h1; unfold In at a0; (first | have a1 := in_u ro_109_20 | (have a1 := ro_109_20; unfold In at a1)); (first | have a2 := in_u ro_109_19 | (have a2 := ro_109_19; unfold In at a2)); (first | have a3 := in_u i62 | (have a3 := i62; unfold In at a3)); (first | have a4 := in_u j58_2 | (have a4 := j58_2; unfold In at a4)); (first | have a5 := in_u i70 | (have a5 := i70; unfold In at a5)); have a6 := t_add e70 ro_109_19 i62 rfl; have a7 := tx_i2l e96; (first | have a8 := in_u i95 | (have a8 := i95; unfold In at a8)); omega) (by have a0 := h1; unfold In at a0; (first | have a1 := in_u ro_109_20 | (have a1 := ro_109_20; unfold In at a1)); (first | have a2 := in_u ro_109_19 | (have a2 := ro_109_19; unfold In at a2)); (first | have a3 := in_u i62 | (have a3 := i62; unfold In at a3)); (first | have a4 := in_u j58_2 | (have a4 := j58_2; unfold In at a4)); (first | have a5 := in_u i70 | (have a5 := i70; unfold In at a5)); have a6 := t_add e70 ro_109_19 i62 rfl; have a7 := tx_i2l e96; (first | have a8 := in_u i95 | (have a8 := i95; unfold In at a8)); omega)), ← e88, ← e95] at h0; have h1 := tx_i2l e96; have h2 := c98a; omega)
                exact gg_w (by first | exact Nat.le_add_right _ _ | exact gw2 | exact gw3 | exact gwe rfl | exact gwf rfl | exact gwg rfl | exact gwh rfl | omega) (gg_f (gf_cons rfl (gf_cons rfl (gf_cons rfl (gf_cons rfl (gf_cons rfl gf_nil))))) (ct205 sc58 y58_2 z70 hIc58 hFc58 (in_w 0 1 j58_2 rfl) (in_w 0 159 i62 rfl) (in_w 0 400 i70 rfl) n205 n205a n205b n205c))
              · skip
                have i98 := z_lt (-1) (-1) c98 i97 rfl
                have c98a := lc_lt e97 c98
                have i98a := lr_lt1 (-9223372036854775808) 999999 c98a (l_rng z88) i96 rfl
                refine g_aload_n 102 (gd rfl) rfl rfl ?_
                refine g_getA (q2 := 149) 105 (gd rfl) rfl rfl rfl rfl ?_
                refine g_aload_n 106 (gd rfl) rfl rfl ?_
                refine g_getA (q2 := 113) 109 (gd rfl) rfl rfl rfl rfl ?_
                refine g_iload 111 (gd rfl) rfl rfl ?_
                refine g_iaload 112 (gd rfl) rfl (n := 480) rfl (in_ix i70 rfl) (fun z111 e111 => ?_)
                have i111 := inv_I hIc58 (n := 480) (t := 0) 0 31 rfl (in_ix i70 rfl) rfl e111
                refine g_laload 113 (gd rfl) rfl (n := 34) rfl (in_ix i111 rfl) (fun z112 e112 => ?_)
                refine g_ldc2_w 9000000000000000 116 (gd rfl) rfl rfl ?_
                refine g_lcmp 117 (gd rfl) rfl (fun z116 e116 => ?_)
                have i116 := lc_in e116
                refine g_if_ge 120 205 (gd rfl) rfl rfl (fun c117 => ?_) (fun c117 => ?_)
                · skip
                  have i117 := z_ge 0 1 c117 i116 rfl
                  have c117a := lc_ge e116 c117
                  have i117a := lr_le2 9000000000000000 9223372036854775807 c117a (l_c 9000000000000000 rfl) (l_rng z112) rfl
                  have n205 : (z70).toInt = (u_109_19).toInt + (y58_3).toInt := by (first | have a0 := in_u h1 | (have a0 := h1; unfold In at a0)); (first | have a1 := in_u ro_109_20 | (have a1 := ro_109_20; unfold In at a1)); (first | have a2 := in_u ro_109_19 | (have a2 := ro_109_19; unfold In at a2)); (first | have a3 := in_u i62 | (have a3 := i62; unfold In at a3)); (first | have a4 := in_u j58_2 | (have a4 := j58_2; unfold In at a4)); (first | have a5 := in_u i70 | (have a5 := i70; unfold In at a5)); have a6 := t_add e70 ro_109_19 i62 rfl; have a7 := tx_i2l e96; (first | have a8 := in_u i95 | (have a8 := i95; unfold In at a8)); omega
                  have n205a : WK s (x1).toInt (mq s (x1).toInt sc50) sc58 (y58_2).toInt (y58_3).toNatClampNeg := by exact g58_0
                  have n205b : (s.1 112 (z70).toNatClampNeg).toInt ≠ 0 := by rw [← hFc58.1 112 rfl, ← e79]; exact c80
                  have n205c : (y58_2).toInt = 0 → FWQ s sc58 (y58_3).toNatClampNeg := by (intro _ _ h9; exfalso; rw [← hFc58.1 113 rfl, (bs_x (x := z70) (a := y58_3) e_109_19 (by (first | have a0 := in_u h1 | (have a0 := h1; unfold In at a0)); (first | have a1 := in_u ro_109_20 | (have a1 := ro_109_20; unfold In at a1)); (first | have a2 := in_u ro_109_19 | (have a2 := ro_109_19; unfold In at a2)); (first | have a3 := in_u i62 | (have a3 := i62; unfold In at a3)); (first | have a4 := in_u j58_2 | (have a4 := j58_2; unfold In at a4)); (first | have a5 := in_u i70 | (have a5 := i70; unfold In at a5)); have a6 := t_add e70 ro_109_19 i62 rfl; have a7 := tx_i2l e96; (first | have a8 := in_u i95 | (have a8 := i95; unfold In at a8)); omega) (by (first | have a0 := in_u h1 | (have a0 := h1; unfold In at a0)); (first | have a1 := in_u ro_109_20 | (have a1 := ro_109_20; unfold In at a1)); (first | have a2 := in_u ro_109_19 | (have a2 := ro_109_19; unfold In at a2)); (first | have a3 := in_u i62 | (have a3 := i62; unfold In at a3)); (first | have a4 := in_u j58_2 | (have a4 := j58_2; unfold In at a4)); (first | have a5 := in_u i70 | (have a5 := i70; unfold In at a5)); have a6 := t_add e70 ro_109_19 i62 rfl; have a7 := tx_i2l e96; (first | have a8 := in_u i95 | (have a8 := i95; unfold In at a8)); omega) (by (first | have a0 := in_u h1 | (have a0 := h1; unfold In at a0)); (first | have a1 := in_u ro_109_20 | (have a1 := ro_109_20; unfold In at a1)); (first | have a2 := in_u ro_109_19 | (have a2 := ro_109_19; unfold In at a2)); (first | have a3 := in_u i62 | (have a3 := i62; unfold In at a3)); (first | have a4 := in_u j58_2 | (have a4 := j58_2; unfold In at a4)); (first | have a5 := in_u i70 | (have a5 := i70; unfold In at a5)); have a6 := t_add e70 ro_109_19 i62 rfl; have a7 := tx_i2l e96; (first | have a8 := in_u i95 | (have a8 := i95; unfold In at a8)); omega)), ← e111, ← e112] at h9; have h2 := i117a.1; omega)
                  exact gg_w (by first | exact Nat.le_add_right _ _ | exact gw2 | exact gw3 | exact gwe rfl | exact gwf rfl | exact gwg rfl | exact gwh rfl | omega) (gg_f (gf_cons rfl (gf_cons rfl (gf_cons rfl (gf_cons rfl (gf_cons rfl gf_nil))))) (ct205 sc58 y58_2 z70 hIc58 hFc58 (in_w 0 1 j58_2 rfl) (in_w 0 159 i62 rfl) (in_w 0 400 i70 rfl) n205 n205a n205b n205c))
                · skip
                  have i117 := z_lt (-1) (-1) c117 i116 rfl
                  have c117a := lc_lt e116 c117
                  have i117a := lr_lt1 (-9223372036854775808) 8999999999999999 c117a (l_rng z112) (l_c 9000000000000000 rfl) rfl
                  refine g_aload_n 121 (gd rfl) rfl rfl ?_
                  refine g_getA (q2 := 149) 124 (gd rfl) rfl rfl rfl rfl ?_
                  refine g_aload_n 125 (gd rfl) rfl rfl ?_
                  refine g_getA (q2 := 113) 128 (gd rfl) rfl rfl rfl rfl ?_
                  refine g_iload 130 (gd rfl) rfl rfl ?_
                  refine g_iaload 131 (gd rfl) rfl (n := 480) rfl (in_ix i70 rfl) (fun z130 e130 => ?_)
                  have q130 : z111 = z130 := (e111).trans e130.symm
                  subst q130
                  refine g_laload 132 (gd rfl) rfl (n := 34) rfl (in_ix i111 rfl) (fun z131 e131 => ?_)
                  refine g_aload_n 133 (gd rfl) rfl rfl ?_
                  refine g_getA (q2 := 115) 136 (gd rfl) rfl rfl rfl rfl ?_
                  refine g_iload 138 (gd rfl) rfl rfl ?_
                  refine g_iaload 139 (gd rfl) rfl (n := 480) rfl (in_ix i70 rfl) (fun z138 e138 => ?_)
                  have i138 := inv_I hIc58 (n := 480) (t := 0) (-1000000) 1000000 rfl (in_ix i70 rfl) rfl e138
                  refine g_i2l 140 (gd rfl) rfl (fun z139 e139 => ?_)
                  have i139 := l_i e139 i138
                  refine g_ladd 141 (gd rfl) rfl (fun z140 e140 => ?_)
                  refine g_aload_n 142 (gd rfl) rfl rfl ?_
                  refine g_getA (q2 := 149) 145 (gd rfl) rfl rfl rfl rfl ?_
                  refine g_aload_n 146 (gd rfl) rfl rfl ?_
                  refine g_getA (q2 := 114) 149 (gd rfl) rfl rfl rfl rfl ?_
                  refine g_iload 151 (gd rfl) rfl rfl ?_
                  refine g_iaload 152 (gd rfl) rfl (n := 480) rfl (in_ix i70 rfl) (fun z151 e151 => ?_)
                  have i151 := inv_I hIc58 (n := 480) (t := 0) 0 31 rfl (in_ix i70 rfl) rfl e151
                  refine g_laload 153 (gd rfl) rfl (n := 34) rfl (in_ix i151 rfl) (fun z152 e152 => ?_)
                  refine g_lcmp 154 (gd rfl) rfl (fun z153 e153 => ?_)
                  have i153 := lc_in e153
                  refine g_if_ge 157 205 (gd rfl) rfl rfl (fun c154 => ?_) (fun c154 => ?_)
                  · skip
                    have i154 := z_ge 0 1 c154 i153 rfl
                    have c154a := lc_ge e153 c154
                    have n205 : (z70).toInt = (u_109_19).toInt + (y58_3).toInt := by (first | have a0 := in_u h1 | (have a0 := h1; unfold In at a0)); (first | have a1 := in_u ro_109_20 | (have a1 := ro_109_20; unfold In at a1)); (first | have a2 := in_u ro_109_19 | (have a2 := ro_109_19; unfold In at a2)); (first | have a3 := in_u i62 | (have a3 := i62; unfold In at a3)); (first | have a4 := in_u j58_2 | (have a4 := j58_2; unfold In at a4)); (first | have a5 := in_u i70 | (have a5 := i70; unfold In at a5)); have a6 := t_add e70 ro_109_19 i62 rfl; have a7 := tx_i2l e139; (first | have a8 := in_u i138 | (have a8 := i138; unfold In at a8)); have a9 := tx_i2l e96; (first | have a10 := in_u i95 | (have a10 := i95; unfold In at a10)); omega
                    have n205a : WK s (x1).toInt (mq s (x1).toInt sc50) sc58 (y58_2).toInt (y58_3).toNatClampNeg := by exact g58_0
                    have n205b : (s.1 112 (z70).toNatClampNeg).toInt ≠ 0 := by rw [← hFc58.1 112 rfl, ← e79]; exact c80
                    have n205c : (y58_2).toInt = 0 → FWQ s sc58 (y58_3).toNatClampNeg := by exact fun _ => fwq_i hI q_0 (by (first | have a0 := in_u h1 | (have a0 := h1; unfold In at a0)); (first | have a1 := in_u ro_109_20 | (have a1 := ro_109_20; unfold In at a1)); (first | have a2 := in_u ro_109_19 | (have a2 := ro_109_19; unfold In at a2)); (first | have a3 := in_u i62 | (have a3 := i62; unfold In at a3)); (first | have a4 := in_u j58_2 | (have a4 := j58_2; unfold In at a4)); (first | have a5 := in_u i70 | (have a5 := i70; unfold In at a5)); have a6 := t_add e70 ro_109_19 i62 rfl; have a7 := tx_i2l e139; (first | have a8 := in_u i138 | (have a8 := i138; unfold In at a8)); have a9 := tx_i2l e96; (first | have a10 := in_u i95 | (have a10 := i95; unfold In at a10)); omega) ⟨hFc58.1 112 rfl, hFc58.1 113 rfl, hFc58.1 114 rfl, hFc58.1 115 rfl, hFc58.1 116 rfl, hFc58.2.1 147 rfl, hFc58.2.2.1 109 19 rfl, hFc58.2.2.1 109 20 rfl⟩ g58_0.1 i62 (bs_x e_109_19 (by (first | have a0 := in_u h1 | (have a0 := h1; unfold In at a0)); (first | have a1 := in_u ro_109_20 | (have a1 := ro_109_20; unfold In at a1)); (first | have a2 := in_u ro_109_19 | (have a2 := ro_109_19; unfold In at a2)); (first | have a3 := in_u i62 | (have a3 := i62; unfold In at a3)); (first | have a4 := in_u j58_2 | (have a4 := j58_2; unfold In at a4)); (first | have a5 := in_u i70 | (have a5 := i70; unfold In at a5)); have a6 := t_add e70 ro_109_19 i62 rfl; have a7 := tx_i2l e139; (first | have a8 := in_u i138 | (have a8 := i138; unfold In at a8)); have a9 := tx_i2l e96; (first | have a10 := in_u i95 | (have a10 := i95; unfold In at a10)); omega) (by (first | have a0 := in_u h1 | (have a0 := h1; unfold In at a0)); (first | have a1 := in_u ro_109_20 | (have a1 := ro_109_20; unfold In at a1)); (first | have a2 := in_u ro_109_19 | (have a2 := ro_109_19; unfold In at a2)); (first | have a3 := in_u i62 | (have a3 := i62; unfold In at a3)); (first | have a4 := in_u j58_2 | (have a4 := j58_2; unfold In at a4)); (first | have a5 := in_u i70 | (have a5 := i70; unfold In at a5)); have a6 := t_add e70 ro_109_19 i62 rfl; have a7 := tx_i2l e139; (first | have a8 := in_u i138 | (have a8 := i138; unfold In at a8)); have a9 := tx_i2l e96; (first | have a10 := in_u i95 | (have a10 := i95; unfold In at a10)); omega) (by (first | have a0 := in_u h1 | (have a0 := h1; unfold In at a0)); (first | have a1 := in_u ro_109_20 | (have a1 := ro_109_20; unfold In at a1)); (first | have a2 := in_u ro_109_19 | (have a2 := ro_109_19; unfold In at a2)); (first | have a3 := in_u i62 | (have a3 := i62; unfold In at a3)); (first | have a4 := in_u j58_2 | (have a4 := j58_2; unfold In at a4)); (first | have a5 := in_u i70 | (have a5 := i70; unfold In at a5)); have a6 := t_add e70 ro_109_19 i62 rfl; have a7 := tx_i2l e139; (first | have a8 := in_u i138 | (have a8 := i138; unfold In at a8)); have a9 := tx_i2l e96; (first | have a10 := in_u i95 | (have a10 := i95; unfold In at a10)); omega)).symm (by rw [← hFc58.1 112 rfl, ← e79]; exact c80) e111 e151 e138 e131 (by rw [e131, ← e112]; have h := i117a.2; omega) e140 (tx_i2l e139) e152 c154a
                    exact gg_w (by first | exact Nat.le_add_right _ _ | exact gw2 | exact gw3 | exact gwe rfl | exact gwf rfl | exact gwg rfl | exact gwh rfl | omega) (gg_f (gf_cons rfl (gf_cons rfl (gf_cons rfl (gf_cons rfl (gf_cons rfl gf_nil))))) (ct205 sc58 y58_2 z70 hIc58 hFc58 (in_w 0 1 j58_2 rfl) (in_w 0 159 i62 rfl) (in_w 0 400 i70 rfl) n205 n205a n205b n205c))
                  · skip
                    have i154 := z_lt (-1) (-1) c154 i153 rfl
                    have c154a := lc_lt e153 c154
                    have i154a := lr_lt1 (-9223372036854775808) 9223372036854775806 c154a (l_rng z140) (l_rng z152) rfl
                    have i154b := lr_lt2 (-9223372036854775807) 9223372036854775807 c154a (l_rng z140) (l_rng z152) rfl
                    refine g_aload_n 158 (gd rfl) rfl rfl ?_
                    refine g_getA (q2 := 149) 161 (gd rfl) rfl rfl rfl rfl ?_
                    refine g_aload_n 162 (gd rfl) rfl rfl ?_
                    refine g_getA (q2 := 114) 165 (gd rfl) rfl rfl rfl rfl ?_
                    refine g_iload 167 (gd rfl) rfl rfl ?_
                    refine g_iaload 168 (gd rfl) rfl (n := 480) rfl (in_ix i70 rfl) (fun z167 e167 => ?_)
                    have q167 : z151 = z167 := (e151).trans e167.symm
                    subst q167
                    refine g_aload_n 169 (gd rfl) rfl rfl ?_
                    refine g_getA (q2 := 149) 172 (gd rfl) rfl rfl rfl rfl ?_
                    refine g_aload_n 173 (gd rfl) rfl rfl ?_
                    refine g_getA (q2 := 113) 176 (gd rfl) rfl rfl rfl rfl ?_
                    refine g_iload 178 (gd rfl) rfl rfl ?_
                    refine g_iaload 179 (gd rfl) rfl (n := 480) rfl (in_ix i70 rfl) (fun z178 e178 => ?_)
                    have q178 : z111 = z178 := (e111).trans e178.symm
                    subst q178
                    refine g_laload 180 (gd rfl) rfl (n := 34) rfl (in_ix i111 rfl) (fun z179 e179 => ?_)
                    refine g_aload_n 181 (gd rfl) rfl rfl ?_
                    refine g_getA (q2 := 115) 184 (gd rfl) rfl rfl rfl rfl ?_
                    refine g_iload 186 (gd rfl) rfl rfl ?_
                    refine g_iaload 187 (gd rfl) rfl (n := 480) rfl (in_ix i70 rfl) (fun z186 e186 => ?_)
                    have q186 : z138 = z186 := (e138).trans e186.symm
                    subst q186
                    refine g_i2l 188 (gd rfl) rfl (fun z187 e187 => ?_)
                    have i187 := l_i e187 i138
                    refine g_ladd 189 (gd rfl) rfl (fun z188 e188 => ?_)
                    refine g_lastore 190 (gd rfl) rfl (n := 34) rfl (in_ix i151 rfl) ?_
                    have hI189 := inv_sL (q := 149) (j := z151.toNatClampNeg) (x := z188) hIc58 rfl (l_rng z188)
                    refine g_aload_n 191 (gd rfl) rfl rfl ?_
                    refine g_getA (q2 := 148) 194 (gd rfl) rfl rfl rfl rfl ?_
                    refine g_aload_n 195 (gd rfl) rfl rfl ?_
                    refine g_getA (q2 := 114) 198 (gd rfl) rfl rfl rfl rfl ?_
                    refine g_iload 200 (gd rfl) rfl rfl ?_
                    refine g_iaload 201 (gd rfl) rfl (n := 480) rfl (in_ix i70 rfl) (fun z200 e200 => ?_)
                    have q200 : z151 = z200 := (sL_I (e151)).trans e200.symm
                    subst q200
                    refine g_iload_n 202 (gd rfl) rfl rfl ?_
                    refine g_iastore 203 (gd rfl) rfl (n := 34) rfl (in_ix i151 rfl) ?_
                    have hI202 := inv_sI (q := 148) (j := z151.toNatClampNeg) hI189 rfl (in_w (-1) 1000 i62 rfl)
                    refine g_iconst 1 204 (gd rfl) rfl rfl ?_
                    refine g_istore_n 205 (gd rfl) rfl (Nat.le_of_ble_eq_true rfl) ?_
                    have n205 : (z70).toInt = (u_109_19).toInt + (y58_3).toInt := by (first | have a0 := in_u h1 | (have a0 := h1; unfold In at a0)); (first | have a1 := in_u ro_109_20 | (have a1 := ro_109_20; unfold In at a1)); (first | have a2 := in_u ro_109_19 | (have a2 := ro_109_19; unfold In at a2)); (first | have a3 := in_u i62 | (have a3 := i62; unfold In at a3)); (first | have a4 := in_u j58_2 | (have a4 := j58_2; unfold In at a4)); (first | have a5 := in_u i70 | (have a5 := i70; unfold In at a5)); have a6 := t_add e70 ro_109_19 i62 rfl; (first | have a7 := in_u ((in_c 1 rfl)) | (have a7 := (in_c 1 rfl); unfold In at a7)); have a8 := tx_i2l e187; (first | have a9 := in_u i138 | (have a9 := i138; unfold In at a9)); have a10 := tx_i2l e139; have a11 := tx_i2l e96; (first | have a12 := in_u i95 | (have a12 := i95; unfold In at a12)); omega
                    have n205a : WK s (x1).toInt (mq s (x1).toInt sc50) (sI (sL sc58 149 z151.toNatClampNeg z188) 148 z151.toNatClampNeg y58_3) ((Int32.ofInt 1)).toInt (y58_3).toNatClampNeg := by exact (wk_ch g58_0 (ci_fw hI q_0 (by have a0 := h1; unfold In at a0; (first | have a1 := in_u ro_109_20 | (have a1 := ro_109_20; unfold In at a1)); (first | have a2 := in_u ro_109_19 | (have a2 := ro_109_19; unfold In at a2)); (first | have a3 := in_u i62 | (have a3 := i62; unfold In at a3)); (first | have a4 := in_u j58_2 | (have a4 := j58_2; unfold In at a4)); (first | have a5 := in_u i70 | (have a5 := i70; unfold In at a5)); have a6 := t_add e70 ro_109_19 i62 rfl; (first | have a7 := in_u ((in_c 1 rfl)) | (have a7 := (in_c 1 rfl); unfold In at a7)); have a8 := tx_i2l e187; (first | have a9 := in_u i138 | (have a9 := i138; unfold In at a9)); have a10 := tx_i2l e139; have a11 := tx_i2l e96; (first | have a12 := in_u i95 | (have a12 := i95; unfold In at a12)); omega) (by have a0 := h1; unfold In at a0; (first | have a1 := in_u ro_109_20 | (have a1 := ro_109_20; unfold In at a1)); (first | have a2 := in_u ro_109_19 | (have a2 := ro_109_19; unfold In at a2)); (first | have a3 := in_u i62 | (have a3 := i62; unfold In at a3)); (first | have a4 := in_u j58_2 | (have a4 := j58_2; unfold In at a4)); (first | have a5 := in_u i70 | (have a5 := i70; unfold In at a5)); have a6 := t_add e70 ro_109_19 i62 rfl; (first | have a7 := in_u ((in_c 1 rfl)) | (have a7 := (in_c 1 rfl); unfold In at a7)); have a8 := tx_i2l e187; (first | have a9 := in_u i138 | (have a9 := i138; unfold In at a9)); have a10 := tx_i2l e139; have a11 := tx_i2l e96; (first | have a12 := in_u i95 | (have a12 := i95; unfold In at a12)); omega) ⟨hFc58.1 112 rfl, hFc58.1 113 rfl, hFc58.1 114 rfl, hFc58.1 115 rfl, hFc58.1 116 rfl, hFc58.2.1 147 rfl, hFc58.2.2.1 109 19 rfl, hFc58.2.2.1 109 20 rfl⟩ g58_0.1 i62 (bs_x e_109_19 (by have a0 := h1; unfold In at a0; (first | have a1 := in_u ro_109_20 | (have a1 := ro_109_20; unfold In at a1)); (first | have a2 := in_u ro_109_19 | (have a2 := ro_109_19; unfold In at a2)); (first | have a3 := in_u i62 | (have a3 := i62; unfold In at a3)); (first | have a4 := in_u j58_2 | (have a4 := j58_2; unfold In at a4)); (first | have a5 := in_u i70 | (have a5 := i70; unfold In at a5)); have a6 := t_add e70 ro_109_19 i62 rfl; (first | have a7 := in_u ((in_c 1 rfl)) | (have a7 := (in_c 1 rfl); unfold In at a7)); have a8 := tx_i2l e187; (first | have a9 := in_u i138 | (have a9 := i138; unfold In at a9)); have a10 := tx_i2l e139; have a11 := tx_i2l e96; (first | have a12 := in_u i95 | (have a12 := i95; unfold In at a12)); omega) (by have a0 := h1; unfold In at a0; (first | have a1 := in_u ro_109_20 | (have a1 := ro_109_20; unfold In at a1)); (first | have a2 := in_u ro_109_19 | (have a2 := ro_109_19; unfold In at a2)); (first | have a3 := in_u i62 | (have a3 := i62; unfold In at a3)); (first | have a4 := in_u j58_2 | (have a4 := j58_2; unfold In at a4)); (first | have a5 := in_u i70 | (have a5 := i70; unfold In at a5)); have a6 := t_add e70 ro_109_19 i62 rfl; (first | have a7 := in_u ((in_c 1 rfl)) | (have a7 := (in_c 1 rfl); unfold In at a7)); have a8 := tx_i2l e187; (first | have a9 := in_u i138 | (have a9 := i138; unfold In at a9)); have a10 := tx_i2l e139; have a11 := tx_i2l e96; (first | have a12 := in_u i95 | (have a12 := i95; unfold In at a12)); omega) (by have a0 := h1; unfold In at a0; (first | have a1 := in_u ro_109_20 | (have a1 := ro_109_20; unfold In at a1)); (first | have a2 := in_u ro_109_19 | (have a2 := ro_109_19; unfold In at a2)); (first | have a3 := in_u i62 | (have a3 := i62; unfold In at a3)); (first | have a4 := in_u j58_2 | (have a4 := j58_2; unfold In at a4)); (first | have a5 := in_u i70 | (have a5 := i70; unfold In at a5)); have a6 := t_add e70 ro_109_19 i62 rfl; (first | have a7 := in_u ((in_c 1 rfl)) | (have a7 := (in_c 1 rfl); unfold In at a7)); have a8 := tx_i2l e187; (first | have a9 := in_u i138 | (have a9 := i138; unfold In at a9)); have a10 := tx_i2l e139; have a11 := tx_i2l e96; (first | have a12 := in_u i95 | (have a12 := i95; unfold In at a12)); omega)).symm (by rw [← hFc58.1 112 rfl, ← e79]; exact c80) (by rw [← e88, ← e95]; have h1 := tx_i2l e96; have h2 := c98a; omega) e111 e151 e138 e179 (by rw [e179, ← e112]; have h := i117a.2; omega) e188 (tx_i2l e187) (by rw [show z188 = z140 from (by rw [e188, e140, e179, e131, e187, e139]), ← e152]; exact c154a)) _)
                    have n205b : (s.1 112 (z70).toNatClampNeg).toInt ≠ 0 := by rw [← hFc58.1 112 rfl, ← e79]; exact c80
                    have n205c : ((Int32.ofInt 1)).toInt = 0 → FWQ s (sI (sL sc58 149 z151.toNatClampNeg z188) 148 z151.toNatClampNeg y58_3) (y58_3).toNatClampNeg := by exact fun h => absurd h (by decide)
                    exact gg_w (by first | exact Nat.le_add_right _ _ | exact gw2 | exact gw3 | exact gwe rfl | exact gwf rfl | exact gwg rfl | exact gwh rfl | omega) (gg_f (gf_cons rfl (gf_cons rfl (gf_cons rfl (gf_cons rfl (gf_cons rfl gf_nil))))) (ct205 (sI (sL sc58 149 z151.toNatClampNeg z188) 148 z151.toNatClampNeg y58_3) (Int32.ofInt 1) z70 hI202 (fr_sI rfl (fr_sL rfl hFc58)) (in_w 0 1 (in_c 1 rfl) rfl) (in_w 0 159 i62 rfl) (in_w 0 400 i70 rfl) n205 n205a n205b n205c))
      refine g_iload_n 51 (gd rfl) rfl rfl ?_
      refine g_if_eq 54 333 (gd rfl) rfl rfl (fun c51 => ?_) (fun c51 => ?_)
      · skip
        have i51 := z_eq 0 0 c51 j50_2 rfl
        have n333 : CHE sc50 (x1).toInt := by exact che_e hI q_0 (by (first | have a0 := in_u h1 | (have a0 := h1; unfold In at a0)); (first | have a1 := in_u ro_109_20 | (have a1 := ro_109_20; unfold In at a1)); (first | have a2 := in_u ro_109_19 | (have a2 := ro_109_19; unfold In at a2)); (first | have a3 := in_u i51 | (have a3 := i51; unfold In at a3)); omega) (by (first | have a0 := in_u h1 | (have a0 := h1; unfold In at a0)); (first | have a1 := in_u ro_109_20 | (have a1 := ro_109_20; unfold In at a1)); (first | have a2 := in_u ro_109_19 | (have a2 := ro_109_19; unfold In at a2)); (first | have a3 := in_u i51 | (have a3 := i51; unfold In at a3)); omega) ⟨hFc50.1 112 rfl, hFc50.1 113 rfl, hFc50.1 114 rfl, hFc50.1 115 rfl, hFc50.1 116 rfl, hFc50.2.1 147 rfl, hFc50.2.2.1 109 19 rfl, hFc50.2.2.1 109 20 rfl⟩ ⟨g50_0, Nat.le_refl _, fun z => absurd rfl z, fun _ => g50_1 c51⟩
        exact g_return (gd rfl) rfl (hP _ _ ⟨sc50, hIc50, hFc50, rfl, rfl, n333⟩)
      · skip
        have i51 := z_ne 1 1 c51 j50_2 rfl
        refine g_iconst 0 55 (gd rfl) rfl rfl ?_
        refine g_istore_n 56 (gd rfl) rfl (Nat.le_of_ble_eq_true rfl) ?_
        refine g_iconst 0 57 (gd rfl) rfl rfl ?_
        refine g_istore_n 58 (gd rfl) rfl (Nat.le_of_ble_eq_true rfl) ?_
        have n58 : WK s (x1).toInt (mq s (x1).toInt sc50) sc50 ((Int32.ofInt 0)).toInt ((Int32.ofInt 0)).toNatClampNeg := by first | exact wk_0 g50_0 | (rw [show (z324).toNatClampNeg = y58_3.toNatClampNeg + 1 from (by show z324.toInt.toNat = y58_3.toInt.toNat + 1; (first | have a0 := in_u h1 | (have a0 := h1; unfold In at a0)); (first | have a1 := in_u ro_109_20 | (have a1 := ro_109_20; unfold In at a1)); (first | have a2 := in_u ro_109_19 | (have a2 := ro_109_19; unfold In at a2)); (first | have a3 := in_u i51 | (have a3 := i51; unfold In at a3)); (first | have a4 := in_u ((in_c 0 rfl)) | (have a4 := (in_c 0 rfl); unfold In at a4)); (first | exact zt_s (by omega) (by omega) | omega))]; exact g324_0)
        have n58a : y50_2.toInt = 1 := by first | exact g58_1 | (have hj := j50_2; unfold In at hj; have hc := c51; omega)
        exact gg_w (by first | exact Nat.le_add_right _ _ | exact gw2 | exact gw3 | exact gwe rfl | exact gwf rfl | exact gwg rfl | exact gwh rfl | omega) (gg_f (gf_cons rfl (gf_cons rfl (gf_cons rfl (gf_cons rfl gf_nil)))) (ct58 161 sc50 (Int32.ofInt 0) (Int32.ofInt 0) hIc50 hFc50 (in_w 0 1 (in_c 0 rfl) rfl) (in_w 0 160 (in_c 0 rfl) rfl) n58 n58a (m_in 161 (in_w 0 160 (in_c 0 rfl) rfl) rfl)))
  have ct2 : ∀ (k2 : Nat) (sc2 : GS) (y2_2 : Int32), Inv sc2 → Fr fm_356 s sc2 → (In y2_2 0 32) → (∀ k : Nat, (k : Int) < (y2_2).toInt → (sc2.1 148 k).toInt < 0 ∧ (sc2.2.1 149 k).toInt = 9000000000000000) → 32 - (y2_2).toInt < (k2 : Int) → GG Z (d - 1) 356 post (gx xp) (2812960000879052 + k2 * 900) 2 (fun j => xlook j [(0, .ref (A 109)), (1, .int x1), (2, .int y2_2)]) [] (WW Z A sc2 ++ ex) 0 0 := by
    intro k2
    induction k2 with
    | zero => intro sc2 y2_2 hIc2 hFc2 j2_2 g2_0 mm2; exact m_no mm2 j2_2 rfl
    | succ k2 ih2 =>
      intro sc2 y2_2 hIc2 hFc2 j2_2 g2_0 mm2
      refine gg_w (M := 2812960000879052 + k2 * 900 + 900) gws ?_
      refine g_iload_n 3 (gd rfl) rfl rfl ?_
      refine g_aload_n 4 (gd rfl) rfl rfl ?_
      refine g_getI 7 (gd rfl) rfl rfl rfl (fun z4 e4 => ?_)
      have q4 : u_109_20 = z4 := (fr_F e_109_20 hFc2 rfl).trans e4.symm
      subst q4
      refine g_cmp_ge 10 32 (gd rfl) rfl rfl (fun c7 => ?_) (fun c7 => ?_)
      · skip
        refine g_aload_n 33 (gd rfl) rfl rfl ?_
        refine g_getA (q2 := 149) 36 (gd rfl) rfl rfl rfl rfl ?_
        refine g_iload_n 37 (gd rfl) rfl rfl ?_
        refine g_lconst 0 38 (gd rfl) rfl rfl ?_
        refine g_lastore 39 (gd rfl) rfl (n := 34) rfl (in_ix h1 rfl) ?_
        have hI38 := inv_sL (q := 149) (j := x1.toNatClampNeg) (x := (Int64.ofInt 0)) hIc2 rfl (l_rng (Int64.ofInt 0))
        refine g_aload_n 40 (gd rfl) rfl rfl ?_
        refine g_getA (q2 := 148) 43 (gd rfl) rfl rfl rfl rfl ?_
        refine g_iload_n 44 (gd rfl) rfl rfl ?_
        refine g_sipush 1000 47 (gd rfl) rfl rfl ?_
        refine g_iastore 48 (gd rfl) rfl (n := 34) rfl (in_ix h1 rfl) ?_
        have hI47 := inv_sI (q := 148) (j := x1.toNatClampNeg) hI38 rfl (in_w (-1) 1000 (in_c 1000 rfl) rfl)
        refine g_iconst 1 49 (gd rfl) rfl rfl ?_
        refine g_istore_n 50 (gd rfl) rfl (Nat.le_of_ble_eq_true rfl) ?_
        have n50 : CI s (x1).toInt (sI (sL sc2 149 x1.toNatClampNeg (Int64.ofInt 0)) 148 x1.toNatClampNeg (Int32.ofInt 1000)) := by first | exact g58_0.1 | exact ci_0 hI q_0 h1 q_1 ⟨hFc2.1 112 rfl, hFc2.1 113 rfl, hFc2.1 114 rfl, hFc2.1 115 rfl, hFc2.1 116 rfl, hFc2.2.1 147 rfl, hFc2.2.2.1 109 19 rfl, hFc2.2.2.1 109 20 rfl⟩ (fun k hk => g2_0 k (by rw [← e_109_20] at hk; (first | have a0 := in_u h1 | (have a0 := h1; unfold In at a0)); (first | have a1 := in_u ro_109_20 | (have a1 := ro_109_20; unfold In at a1)); (first | have a2 := in_u ro_109_19 | (have a2 := ro_109_19; unfold In at a2)); (first | have a3 := in_u j2_2 | (have a3 := j2_2; unfold In at a3)); (first | have a4 := in_u ((in_c 1 rfl)) | (have a4 := (in_c 1 rfl); unfold In at a4)); omega))
        have n50a : ((Int32.ofInt 1)).toInt = 0 → CLQ s (sI (sL sc2 149 x1.toNatClampNeg (Int64.ofInt 0)) 148 x1.toNatClampNeg (Int32.ofInt 1000)) 160 := by exact fun h => absurd h (by decide)
        have m50 : 2 * mq s (x1).toInt (sI (sL sc2 149 x1.toNatClampNeg (Int64.ofInt 0)) 148 x1.toNatClampNeg (Int32.ofInt 1000)) + ((Int32.ofInt 1)).toInt.toNat < 6400000002 := by have hm := ci_m n50; have h1 : (Int32.ofInt 1).toInt.toNat = 1 := rfl; omega
        exact gg_w (by first | exact Nat.le_add_right _ _ | exact gw2 | exact gw3 | exact gwe rfl | exact gwf rfl | exact gwg rfl | exact gwh rfl | omega) (gg_f (gf_cons rfl (gf_cons rfl (gf_cons rfl gf_nil))) (ct50 (6400000002) (sI (sL sc2 149 x1.toNatClampNeg (Int64.ofInt 0)) 148 x1.toNatClampNeg (Int32.ofInt 1000)) (Int32.ofInt 1) hI47 (fr_sI rfl (fr_sL rfl hFc2)) (in_w 0 1 (in_c 1 rfl) rfl) n50 n50a m50))
      · skip
        have i7 := r_lt1 0 31 c7 j2_2 ro_109_20 rfl
        have i7a := r_lt2 1 32 c7 j2_2 ro_109_20 rfl
        refine g_aload_n 11 (gd rfl) rfl rfl ?_
        refine g_getA (q2 := 149) 14 (gd rfl) rfl rfl rfl rfl ?_
        refine g_iload_n 15 (gd rfl) rfl rfl ?_
        refine g_ldc2_w 9000000000000000 18 (gd rfl) rfl rfl ?_
        refine g_lastore 19 (gd rfl) rfl (n := 34) rfl (in_ix i7 rfl) ?_
        have hI18 := inv_sL (q := 149) (j := y2_2.toNatClampNeg) (x := (Int64.ofInt 9000000000000000)) hIc2 rfl (l_rng (Int64.ofInt 9000000000000000))
        refine g_aload_n 20 (gd rfl) rfl rfl ?_
        refine g_getA (q2 := 148) 23 (gd rfl) rfl rfl rfl rfl ?_
        refine g_iload_n 24 (gd rfl) rfl rfl ?_
        refine g_iconst (-1) 25 (gd rfl) rfl rfl ?_
        refine g_iastore 26 (gd rfl) rfl (n := 34) rfl (in_ix i7 rfl) ?_
        have hI25 := inv_sI (q := 148) (j := y2_2.toNatClampNeg) hI18 rfl (in_w (-1) 1000 (in_c (-1) rfl) rfl)
        refine g_iinc 29 (gd rfl) rfl rfl (Nat.le_of_ble_eq_true rfl) (fun z26 e26 => ?_)
        have i26 := in_add 1 32 e26 i7 (in_c 1 rfl) rfl rfl
        refine g_goto 2 (gd rfl) rfl ?_
        have n2 : ∀ k : Nat, (k : Int) < (z26).toInt → ((sI (sL sc2 149 y2_2.toNatClampNeg (Int64.ofInt 9000000000000000)) 148 y2_2.toNatClampNeg (Int32.ofInt (-1))).1 148 k).toInt < 0 ∧ ((sI (sL sc2 149 y2_2.toNatClampNeg (Int64.ofInt 9000000000000000)) 148 y2_2.toNatClampNeg (Int32.ofInt (-1))).2.1 149 k).toInt = 9000000000000000 := by first | (intro k hk; exfalso; have h0 : (Int32.ofInt 0).toInt = 0 := rfl; omega) | (intro k hk; have e2 : y2_2.toNatClampNeg = y2_2.toInt.toNat := rfl; rw [sI_q, show ((sI (sL sc2 149 y2_2.toNatClampNeg (Int64.ofInt 9000000000000000)) 148 y2_2.toNatClampNeg (Int32.ofInt (-1)))).2.1 149 = vp_updL (sc2.2.1 149) y2_2.toNatClampNeg (Int64.ofInt 9000000000000000) from (by simp [sI, sL])]; by_cases c : k = y2_2.toNatClampNeg; (rw [c, ul_eq]; unfold upd; rw [if_pos rfl]; exact ⟨by decide, by have hl : InL (Int64.ofInt 9000000000000000) 9000000000000000 9000000000000000 := l_c 9000000000000000 rfl; exact Int.le_antisymm hl.2 hl.1⟩); (rw [ul_ne c]; unfold upd; rw [if_neg c]; exact g2_0 k (by (first | have a0 := in_u h1 | (have a0 := h1; unfold In at a0)); (first | have a1 := in_u i7a | (have a1 := i7a; unfold In at a1)); (first | have a2 := in_u ro_109_19 | (have a2 := ro_109_19; unfold In at a2)); (first | have a3 := in_u i7 | (have a3 := i7; unfold In at a3)); (first | have a4 := in_u i26 | (have a4 := i26; unfold In at a4)); have a5 := t_add e26 i7 (in_c 1 rfl) rfl; (first | have a6 := in_u ((in_c 1 rfl)) | (have a6 := (in_c 1 rfl); unfold In at a6)); omega)))
        exact gg_w (by first | exact Nat.le_add_right _ _ | exact gw2 | exact gw3 | exact gwe rfl | exact gwf rfl | exact gwg rfl | exact gwh rfl | omega) (gg_f (gf_cons rfl (gf_cons rfl (gf_cons rfl gf_nil))) (ih2 (sI (sL sc2 149 y2_2.toNatClampNeg (Int64.ofInt 9000000000000000)) 148 y2_2.toNatClampNeg (Int32.ofInt (-1))) z26 hI25 (fr_sI rfl (fr_sL rfl hFc2)) (in_w 0 32 i26 rfl) n2 (m_up mm2 (t_add e26 i7 (in_c 1 rfl) rfl) (in_w 1 1 (in_c 1 rfl) rfl))))
  refine g_enter2 (k := 356) (N := 2812960000909652) (by first | exact dq1 hd rfl | exact dq0 hd rfl | exact dq2 hd rfl | exact dq3 hd rfl | omega) rfl (Nat.le_of_ble_eq_true rfl) ?_
  refine g_iconst 0 1 (gd rfl) rfl rfl ?_
  refine g_istore_n 2 (gd rfl) rfl (Nat.le_of_ble_eq_true rfl) ?_
  have n2 : ∀ k : Nat, (k : Int) < ((Int32.ofInt 0)).toInt → (s.1 148 k).toInt < 0 ∧ (s.2.1 149 k).toInt = 9000000000000000 := by first | (intro k hk; exfalso; have h0 : (Int32.ofInt 0).toInt = 0 := rfl; omega) | (intro k hk; have e2 : y2_2.toNatClampNeg = y2_2.toInt.toNat := rfl; rw [sI_q, show (s).2.1 149 = vp_updL (sc2.2.1 149) y2_2.toNatClampNeg (Int64.ofInt 9000000000000000) from (by simp [sI, sL])]; by_cases c : k = y2_2.toNatClampNeg; (rw [c, ul_eq]; unfold upd; rw [if_pos rfl]; exact ⟨by decide, by have hl : InL (Int64.ofInt 9000000000000000) 9000000000000000 9000000000000000 := l_c 9000000000000000 rfl; exact Int.le_antisymm hl.2 hl.1⟩); (rw [ul_ne c]; unfold upd; rw [if_neg c]; exact g2_0 k (by (first | have a0 := in_u ro_109_20 | (have a0 := ro_109_20; unfold In at a0)); (first | have a1 := in_u ro_109_19 | (have a1 := ro_109_19; unfold In at a1)); (first | have a2 := in_u h1 | (have a2 := h1; unfold In at a2)); (first | have a3 := in_u ((in_c 0 rfl)) | (have a3 := (in_c 0 rfl); unfold In at a3)); omega)))
  exact gg_w (by first | exact Nat.le_of_ble_eq_true rfl | omega) (gg_f (gf_cons rfl (gf_cons rfl (gf_cons rfl gf_nil))) (ct2 33 s (Int32.ofInt 0) hI fr_rf (in_w 0 32 (in_c 0 rfl) rfl) n2 (m_in 33 (in_w 0 32 (in_c 0 rfl) rfl) rfl)))

def fm_365 : FM := ([160], [], [(109, 0)], [])
/-- GraphHouseModel.span -/
theorem k_365 {Z : AmZ} {A : Nat → Nat} {s : GS} {ex : va_W} {d : Nat} {X : AmX} {x1 : Int32} (hd : 4 ≤ d) (hI : Inv s)  : GC Z d 365 [.ref (A 109), .int x1] (WW Z A s ++ ex) 0 0 (fun v u => ∃ t : GS, Inv t ∧ Fr fm_365 s t ∧ ∃ z : Int32, v = some (.int z) ∧ u = WW Z A t ++ ex ∧ In z 0 1) X := by
  intro post xp hP hX
  obtain ⟨u_109_19, e_109_19⟩ : ∃ w, w = s.2.2.1 109 19 := ⟨_, rfl⟩
  have ro_109_19 := inv_F hI 0 160 rfl e_109_19
  obtain ⟨u_109_20, e_109_20⟩ : ∃ w, w = s.2.2.1 109 20 := ⟨_, rfl⟩
  have ro_109_20 := inv_F hI 0 32 rfl e_109_20
  have ct62 : ∀ (k62 : Nat) (sc62 : GS) (y62_2 : Int64) (y62_4 : Int32), Inv sc62 → Fr fm_365 s sc62 → (In x1 0 159) → (In y62_4 0 32) → 32 - (y62_4).toInt < (k62 : Int) → GG Z (d - 1) 365 post (gx xp) (1 + k62 * 293563) 62 (fun j => xlook j [(0, .ref (A 109)), (1, .int x1), (2, .long y62_2), (4, .int y62_4)]) [] (WW Z A sc62 ++ ex) 0 0 := by
    intro k62
    induction k62 with
    | zero => intro sc62 y62_2 y62_4 hIc62 hFc62 j62_1 j62_4 mm62; exact m_no mm62 j62_4 rfl
    | succ k62 ih62 =>
      intro sc62 y62_2 y62_4 hIc62 hFc62 j62_1 j62_4 mm62
      refine gg_w (M := 1 + k62 * 293563 + 293563) gws ?_
      have ct74 : ∀ (k74 : Nat) (sc74 : GS) (y74_5 : Int32), Inv sc74 → Fr fm_365 s sc74 → (In y62_4 0 31) → (In y74_5 0 160) → 160 - (y74_5).toInt < (k74 : Int) → GG Z (d - 1) 365 post (gx xp) (1 + k62 * 293563 + 1 + k74 * 1801) 74 (fun j => xlook j [(0, .ref (A 109)), (1, .int x1), (2, .long y62_2), (4, .int y62_4), (5, .int y74_5)]) [] (WW Z A sc74 ++ ex) 0 0 := by
        intro k74
        induction k74 with
        | zero => intro sc74 y74_5 hIc74 hFc74 j74_4 j74_5 mm74; exact m_no mm74 j74_5 rfl
        | succ k74 ih74 =>
          intro sc74 y74_5 hIc74 hFc74 j74_4 j74_5 mm74
          refine gg_w (M := 1 + k62 * 293563 + 1 + k74 * 1801 + 1801) gws ?_
          have ct201 : ∀ (sc201 : GS) , Inv sc201 → Fr fm_365 s sc201 → (In y74_5 0 159) → GG Z (d - 1) 365 post (gx xp) (1 + k62 * 293563 + 1 + k74 * 1801 + 901) 201 (fun j => xlook j [(0, .ref (A 109)), (1, .int x1), (2, .long y62_2), (4, .int y62_4), (5, .int y74_5)]) [] (WW Z A sc201 ++ ex) 0 0 := by
            intro sc201  hIc201 hFc201 j201_5
            refine g_iinc 204 (gd rfl) rfl rfl (Nat.le_of_ble_eq_true rfl) (fun z201 e201 => ?_)
            have i201 := in_add 1 160 e201 j201_5 (in_c 1 rfl) rfl rfl
            refine g_goto 74 (gd rfl) rfl ?_
            exact gg_w (by first | exact Nat.le_add_right _ _ | exact gw2 | exact gw3 | exact gwe rfl | exact gwf rfl | exact gwg rfl | exact gwh rfl | omega) (gg_f (gf_cons rfl (gf_cons rfl (gf_cons rfl (gf_cons rfl (gf_cons rfl gf_nil))))) (ih74 sc201 z201 hIc201 hFc201 (in_w 0 31 j74_4 rfl) (in_w 0 160 i201 rfl) (m_up mm74 (t_add e201 j201_5 (in_c 1 rfl) rfl) (in_w 1 1 (in_c 1 rfl) rfl))))
          refine g_iload 76 (gd rfl) rfl rfl ?_
          refine g_sipush 160 79 (gd rfl) rfl rfl ?_
          refine g_cmp_ge 82 207 (gd rfl) rfl rfl (fun c79 => ?_) (fun c79 => ?_)
          · skip
            have i79 := r_le2 160 160 c79 (in_c 160 rfl) j74_5 rfl
            refine g_iinc 210 (gd rfl) rfl rfl (Nat.le_of_ble_eq_true rfl) (fun z207 e207 => ?_)
            have i207 := in_add 1 32 e207 j74_4 (in_c 1 rfl) rfl rfl
            refine g_goto 62 (gd rfl) rfl ?_
            exact gg_w (by first | exact Nat.le_add_right _ _ | exact gw2 | exact gw3 | exact gwe rfl | exact gwf rfl | exact gwg rfl | exact gwh rfl | omega) (gg_f (gf_cons rfl (gf_cons rfl (gf_cons rfl (gf_cons rfl gf_nil)))) (ih62 sc74 y62_2 z207 hIc74 hFc74 (in_w 0 159 j62_1 rfl) (in_w 0 32 i207 rfl) (m_up mm62 (t_add e207 j74_4 (in_c 1 rfl) rfl) (in_w 1 1 (in_c 1 rfl) rfl))))
          · skip
            have i79 := r_lt1 0 159 c79 j74_5 (in_c 160 rfl) rfl
            refine g_aload_n 83 (gd rfl) rfl rfl ?_
            refine g_iload 85 (gd rfl) rfl rfl ?_
            refine g_callv (X := _) (As := [.int y74_5]) (r := []) (b := A 109) (q := 109) 88 (gd rfl) rfl rfl rfl rfl rfl (ww_o rfl) (Nat.le_of_ble_eq_true rfl) (mc := 0) (ms := 0) (Nat.zero_le _) (Nat.zero_le _) (P := fun v u => _) ?_ (fun e u h => h) (fun v u h => h)
            intro po85 xx85 hp85 hx85
            refine g_enter2 (k := 288) (N := 300) (by first | exact dq1 hd rfl | exact dq0 hd rfl | exact dq2 hd rfl | exact dq3 hd rfl | omega) rfl (Nat.le_of_ble_eq_true rfl) ?_
            refine g_aload_n 1 (gd rfl) rfl rfl ?_
            refine g_getA (q2 := 112) 4 (gd rfl) rfl rfl rfl rfl ?_
            refine g_aload_n 5 (gd rfl) rfl rfl ?_
            refine g_getI 8 (gd rfl) rfl rfl rfl (fun z85x5 e85x5 => ?_)
            have q85x5 : u_109_19 = z85x5 := (fr_F e_109_19 hFc74 rfl).trans e85x5.symm
            subst q85x5
            refine g_iload_n 9 (gd rfl) rfl rfl ?_
            refine g_iadd 10 (gd rfl) rfl (fun z85x9 e85x9 => ?_)
            have i85x9 := in_add 0 319 e85x9 ro_109_19 i79 rfl rfl
            refine g_baload 11 (gd rfl) rfl (n := 480) rfl (in_ix i85x9 rfl) (fun z85x10 e85x10 => ?_)
            have i85x10 := inv_I hIc74 (n := 480) (t := 3) 0 1 rfl (in_ix i85x9 rfl) rfl e85x10
            refine g_if_eq 14 43 (gd rfl) rfl rfl (fun c85x11 => ?_) (fun c85x11 => ?_)
            · skip
              have i85x11 := z_eq 0 0 c85x11 i85x10 rfl
              refine g_iconst 0 44 (gd rfl) rfl rfl ?_
              refine g_ireturn (gd rfl) rfl (nb01 (in_w 0 1 (in_c 0 rfl) rfl)) (hp85 _ _ ?_)
              show GG _ _ _ _ _ _ _ _ [.int (Int32.ofInt 0)] _ _ _
              refine g_if_eq 91 201 (gd rfl) rfl rfl (fun c88 => ?_) (fun c88 => ?_)
              · skip
                exact gg_w (by first | exact Nat.le_add_right _ _ | exact gw2 | exact gw3 | exact gwe rfl | exact gwf rfl | exact gwg rfl | exact gwh rfl | omega) (gg_f (gf_cons rfl (gf_cons rfl (gf_cons rfl (gf_cons rfl (gf_cons rfl gf_nil))))) (ct201 sc74  hIc74 hFc74 (in_w 0 159 i79 rfl)))
              · skip
                exact zn_ne c88 (in_c 0 rfl) rfl
            · skip
              have i85x11 := z_ne 1 1 c85x11 i85x10 rfl
              refine g_aload_n 15 (gd rfl) rfl rfl ?_
              refine g_getA (q2 := 113) 18 (gd rfl) rfl rfl rfl rfl ?_
              refine g_aload_n 19 (gd rfl) rfl rfl ?_
              refine g_getI 22 (gd rfl) rfl rfl rfl (fun z85x19 e85x19 => ?_)
              have q85x19 : u_109_19 = z85x19 := (fr_F e_109_19 hFc74 rfl).trans e85x19.symm
              subst q85x19
              refine g_iload_n 23 (gd rfl) rfl rfl ?_
              refine g_iadd 24 (gd rfl) rfl (fun z85x23 e85x23 => ?_)
              have i85x23 := in_add 0 319 e85x23 ro_109_19 i79 rfl rfl
              refine g_iaload 25 (gd rfl) rfl (n := 480) rfl (in_ix i85x23 rfl) (fun z85x24 e85x24 => ?_)
              have i85x24 := inv_I hIc74 (n := 480) (t := 0) 0 31 rfl (in_ix i85x23 rfl) rfl e85x24
              refine g_aload_n 26 (gd rfl) rfl rfl ?_
              refine g_getA (q2 := 114) 29 (gd rfl) rfl rfl rfl rfl ?_
              refine g_aload_n 30 (gd rfl) rfl rfl ?_
              refine g_getI 33 (gd rfl) rfl rfl rfl (fun z85x30 e85x30 => ?_)
              have q85x30 : u_109_19 = z85x30 := (fr_F e_109_19 hFc74 rfl).trans e85x30.symm
              subst q85x30
              refine g_iload_n 34 (gd rfl) rfl rfl ?_
              refine g_iadd 35 (gd rfl) rfl (fun z85x34 e85x34 => ?_)
              have i85x34 := in_add 0 319 e85x34 ro_109_19 i79 rfl rfl
              refine g_iaload 36 (gd rfl) rfl (n := 480) rfl (in_ix i85x34 rfl) (fun z85x35 e85x35 => ?_)
              have i85x35 := inv_I hIc74 (n := 480) (t := 0) 0 31 rfl (in_ix i85x34 rfl) rfl e85x35
              refine g_cmp_eq 39 43 (gd rfl) rfl rfl (fun c85x36 => ?_) (fun c85x36 => ?_)
              · skip
                refine g_iconst 0 44 (gd rfl) rfl rfl ?_
                refine g_ireturn (gd rfl) rfl (nb01 (in_w 0 1 (in_c 0 rfl) rfl)) (hp85 _ _ ?_)
                show GG _ _ _ _ _ _ _ _ [.int (Int32.ofInt 0)] _ _ _
                refine g_if_eq 91 201 (gd rfl) rfl rfl (fun c88 => ?_) (fun c88 => ?_)
                · skip
                  exact gg_w (by first | exact Nat.le_add_right _ _ | exact gw2 | exact gw3 | exact gwe rfl | exact gwf rfl | exact gwg rfl | exact gwh rfl | omega) (gg_f (gf_cons rfl (gf_cons rfl (gf_cons rfl (gf_cons rfl (gf_cons rfl gf_nil))))) (ct201 sc74  hIc74 hFc74 (in_w 0 159 i79 rfl)))
                · skip
                  exact zn_ne c88 (in_c 0 rfl) rfl
              · skip
                refine g_iconst 1 40 (gd rfl) rfl rfl ?_
                refine g_goto 44 (gd rfl) rfl ?_
                refine g_ireturn (gd rfl) rfl (nb01 (in_w 0 1 (in_c 1 rfl) rfl)) (hp85 _ _ ?_)
                show GG _ _ _ _ _ _ _ _ [.int (Int32.ofInt 1)] _ _ _
                refine g_if_eq 91 201 (gd rfl) rfl rfl (fun c88 => ?_) (fun c88 => ?_)
                · skip
                  exact zn_eq c88 (in_c 1 rfl) rfl
                · skip
                  refine g_aload_n 92 (gd rfl) rfl rfl ?_
                  refine g_aload_n 93 (gd rfl) rfl rfl ?_
                  refine g_getI 96 (gd rfl) rfl rfl rfl (fun z93 e93 => ?_)
                  have q93 : u_109_19 = z93 := (fr_F e_109_19 hFc74 rfl).trans e93.symm
                  subst q93
                  refine g_iload 98 (gd rfl) rfl rfl ?_
                  refine g_iadd 99 (gd rfl) rfl (fun z98 e98 => ?_)
                  have i98 := in_add 0 319 e98 ro_109_19 i79 rfl rfl
                  refine g_iload 101 (gd rfl) rfl rfl ?_
                  refine g_callv (X := _) (As := [.int z98, .int y74_5]) (r := []) (b := A 109) (q := 109) 104 (gd rfl) rfl rfl rfl rfl rfl (ww_o rfl) (Nat.le_of_ble_eq_true rfl) (mc := 0) (ms := 0) (Nat.zero_le _) (Nat.zero_le _) (P := fun v u => _) ?_ (fun e u h => h) (fun v u h => h)
                  intro po101 xx101 hp101 hx101
                  refine g_enter2 (k := 366) (N := 300) (by first | exact dq1 hd rfl | exact dq0 hd rfl | exact dq2 hd rfl | exact dq3 hd rfl | omega) rfl (Nat.le_of_ble_eq_true rfl) ?_
                  refine g_ldc2_w 1000 3 (gd rfl) rfl rfl ?_
                  refine g_aload_n 4 (gd rfl) rfl rfl ?_
                  refine g_getA (q2 := 115) 7 (gd rfl) rfl rfl rfl rfl ?_
                  refine g_iload_n 8 (gd rfl) rfl rfl ?_
                  refine g_iaload 9 (gd rfl) rfl (n := 480) rfl (in_ix i98 rfl) (fun z101x8 e101x8 => ?_)
                  have i101x8 := inv_I hIc74 (n := 480) (t := 0) (-1000000) 1000000 rfl (in_ix i98 rfl) rfl e101x8
                  refine g_i2l 10 (gd rfl) rfl (fun z101x9 e101x9 => ?_)
                  have i101x9 := l_i e101x9 i101x8
                  refine g_ldc2_w 1000000 13 (gd rfl) rfl rfl ?_
                  refine g_ladd 14 (gd rfl) rfl (fun z101x13 e101x13 => ?_)
                  have i101x13 := l_add 0 2000000 e101x13 i101x9 (l_c 1000000 rfl) rfl
                  refine g_lmul 15 (gd rfl) rfl (fun z101x14 e101x14 => ?_)
                  have i101x14 := l_mulc 1000 0 2000000000 (Or.inl e101x14) i101x13 rfl
                  refine g_iload_n 16 (gd rfl) rfl rfl ?_
                  refine g_i2l 17 (gd rfl) rfl (fun z101x16 e101x16 => ?_)
                  have i101x16 := l_i e101x16 i79
                  refine g_ladd 18 (gd rfl) rfl (fun z101x17 e101x17 => ?_)
                  have i101x17 := l_add 0 2000000159 e101x17 i101x14 i101x16 rfl
                  refine g_lreturn (gd rfl) rfl (hp101 _ _ ?_)
                  show GG _ _ _ _ _ _ _ _ [.long z101x17] _ _ _
                  refine g_lload_n 105 (gd rfl) rfl rfl ?_
                  refine g_lcmp 106 (gd rfl) rfl (fun z105 e105 => ?_)
                  have i105 := lc_in e105
                  refine g_if_ge 109 201 (gd rfl) rfl rfl (fun c106 => ?_) (fun c106 => ?_)
                  · skip
                    have i106 := z_ge 0 1 c106 i105 rfl
                    have c106a := lc_ge e105 c106
                    have i106a := lr_le1 (-9223372036854775808) 2000000159 c106a (l_rng y62_2) i101x17 rfl
                    exact gg_w (by first | exact Nat.le_add_right _ _ | exact gw2 | exact gw3 | exact gwe rfl | exact gwf rfl | exact gwg rfl | exact gwh rfl | omega) (gg_f (gf_cons rfl (gf_cons rfl (gf_cons rfl (gf_cons rfl (gf_cons rfl gf_nil))))) (ct201 sc74  hIc74 hFc74 (in_w 0 159 i79 rfl)))
                  · skip
                    have i106 := z_lt (-1) (-1) c106 i105 rfl
                    have c106a := lc_lt e105 c106
                    have i106a := lr_lt2 1 9223372036854775807 c106a i101x17 (l_rng y62_2) rfl
                    refine g_aload_n 110 (gd rfl) rfl rfl ?_
                    refine g_getA (q2 := 160) 113 (gd rfl) rfl rfl rfl rfl ?_
                    refine g_aload_n 114 (gd rfl) rfl rfl ?_
                    refine g_getA (q2 := 113) 117 (gd rfl) rfl rfl rfl rfl ?_
                    refine g_aload_n 118 (gd rfl) rfl rfl ?_
                    refine g_getI 121 (gd rfl) rfl rfl rfl (fun z118 e118 => ?_)
                    have q118 : u_109_19 = z118 := (fr_F e_109_19 hFc74 rfl).trans e118.symm
                    subst q118
                    refine g_iload 123 (gd rfl) rfl rfl ?_
                    refine g_iadd 124 (gd rfl) rfl (fun z123 e123 => ?_)
                    have i123 := in_add 0 319 e123 ro_109_19 i79 rfl rfl
                    refine g_iaload 125 (gd rfl) rfl (n := 480) rfl (in_ix i123 rfl) (fun z124 e124 => ?_)
                    have i124 := inv_I hIc74 (n := 480) (t := 0) 0 31 rfl (in_ix i123 rfl) rfl e124
                    refine g_iaload 126 (gd rfl) rfl (n := 32) rfl (in_ix i124 rfl) (fun z125 e125 => ?_)
                    have i125 := inv_I hIc74 (n := 32) (t := 0) 0 31 rfl (in_ix i124 rfl) rfl e125
                    refine g_istore 128 (gd rfl) rfl (Nat.le_of_ble_eq_true rfl) ?_
                    refine g_aload_n 129 (gd rfl) rfl rfl ?_
                    refine g_getA (q2 := 160) 132 (gd rfl) rfl rfl rfl rfl ?_
                    refine g_aload_n 133 (gd rfl) rfl rfl ?_
                    refine g_getA (q2 := 114) 136 (gd rfl) rfl rfl rfl rfl ?_
                    refine g_aload_n 137 (gd rfl) rfl rfl ?_
                    refine g_getI 140 (gd rfl) rfl rfl rfl (fun z137 e137 => ?_)
                    have q137 : u_109_19 = z137 := (fr_F e_109_19 hFc74 rfl).trans e137.symm
                    subst q137
                    refine g_iload 142 (gd rfl) rfl rfl ?_
                    refine g_iadd 143 (gd rfl) rfl (fun z142 e142 => ?_)
                    have i142 := in_add 0 319 e142 ro_109_19 i79 rfl rfl
                    refine g_iaload 144 (gd rfl) rfl (n := 480) rfl (in_ix i142 rfl) (fun z143 e143 => ?_)
                    have i143 := inv_I hIc74 (n := 480) (t := 0) 0 31 rfl (in_ix i142 rfl) rfl e143
                    refine g_iaload 145 (gd rfl) rfl (n := 32) rfl (in_ix i143 rfl) (fun z144 e144 => ?_)
                    have i144 := inv_I hIc74 (n := 32) (t := 0) 0 31 rfl (in_ix i143 rfl) rfl e144
                    refine g_istore 147 (gd rfl) rfl (Nat.le_of_ble_eq_true rfl) ?_
                    refine g_iload 149 (gd rfl) rfl rfl ?_
                    refine g_iload 151 (gd rfl) rfl rfl ?_
                    refine g_cmp_ge 154 159 (gd rfl) rfl rfl (fun c151 => ?_) (fun c151 => ?_)
                    · skip
                      refine g_iload 161 (gd rfl) rfl rfl ?_
                      refine g_istore 163 (gd rfl) rfl (Nat.le_of_ble_eq_true rfl) ?_
                      refine g_aload_n 164 (gd rfl) rfl rfl ?_
                      refine g_getA (q2 := 160) 167 (gd rfl) rfl rfl rfl rfl ?_
                      refine g_aload_n 168 (gd rfl) rfl rfl ?_
                      refine g_getA (q2 := 113) 171 (gd rfl) rfl rfl rfl rfl ?_
                      refine g_aload_n 172 (gd rfl) rfl rfl ?_
                      refine g_getI 175 (gd rfl) rfl rfl rfl (fun z172 e172 => ?_)
                      have q172 : u_109_19 = z172 := (fr_F e_109_19 hFc74 rfl).trans e172.symm
                      subst q172
                      refine g_iload 177 (gd rfl) rfl rfl ?_
                      refine g_iadd 178 (gd rfl) rfl (fun z177 e177 => ?_)
                      have i177 := in_add 0 319 e177 ro_109_19 i79 rfl rfl
                      refine g_iaload 179 (gd rfl) rfl (n := 480) rfl (in_ix i177 rfl) (fun z178 e178 => ?_)
                      have i178 := inv_I hIc74 (n := 480) (t := 0) 0 31 rfl (in_ix i177 rfl) rfl e178
                      refine g_iload 181 (gd rfl) rfl rfl ?_
                      refine g_iastore 182 (gd rfl) rfl (n := 32) rfl (in_ix i178 rfl) ?_
                      have hI181 := inv_sI (q := 160) (j := z178.toNatClampNeg) hIc74 rfl (in_w 0 31 i144 rfl)
                      refine g_aload_n 183 (gd rfl) rfl rfl ?_
                      refine g_getA (q2 := 160) 186 (gd rfl) rfl rfl rfl rfl ?_
                      refine g_aload_n 187 (gd rfl) rfl rfl ?_
                      refine g_getA (q2 := 114) 190 (gd rfl) rfl rfl rfl rfl ?_
                      refine g_aload_n 191 (gd rfl) rfl rfl ?_
                      refine g_getI 194 (gd rfl) rfl rfl rfl (fun z191 e191 => ?_)
                      have q191 : u_109_19 = z191 := (sI_F (fr_F e_109_19 hFc74 rfl)).trans e191.symm
                      subst q191
                      refine g_iload 196 (gd rfl) rfl rfl ?_
                      refine g_iadd 197 (gd rfl) rfl (fun z196 e196 => ?_)
                      have i196 := in_add 0 319 e196 ro_109_19 i79 rfl rfl
                      refine g_iaload 198 (gd rfl) rfl (n := 480) rfl (in_ix i196 rfl) (fun z197 e197 => ?_)
                      have i197 := inv_I hI181 (n := 480) (t := 0) 0 31 rfl (in_ix i196 rfl) rfl e197
                      refine g_iload 200 (gd rfl) rfl rfl ?_
                      refine g_iastore 201 (gd rfl) rfl (n := 32) rfl (in_ix i197 rfl) ?_
                      have hI200 := inv_sI (q := 160) (j := z197.toNatClampNeg) hI181 rfl (in_w 0 31 i144 rfl)
                      exact gg_w (by first | exact Nat.le_add_right _ _ | exact gw2 | exact gw3 | exact gwe rfl | exact gwf rfl | exact gwg rfl | exact gwh rfl | omega) (gg_f (gf_cons rfl (gf_cons rfl (gf_cons rfl (gf_cons rfl (gf_cons rfl gf_nil))))) (ct201 (sI (sI sc74 160 z178.toNatClampNeg z144) 160 z197.toNatClampNeg z144)  hI200 (fr_sI rfl (fr_sI rfl hFc74)) (in_w 0 159 i79 rfl)))
                    · skip
                      have i151 := r_lt1 0 30 c151 i125 i144 rfl
                      have i151a := r_lt2 1 31 c151 i125 i144 rfl
                      refine g_iload 156 (gd rfl) rfl rfl ?_
                      refine g_goto 161 (gd rfl) rfl ?_
                      refine g_istore 163 (gd rfl) rfl (Nat.le_of_ble_eq_true rfl) ?_
                      refine g_aload_n 164 (gd rfl) rfl rfl ?_
                      refine g_getA (q2 := 160) 167 (gd rfl) rfl rfl rfl rfl ?_
                      refine g_aload_n 168 (gd rfl) rfl rfl ?_
                      refine g_getA (q2 := 113) 171 (gd rfl) rfl rfl rfl rfl ?_
                      refine g_aload_n 172 (gd rfl) rfl rfl ?_
                      refine g_getI 175 (gd rfl) rfl rfl rfl (fun z172 e172 => ?_)
                      have q172 : u_109_19 = z172 := (fr_F e_109_19 hFc74 rfl).trans e172.symm
                      subst q172
                      refine g_iload 177 (gd rfl) rfl rfl ?_
                      refine g_iadd 178 (gd rfl) rfl (fun z177 e177 => ?_)
                      have i177 := in_add 0 319 e177 ro_109_19 i79 rfl rfl
                      refine g_iaload 179 (gd rfl) rfl (n := 480) rfl (in_ix i177 rfl) (fun z178 e178 => ?_)
                      have i178 := inv_I hIc74 (n := 480) (t := 0) 0 31 rfl (in_ix i177 rfl) rfl e178
                      refine g_iload 181 (gd rfl) rfl rfl ?_
                      refine g_iastore 182 (gd rfl) rfl (n := 32) rfl (in_ix i178 rfl) ?_
                      have hI181 := inv_sI (q := 160) (j := z178.toNatClampNeg) hIc74 rfl (in_w 0 31 i151 rfl)
                      refine g_aload_n 183 (gd rfl) rfl rfl ?_
                      refine g_getA (q2 := 160) 186 (gd rfl) rfl rfl rfl rfl ?_
                      refine g_aload_n 187 (gd rfl) rfl rfl ?_
                      refine g_getA (q2 := 114) 190 (gd rfl) rfl rfl rfl rfl ?_
                      refine g_aload_n 191 (gd rfl) rfl rfl ?_
                      refine g_getI 194 (gd rfl) rfl rfl rfl (fun z191 e191 => ?_)
                      have q191 : u_109_19 = z191 := (sI_F (fr_F e_109_19 hFc74 rfl)).trans e191.symm
                      subst q191
                      refine g_iload 196 (gd rfl) rfl rfl ?_
                      refine g_iadd 197 (gd rfl) rfl (fun z196 e196 => ?_)
                      have i196 := in_add 0 319 e196 ro_109_19 i79 rfl rfl
                      refine g_iaload 198 (gd rfl) rfl (n := 480) rfl (in_ix i196 rfl) (fun z197 e197 => ?_)
                      have i197 := inv_I hI181 (n := 480) (t := 0) 0 31 rfl (in_ix i196 rfl) rfl e197
                      refine g_iload 200 (gd rfl) rfl rfl ?_
                      refine g_iastore 201 (gd rfl) rfl (n := 32) rfl (in_ix i197 rfl) ?_
                      have hI200 := inv_sI (q := 160) (j := z197.toNatClampNeg) hI181 rfl (in_w 0 31 i151 rfl)
                      exact gg_w (by first | exact Nat.le_add_right _ _ | exact gw2 | exact gw3 | exact gwe rfl | exact gwf rfl | exact gwg rfl | exact gwh rfl | omega) (gg_f (gf_cons rfl (gf_cons rfl (gf_cons rfl (gf_cons rfl (gf_cons rfl gf_nil))))) (ct201 (sI (sI sc74 160 z178.toNatClampNeg z125) 160 z197.toNatClampNeg z125)  hI200 (fr_sI rfl (fr_sI rfl hFc74)) (in_w 0 159 i79 rfl)))
      refine g_iload 64 (gd rfl) rfl rfl ?_
      refine g_aload_n 65 (gd rfl) rfl rfl ?_
      refine g_getI 68 (gd rfl) rfl rfl rfl (fun z65 e65 => ?_)
      have q65 : u_109_20 = z65 := (fr_F e_109_20 hFc62 rfl).trans e65.symm
      subst q65
      refine g_cmp_ge 71 213 (gd rfl) rfl rfl (fun c68 => ?_) (fun c68 => ?_)
      · skip
        refine g_aload_n 214 (gd rfl) rfl rfl ?_
        refine g_getA (q2 := 160) 217 (gd rfl) rfl rfl rfl rfl ?_
        refine g_aload_n 218 (gd rfl) rfl rfl ?_
        refine g_getA (q2 := 113) 221 (gd rfl) rfl rfl rfl rfl ?_
        refine g_aload_n 222 (gd rfl) rfl rfl ?_
        refine g_getI 225 (gd rfl) rfl rfl rfl (fun z222 e222 => ?_)
        have q222 : u_109_19 = z222 := (fr_F e_109_19 hFc62 rfl).trans e222.symm
        subst q222
        refine g_iload_n 226 (gd rfl) rfl rfl ?_
        refine g_iadd 227 (gd rfl) rfl (fun z226 e226 => ?_)
        have i226 := in_add 0 319 e226 ro_109_19 j62_1 rfl rfl
        refine g_iaload 228 (gd rfl) rfl (n := 480) rfl (in_ix i226 rfl) (fun z227 e227 => ?_)
        have i227 := inv_I hIc62 (n := 480) (t := 0) 0 31 rfl (in_ix i226 rfl) rfl e227
        refine g_iaload 229 (gd rfl) rfl (n := 32) rfl (in_ix i227 rfl) (fun z228 e228 => ?_)
        have i228 := inv_I hIc62 (n := 32) (t := 0) 0 31 rfl (in_ix i227 rfl) rfl e228
        refine g_aload_n 230 (gd rfl) rfl rfl ?_
        refine g_getA (q2 := 160) 233 (gd rfl) rfl rfl rfl rfl ?_
        refine g_aload_n 234 (gd rfl) rfl rfl ?_
        refine g_getA (q2 := 114) 237 (gd rfl) rfl rfl rfl rfl ?_
        refine g_aload_n 238 (gd rfl) rfl rfl ?_
        refine g_getI 241 (gd rfl) rfl rfl rfl (fun z238 e238 => ?_)
        have q238 : u_109_19 = z238 := (fr_F e_109_19 hFc62 rfl).trans e238.symm
        subst q238
        refine g_iload_n 242 (gd rfl) rfl rfl ?_
        refine g_iadd 243 (gd rfl) rfl (fun z242 e242 => ?_)
        have i242 := in_add 0 319 e242 ro_109_19 j62_1 rfl rfl
        refine g_iaload 244 (gd rfl) rfl (n := 480) rfl (in_ix i242 rfl) (fun z243 e243 => ?_)
        have i243 := inv_I hIc62 (n := 480) (t := 0) 0 31 rfl (in_ix i242 rfl) rfl e243
        refine g_iaload 245 (gd rfl) rfl (n := 32) rfl (in_ix i243 rfl) (fun z244 e244 => ?_)
        have i244 := inv_I hIc62 (n := 32) (t := 0) 0 31 rfl (in_ix i243 rfl) rfl e244
        refine g_cmp_eq 248 252 (gd rfl) rfl rfl (fun c245 => ?_) (fun c245 => ?_)
        · skip
          refine g_iconst 0 253 (gd rfl) rfl rfl ?_
          exact g_ireturn (gd rfl) rfl (nb01 (in_w 0 1 (in_c 0 rfl) rfl)) (hP _ _ ⟨sc62, hIc62, hFc62, (Int32.ofInt 0), rfl, rfl, in_w 0 1 (in_c 0 rfl) rfl⟩)
        · skip
          refine g_iconst 1 249 (gd rfl) rfl rfl ?_
          refine g_goto 253 (gd rfl) rfl ?_
          exact g_ireturn (gd rfl) rfl (nb01 (in_w 0 1 (in_c 1 rfl) rfl)) (hP _ _ ⟨sc62, hIc62, hFc62, (Int32.ofInt 1), rfl, rfl, in_w 0 1 (in_c 1 rfl) rfl⟩)
      · skip
        have i68 := r_lt1 0 31 c68 j62_4 ro_109_20 rfl
        have i68a := r_lt2 1 32 c68 j62_4 ro_109_20 rfl
        refine g_iconst 0 72 (gd rfl) rfl rfl ?_
        refine g_istore 74 (gd rfl) rfl (Nat.le_of_ble_eq_true rfl) ?_
        exact gg_w (by first | exact Nat.le_add_right _ _ | exact gw2 | exact gw3 | exact gwe rfl | exact gwf rfl | exact gwg rfl | exact gwh rfl | omega) (gg_f (gf_cons rfl (gf_cons rfl (gf_cons rfl (gf_cons rfl (gf_cons rfl gf_nil))))) (ct74 161 sc62 (Int32.ofInt 0) hIc62 hFc62 (in_w 0 31 i68 rfl) (in_w 0 160 (in_c 0 rfl) rfl) (m_in 161 (in_w 0 160 (in_c 0 rfl) rfl) rfl)))
  have ct26 : ∀ (k26 : Nat) (sc26 : GS) (y26_2 : Int32), Inv sc26 → Fr fm_365 s sc26 → (In x1 0 159) → (In y26_2 0 32) → 32 - (y26_2).toInt < (k26 : Int) → GG Z (d - 1) 365 post (gx xp) (9687581 + k26 * 900) 26 (fun j => xlook j [(0, .ref (A 109)), (1, .int x1), (2, .int y26_2)]) [] (WW Z A sc26 ++ ex) 0 0 := by
    intro k26
    induction k26 with
    | zero => intro sc26 y26_2 hIc26 hFc26 j26_1 j26_2 mm26; exact m_no mm26 j26_2 rfl
    | succ k26 ih26 =>
      intro sc26 y26_2 hIc26 hFc26 j26_1 j26_2 mm26
      refine gg_w (M := 9687581 + k26 * 900 + 900) gws ?_
      refine g_iload_n 27 (gd rfl) rfl rfl ?_
      refine g_aload_n 28 (gd rfl) rfl rfl ?_
      refine g_getI 31 (gd rfl) rfl rfl rfl (fun z28 e28 => ?_)
      have q28 : u_109_20 = z28 := (fr_F e_109_20 hFc26 rfl).trans e28.symm
      subst q28
      refine g_cmp_ge 34 47 (gd rfl) rfl rfl (fun c31 => ?_) (fun c31 => ?_)
      · skip
        refine g_aload_n 48 (gd rfl) rfl rfl ?_
        refine g_aload_n 49 (gd rfl) rfl rfl ?_
        refine g_getI 52 (gd rfl) rfl rfl rfl (fun z49 e49 => ?_)
        have q49 : u_109_19 = z49 := (fr_F e_109_19 hFc26 rfl).trans e49.symm
        subst q49
        refine g_iload_n 53 (gd rfl) rfl rfl ?_
        refine g_iadd 54 (gd rfl) rfl (fun z53 e53 => ?_)
        have i53 := in_add 0 319 e53 ro_109_19 j26_1 rfl rfl
        refine g_iload_n 55 (gd rfl) rfl rfl ?_
        refine g_callv (X := _) (As := [.int z53, .int x1]) (r := []) (b := A 109) (q := 109) 58 (gd rfl) rfl rfl rfl rfl rfl (ww_o rfl) (Nat.le_of_ble_eq_true rfl) (mc := 0) (ms := 0) (Nat.zero_le _) (Nat.zero_le _) (P := fun v u => _) ?_ (fun e u h => h) (fun v u h => h)
        intro po55 xx55 hp55 hx55
        refine g_enter2 (k := 366) (N := 300) (by first | exact dq1 hd rfl | exact dq0 hd rfl | exact dq2 hd rfl | exact dq3 hd rfl | omega) rfl (Nat.le_of_ble_eq_true rfl) ?_
        refine g_ldc2_w 1000 3 (gd rfl) rfl rfl ?_
        refine g_aload_n 4 (gd rfl) rfl rfl ?_
        refine g_getA (q2 := 115) 7 (gd rfl) rfl rfl rfl rfl ?_
        refine g_iload_n 8 (gd rfl) rfl rfl ?_
        refine g_iaload 9 (gd rfl) rfl (n := 480) rfl (in_ix i53 rfl) (fun z55x8 e55x8 => ?_)
        have i55x8 := inv_I hIc26 (n := 480) (t := 0) (-1000000) 1000000 rfl (in_ix i53 rfl) rfl e55x8
        refine g_i2l 10 (gd rfl) rfl (fun z55x9 e55x9 => ?_)
        have i55x9 := l_i e55x9 i55x8
        refine g_ldc2_w 1000000 13 (gd rfl) rfl rfl ?_
        refine g_ladd 14 (gd rfl) rfl (fun z55x13 e55x13 => ?_)
        have i55x13 := l_add 0 2000000 e55x13 i55x9 (l_c 1000000 rfl) rfl
        refine g_lmul 15 (gd rfl) rfl (fun z55x14 e55x14 => ?_)
        have i55x14 := l_mulc 1000 0 2000000000 (Or.inl e55x14) i55x13 rfl
        refine g_iload_n 16 (gd rfl) rfl rfl ?_
        refine g_i2l 17 (gd rfl) rfl (fun z55x16 e55x16 => ?_)
        have i55x16 := l_i e55x16 j26_1
        refine g_ladd 18 (gd rfl) rfl (fun z55x17 e55x17 => ?_)
        have i55x17 := l_add 0 2000000159 e55x17 i55x14 i55x16 rfl
        refine g_lreturn (gd rfl) rfl (hp55 _ _ ?_)
        show GG _ _ _ _ _ _ _ _ [.long z55x17] _ _ _
        refine g_lstore_n 59 (gd rfl) rfl (Nat.le_of_ble_eq_true rfl) ?_
        refine g_iconst 0 60 (gd rfl) rfl rfl ?_
        refine g_istore 62 (gd rfl) rfl (Nat.le_of_ble_eq_true rfl) ?_
        exact gg_w (by first | exact Nat.le_add_right _ _ | exact gw2 | exact gw3 | exact gwe rfl | exact gwf rfl | exact gwg rfl | exact gwh rfl | omega) (gg_f (gf_cons rfl (gf_cons rfl (gf_cons rfl (gf_cons rfl gf_nil)))) (ct62 33 sc26 z55x17 (Int32.ofInt 0) hIc26 hFc26 (in_w 0 159 j26_1 rfl) (in_w 0 32 (in_c 0 rfl) rfl) (m_in 33 (in_w 0 32 (in_c 0 rfl) rfl) rfl)))
      · skip
        have i31 := r_lt1 0 31 c31 j26_2 ro_109_20 rfl
        have i31a := r_lt2 1 32 c31 j26_2 ro_109_20 rfl
        refine g_aload_n 35 (gd rfl) rfl rfl ?_
        refine g_getA (q2 := 160) 38 (gd rfl) rfl rfl rfl rfl ?_
        refine g_iload_n 39 (gd rfl) rfl rfl ?_
        refine g_iload_n 40 (gd rfl) rfl rfl ?_
        refine g_iastore 41 (gd rfl) rfl (n := 32) rfl (in_ix i31 rfl) ?_
        have hI40 := inv_sI (q := 160) (j := y26_2.toNatClampNeg) hIc26 rfl (in_w 0 31 i31 rfl)
        refine g_iinc 44 (gd rfl) rfl rfl (Nat.le_of_ble_eq_true rfl) (fun z41 e41 => ?_)
        have i41 := in_add 1 32 e41 i31 (in_c 1 rfl) rfl rfl
        refine g_goto 26 (gd rfl) rfl ?_
        exact gg_w (by first | exact Nat.le_add_right _ _ | exact gw2 | exact gw3 | exact gwe rfl | exact gwf rfl | exact gwg rfl | exact gwh rfl | omega) (gg_f (gf_cons rfl (gf_cons rfl (gf_cons rfl gf_nil))) (ih26 (sI sc26 160 y26_2.toNatClampNeg y26_2) z41 hI40 (fr_sI rfl hFc26) (in_w 0 159 j26_1 rfl) (in_w 0 32 i41 rfl) (m_up mm26 (t_add e41 i31 (in_c 1 rfl) rfl) (in_w 1 1 (in_c 1 rfl) rfl))))
  refine g_enter2 (k := 365) (N := 9718181) (by first | exact dq1 hd rfl | exact dq0 hd rfl | exact dq2 hd rfl | exact dq3 hd rfl | omega) rfl (Nat.le_of_ble_eq_true rfl) ?_
  refine g_aload_n 1 (gd rfl) rfl rfl ?_
  refine g_aload_n 2 (gd rfl) rfl rfl ?_
  refine g_iload_n 3 (gd rfl) rfl rfl ?_
  refine g_callv (X := _) (As := [.int x1]) (r := [.ref (A 109)]) (b := A 109) (q := 109) 6 (gd rfl) rfl rfl rfl rfl rfl (ww_o rfl) (Nat.le_of_ble_eq_true rfl) (mc := 0) (ms := 0) (Nat.zero_le _) (Nat.zero_le _) (P := fun v u => _) ?_ (fun e u h => h) (fun v u h => h)
  intro po3 xx3 hp3 hx3
  refine g_enter2 (k := 273) (N := 300) (by first | exact dq1 hd rfl | exact dq0 hd rfl | exact dq2 hd rfl | exact dq3 hd rfl | omega) rfl (Nat.le_of_ble_eq_true rfl) ?_
  refine g_iload_n 1 (gd rfl) rfl rfl ?_
  refine g_if_lt 4 29 (gd rfl) rfl rfl (fun c3x1 => ?_) (fun c3x1 => ?_)
  · skip
    have i3x1 := z_lt (-2147483648) (-1) c3x1 (i_rng x1) rfl
    refine g_iconst 0 30 (gd rfl) rfl rfl ?_
    refine g_ireturn (gd rfl) rfl (nb01 (in_w 0 1 (in_c 0 rfl) rfl)) (hp3 _ _ ?_)
    show GG _ _ _ _ _ _ _ _ [.int (Int32.ofInt 0), .ref (A 109)] _ _ _
    refine g_callv (X := _) (As := [.int (Int32.ofInt 0)]) (r := []) (b := A 109) (q := 109) 9 (gd rfl) rfl rfl rfl rfl rfl (ww_o rfl) (Nat.le_of_ble_eq_true rfl) (mc := 0) (ms := 0) (Nat.zero_le _) (Nat.zero_le _) (P := fun v u => _) ?_ (fun e u h => h) (fun v u h => h)
    intro po6 xx6 hp6 hx6
    refine g_enter2 (k := 271) (N := 300) (by first | exact dq1 hd rfl | exact dq0 hd rfl | exact dq2 hd rfl | exact dq3 hd rfl | omega) rfl (Nat.le_of_ble_eq_true rfl) ?_
    refine g_aload_n 1 (gd rfl) rfl rfl ?_
    refine g_iload_n 2 (gd rfl) rfl rfl ?_
    refine g_iconst 1 3 (gd rfl) rfl rfl ?_
    refine g_callv (X := _) (As := [.int (Int32.ofInt 0), .int (Int32.ofInt 1)]) (r := []) (b := A 109) (q := 109) 6 (gd rfl) rfl rfl rfl rfl rfl (ww_o rfl) (Nat.le_of_ble_eq_true rfl) (mc := 0) (ms := 0) (Nat.zero_le _) (Nat.zero_le _) (P := fun v u => _) ?_ (fun e u h => h) (fun v u h => h)
    intro po6x3 xx6x3 hp6x3 hx6x3
    refine g_enter2 (k := 270) (N := 300) (by first | exact dq1 hd rfl | exact dq0 hd rfl | exact dq2 hd rfl | exact dq3 hd rfl | omega) rfl (Nat.le_of_ble_eq_true rfl) ?_
    refine g_aload_n 1 (gd rfl) rfl rfl ?_
    refine g_iload_n 2 (gd rfl) rfl rfl ?_
    refine g_if_ne 5 9 (gd rfl) rfl rfl (fun c6x3x2 => ?_) (fun c6x3x2 => ?_)
    · skip
      exact zn_ne c6x3x2 (in_c 0 rfl) rfl
    · skip
      refine g_iconst 1 6 (gd rfl) rfl rfl ?_
      refine g_goto 18 (gd rfl) rfl ?_
      refine g_putI 21 (gd rfl) rfl rfl rfl rfl ?_
      have hI6x3x18 := inv_sF (q := 109) (j := 0) hI rfl (in_w 0 2 (in_c 1 rfl) rfl)
      refine g_aload_n 22 (gd rfl) rfl rfl ?_
      refine g_getI 25 (gd rfl) rfl rfl rfl (fun z6x3x22 e6x3x22 => ?_)
      have q6x3x22 : (Int32.ofInt 1) = z6x3x22 := (sF_get).trans e6x3x22.symm
      subst q6x3x22
      refine g_if_le 28 32 (gd rfl) rfl rfl (fun c6x3x25 => ?_) (fun c6x3x25 => ?_)
      · skip
        exact zn_le c6x3x25 (in_c 1 rfl) rfl
      · skip
        refine g_iconst 1 29 (gd rfl) rfl rfl ?_
        refine g_goto 33 (gd rfl) rfl ?_
        refine g_ireturn (gd rfl) rfl (nb01 (in_w 0 1 (in_c 1 rfl) rfl)) (hp6x3 _ _ ?_)
        show GG _ _ _ _ _ _ _ _ [.int (Int32.ofInt 1)] _ _ _
        refine g_ireturn (gd rfl) rfl (nb01 (in_w 0 1 (in_c 1 rfl) rfl)) (hp6 _ _ ?_)
        show GG _ _ _ _ _ _ _ _ [.int (Int32.ofInt 1)] _ _ _
        refine g_if_eq 12 14 (gd rfl) rfl rfl (fun c9 => ?_) (fun c9 => ?_)
        · skip
          exact zn_eq c9 (in_c 1 rfl) rfl
        · skip
          refine g_iconst 0 13 (gd rfl) rfl rfl ?_
          exact g_ireturn (gd rfl) rfl (nb01 (in_w 0 1 (in_c 0 rfl) rfl)) (hP _ _ ⟨(sF s 109 0 (Int32.ofInt 1)), hI6x3x18, (fr_sF rfl fr_rf), (Int32.ofInt 0), rfl, rfl, in_w 0 1 (in_c 0 rfl) rfl⟩)
  · skip
    have i3x1 := z_ge 0 2147483647 c3x1 (i_rng x1) rfl
    refine g_iload_n 5 (gd rfl) rfl rfl ?_
    refine g_sipush 160 8 (gd rfl) rfl rfl ?_
    refine g_cmp_ge 11 29 (gd rfl) rfl rfl (fun c3x8 => ?_) (fun c3x8 => ?_)
    · skip
      have i3x8 := r_le2 160 2147483647 c3x8 (in_c 160 rfl) i3x1 rfl
      refine g_iconst 0 30 (gd rfl) rfl rfl ?_
      refine g_ireturn (gd rfl) rfl (nb01 (in_w 0 1 (in_c 0 rfl) rfl)) (hp3 _ _ ?_)
      show GG _ _ _ _ _ _ _ _ [.int (Int32.ofInt 0), .ref (A 109)] _ _ _
      refine g_callv (X := _) (As := [.int (Int32.ofInt 0)]) (r := []) (b := A 109) (q := 109) 9 (gd rfl) rfl rfl rfl rfl rfl (ww_o rfl) (Nat.le_of_ble_eq_true rfl) (mc := 0) (ms := 0) (Nat.zero_le _) (Nat.zero_le _) (P := fun v u => _) ?_ (fun e u h => h) (fun v u h => h)
      intro po6 xx6 hp6 hx6
      refine g_enter2 (k := 271) (N := 300) (by first | exact dq1 hd rfl | exact dq0 hd rfl | exact dq2 hd rfl | exact dq3 hd rfl | omega) rfl (Nat.le_of_ble_eq_true rfl) ?_
      refine g_aload_n 1 (gd rfl) rfl rfl ?_
      refine g_iload_n 2 (gd rfl) rfl rfl ?_
      refine g_iconst 1 3 (gd rfl) rfl rfl ?_
      refine g_callv (X := _) (As := [.int (Int32.ofInt 0), .int (Int32.ofInt 1)]) (r := []) (b := A 109) (q := 109) 6 (gd rfl) rfl rfl rfl rfl rfl (ww_o rfl) (Nat.le_of_ble_eq_true rfl) (mc := 0) (ms := 0) (Nat.zero_le _) (Nat.zero_le _) (P := fun v u => _) ?_ (fun e u h => h) (fun v u h => h)
      intro po6x3 xx6x3 hp6x3 hx6x3
      refine g_enter2 (k := 270) (N := 300) (by first | exact dq1 hd rfl | exact dq0 hd rfl | exact dq2 hd rfl | exact dq3 hd rfl | omega) rfl (Nat.le_of_ble_eq_true rfl) ?_
      refine g_aload_n 1 (gd rfl) rfl rfl ?_
      refine g_iload_n 2 (gd rfl) rfl rfl ?_
      refine g_if_ne 5 9 (gd rfl) rfl rfl (fun c6x3x2 => ?_) (fun c6x3x2 => ?_)
      · skip
        exact zn_ne c6x3x2 (in_c 0 rfl) rfl
      · skip
        refine g_iconst 1 6 (gd rfl) rfl rfl ?_
        refine g_goto 18 (gd rfl) rfl ?_
        refine g_putI 21 (gd rfl) rfl rfl rfl rfl ?_
        have hI6x3x18 := inv_sF (q := 109) (j := 0) hI rfl (in_w 0 2 (in_c 1 rfl) rfl)
        refine g_aload_n 22 (gd rfl) rfl rfl ?_
        refine g_getI 25 (gd rfl) rfl rfl rfl (fun z6x3x22 e6x3x22 => ?_)
        have q6x3x22 : (Int32.ofInt 1) = z6x3x22 := (sF_get).trans e6x3x22.symm
        subst q6x3x22
        refine g_if_le 28 32 (gd rfl) rfl rfl (fun c6x3x25 => ?_) (fun c6x3x25 => ?_)
        · skip
          exact zn_le c6x3x25 (in_c 1 rfl) rfl
        · skip
          refine g_iconst 1 29 (gd rfl) rfl rfl ?_
          refine g_goto 33 (gd rfl) rfl ?_
          refine g_ireturn (gd rfl) rfl (nb01 (in_w 0 1 (in_c 1 rfl) rfl)) (hp6x3 _ _ ?_)
          show GG _ _ _ _ _ _ _ _ [.int (Int32.ofInt 1)] _ _ _
          refine g_ireturn (gd rfl) rfl (nb01 (in_w 0 1 (in_c 1 rfl) rfl)) (hp6 _ _ ?_)
          show GG _ _ _ _ _ _ _ _ [.int (Int32.ofInt 1)] _ _ _
          refine g_if_eq 12 14 (gd rfl) rfl rfl (fun c9 => ?_) (fun c9 => ?_)
          · skip
            exact zn_eq c9 (in_c 1 rfl) rfl
          · skip
            refine g_iconst 0 13 (gd rfl) rfl rfl ?_
            exact g_ireturn (gd rfl) rfl (nb01 (in_w 0 1 (in_c 0 rfl) rfl)) (hP _ _ ⟨(sF s 109 0 (Int32.ofInt 1)), hI6x3x18, (fr_sF rfl fr_rf), (Int32.ofInt 0), rfl, rfl, in_w 0 1 (in_c 0 rfl) rfl⟩)
    · skip
      have i3x8 := r_lt1 0 159 c3x8 i3x1 (in_c 160 rfl) rfl
      refine g_aload_n 12 (gd rfl) rfl rfl ?_
      refine g_getA (q2 := 112) 15 (gd rfl) rfl rfl rfl rfl ?_
      refine g_aload_n 16 (gd rfl) rfl rfl ?_
      refine g_getI 19 (gd rfl) rfl rfl rfl (fun z3x16 e3x16 => ?_)
      have q3x16 : u_109_19 = z3x16 := (e_109_19).trans e3x16.symm
      subst q3x16
      refine g_iload_n 20 (gd rfl) rfl rfl ?_
      refine g_iadd 21 (gd rfl) rfl (fun z3x20 e3x20 => ?_)
      have i3x20 := in_add 0 319 e3x20 ro_109_19 i3x8 rfl rfl
      refine g_baload 22 (gd rfl) rfl (n := 480) rfl (in_ix i3x20 rfl) (fun z3x21 e3x21 => ?_)
      have i3x21 := inv_I hI (n := 480) (t := 3) 0 1 rfl (in_ix i3x20 rfl) rfl e3x21
      refine g_if_eq 25 29 (gd rfl) rfl rfl (fun c3x22 => ?_) (fun c3x22 => ?_)
      · skip
        have i3x22 := z_eq 0 0 c3x22 i3x21 rfl
        refine g_iconst 0 30 (gd rfl) rfl rfl ?_
        refine g_ireturn (gd rfl) rfl (nb01 (in_w 0 1 (in_c 0 rfl) rfl)) (hp3 _ _ ?_)
        show GG _ _ _ _ _ _ _ _ [.int (Int32.ofInt 0), .ref (A 109)] _ _ _
        refine g_callv (X := _) (As := [.int (Int32.ofInt 0)]) (r := []) (b := A 109) (q := 109) 9 (gd rfl) rfl rfl rfl rfl rfl (ww_o rfl) (Nat.le_of_ble_eq_true rfl) (mc := 0) (ms := 0) (Nat.zero_le _) (Nat.zero_le _) (P := fun v u => _) ?_ (fun e u h => h) (fun v u h => h)
        intro po6 xx6 hp6 hx6
        refine g_enter2 (k := 271) (N := 300) (by first | exact dq1 hd rfl | exact dq0 hd rfl | exact dq2 hd rfl | exact dq3 hd rfl | omega) rfl (Nat.le_of_ble_eq_true rfl) ?_
        refine g_aload_n 1 (gd rfl) rfl rfl ?_
        refine g_iload_n 2 (gd rfl) rfl rfl ?_
        refine g_iconst 1 3 (gd rfl) rfl rfl ?_
        refine g_callv (X := _) (As := [.int (Int32.ofInt 0), .int (Int32.ofInt 1)]) (r := []) (b := A 109) (q := 109) 6 (gd rfl) rfl rfl rfl rfl rfl (ww_o rfl) (Nat.le_of_ble_eq_true rfl) (mc := 0) (ms := 0) (Nat.zero_le _) (Nat.zero_le _) (P := fun v u => _) ?_ (fun e u h => h) (fun v u h => h)
        intro po6x3 xx6x3 hp6x3 hx6x3
        refine g_enter2 (k := 270) (N := 300) (by first | exact dq1 hd rfl | exact dq0 hd rfl | exact dq2 hd rfl | exact dq3 hd rfl | omega) rfl (Nat.le_of_ble_eq_true rfl) ?_
        refine g_aload_n 1 (gd rfl) rfl rfl ?_
        refine g_iload_n 2 (gd rfl) rfl rfl ?_
        refine g_if_ne 5 9 (gd rfl) rfl rfl (fun c6x3x2 => ?_) (fun c6x3x2 => ?_)
        · skip
          exact zn_ne c6x3x2 (in_c 0 rfl) rfl
        · skip
          refine g_iconst 1 6 (gd rfl) rfl rfl ?_
          refine g_goto 18 (gd rfl) rfl ?_
          refine g_putI 21 (gd rfl) rfl rfl rfl rfl ?_
          have hI6x3x18 := inv_sF (q := 109) (j := 0) hI rfl (in_w 0 2 (in_c 1 rfl) rfl)
          refine g_aload_n 22 (gd rfl) rfl rfl ?_
          refine g_getI 25 (gd rfl) rfl rfl rfl (fun z6x3x22 e6x3x22 => ?_)
          have q6x3x22 : (Int32.ofInt 1) = z6x3x22 := (sF_get).trans e6x3x22.symm
          subst q6x3x22
          refine g_if_le 28 32 (gd rfl) rfl rfl (fun c6x3x25 => ?_) (fun c6x3x25 => ?_)
          · skip
            exact zn_le c6x3x25 (in_c 1 rfl) rfl
          · skip
            refine g_iconst 1 29 (gd rfl) rfl rfl ?_
            refine g_goto 33 (gd rfl) rfl ?_
            refine g_ireturn (gd rfl) rfl (nb01 (in_w 0 1 (in_c 1 rfl) rfl)) (hp6x3 _ _ ?_)
            show GG _ _ _ _ _ _ _ _ [.int (Int32.ofInt 1)] _ _ _
            refine g_ireturn (gd rfl) rfl (nb01 (in_w 0 1 (in_c 1 rfl) rfl)) (hp6 _ _ ?_)
            show GG _ _ _ _ _ _ _ _ [.int (Int32.ofInt 1)] _ _ _
            refine g_if_eq 12 14 (gd rfl) rfl rfl (fun c9 => ?_) (fun c9 => ?_)
            · skip
              exact zn_eq c9 (in_c 1 rfl) rfl
            · skip
              refine g_iconst 0 13 (gd rfl) rfl rfl ?_
              exact g_ireturn (gd rfl) rfl (nb01 (in_w 0 1 (in_c 0 rfl) rfl)) (hP _ _ ⟨(sF s 109 0 (Int32.ofInt 1)), hI6x3x18, (fr_sF rfl fr_rf), (Int32.ofInt 0), rfl, rfl, in_w 0 1 (in_c 0 rfl) rfl⟩)
      · skip
        have i3x22 := z_ne 1 1 c3x22 i3x21 rfl
        refine g_iconst 1 26 (gd rfl) rfl rfl ?_
        refine g_goto 30 (gd rfl) rfl ?_
        refine g_ireturn (gd rfl) rfl (nb01 (in_w 0 1 (in_c 1 rfl) rfl)) (hp3 _ _ ?_)
        show GG _ _ _ _ _ _ _ _ [.int (Int32.ofInt 1), .ref (A 109)] _ _ _
        refine g_callv (X := _) (As := [.int (Int32.ofInt 1)]) (r := []) (b := A 109) (q := 109) 9 (gd rfl) rfl rfl rfl rfl rfl (ww_o rfl) (Nat.le_of_ble_eq_true rfl) (mc := 0) (ms := 0) (Nat.zero_le _) (Nat.zero_le _) (P := fun v u => _) ?_ (fun e u h => h) (fun v u h => h)
        intro po6 xx6 hp6 hx6
        refine g_enter2 (k := 271) (N := 300) (by first | exact dq1 hd rfl | exact dq0 hd rfl | exact dq2 hd rfl | exact dq3 hd rfl | omega) rfl (Nat.le_of_ble_eq_true rfl) ?_
        refine g_aload_n 1 (gd rfl) rfl rfl ?_
        refine g_iload_n 2 (gd rfl) rfl rfl ?_
        refine g_iconst 1 3 (gd rfl) rfl rfl ?_
        refine g_callv (X := _) (As := [.int (Int32.ofInt 1), .int (Int32.ofInt 1)]) (r := []) (b := A 109) (q := 109) 6 (gd rfl) rfl rfl rfl rfl rfl (ww_o rfl) (Nat.le_of_ble_eq_true rfl) (mc := 0) (ms := 0) (Nat.zero_le _) (Nat.zero_le _) (P := fun v u => _) ?_ (fun e u h => h) (fun v u h => h)
        intro po6x3 xx6x3 hp6x3 hx6x3
        refine g_enter2 (k := 270) (N := 300) (by first | exact dq1 hd rfl | exact dq0 hd rfl | exact dq2 hd rfl | exact dq3 hd rfl | omega) rfl (Nat.le_of_ble_eq_true rfl) ?_
        refine g_aload_n 1 (gd rfl) rfl rfl ?_
        refine g_iload_n 2 (gd rfl) rfl rfl ?_
        refine g_if_ne 5 9 (gd rfl) rfl rfl (fun c6x3x2 => ?_) (fun c6x3x2 => ?_)
        · skip
          refine g_iload_n 10 (gd rfl) rfl rfl ?_
          refine g_if_ne 13 17 (gd rfl) rfl rfl (fun c6x3x10 => ?_) (fun c6x3x10 => ?_)
          · skip
            refine g_iconst 0 18 (gd rfl) rfl rfl ?_
            refine g_putI 21 (gd rfl) rfl rfl rfl rfl ?_
            have hI6x3x18 := inv_sF (q := 109) (j := 0) hI rfl (in_w 0 2 (in_c 0 rfl) rfl)
            refine g_aload_n 22 (gd rfl) rfl rfl ?_
            refine g_getI 25 (gd rfl) rfl rfl rfl (fun z6x3x22 e6x3x22 => ?_)
            have q6x3x22 : (Int32.ofInt 0) = z6x3x22 := (sF_get).trans e6x3x22.symm
            subst q6x3x22
            refine g_if_le 28 32 (gd rfl) rfl rfl (fun c6x3x25 => ?_) (fun c6x3x25 => ?_)
            · skip
              refine g_iconst 0 33 (gd rfl) rfl rfl ?_
              refine g_ireturn (gd rfl) rfl (nb01 (in_w 0 1 (in_c 0 rfl) rfl)) (hp6x3 _ _ ?_)
              show GG _ _ _ _ _ _ _ _ [.int (Int32.ofInt 0)] _ _ _
              refine g_ireturn (gd rfl) rfl (nb01 (in_w 0 1 (in_c 0 rfl) rfl)) (hp6 _ _ ?_)
              show GG _ _ _ _ _ _ _ _ [.int (Int32.ofInt 0)] _ _ _
              refine g_if_eq 12 14 (gd rfl) rfl rfl (fun c9 => ?_) (fun c9 => ?_)
              · skip
                refine g_aload_n 15 (gd rfl) rfl rfl ?_
                refine g_iload_n 16 (gd rfl) rfl rfl ?_
                refine g_callv (X := _) (As := [.int x1]) (r := []) (b := A 109) (q := 109) 19 (gd rfl) rfl rfl rfl rfl rfl (ww_o rfl) (Nat.le_of_ble_eq_true rfl) (mc := 0) (ms := 0) (Nat.zero_le _) (Nat.zero_le _) (P := fun v u => _) ?_ (fun e u h => h) (fun v u h => h)
                intro po16 xx16 hp16 hx16
                refine g_enter2 (k := 288) (N := 300) (by first | exact dq1 hd rfl | exact dq0 hd rfl | exact dq2 hd rfl | exact dq3 hd rfl | omega) rfl (Nat.le_of_ble_eq_true rfl) ?_
                refine g_aload_n 1 (gd rfl) rfl rfl ?_
                refine g_getA (q2 := 112) 4 (gd rfl) rfl rfl rfl rfl ?_
                refine g_aload_n 5 (gd rfl) rfl rfl ?_
                refine g_getI 8 (gd rfl) rfl rfl rfl (fun z16x5 e16x5 => ?_)
                have q16x5 : u_109_19 = z16x5 := (sF_ne rfl (e_109_19)).trans e16x5.symm
                subst q16x5
                refine g_iload_n 9 (gd rfl) rfl rfl ?_
                refine g_iadd 10 (gd rfl) rfl (fun z16x9 e16x9 => ?_)
                have i16x9 := in_add 0 319 e16x9 ro_109_19 i3x8 rfl rfl
                refine g_baload 11 (gd rfl) rfl (n := 480) rfl (in_ix i16x9 rfl) (fun z16x10 e16x10 => ?_)
                have i16x10 := inv_I hI6x3x18 (n := 480) (t := 3) 0 1 rfl (in_ix i16x9 rfl) rfl e16x10
                refine g_if_eq 14 43 (gd rfl) rfl rfl (fun c16x11 => ?_) (fun c16x11 => ?_)
                · skip
                  have i16x11 := z_eq 0 0 c16x11 i16x10 rfl
                  refine g_iconst 0 44 (gd rfl) rfl rfl ?_
                  refine g_ireturn (gd rfl) rfl (nb01 (in_w 0 1 (in_c 0 rfl) rfl)) (hp16 _ _ ?_)
                  show GG _ _ _ _ _ _ _ _ [.int (Int32.ofInt 0)] _ _ _
                  refine g_if_ne 22 24 (gd rfl) rfl rfl (fun c19 => ?_) (fun c19 => ?_)
                  · skip
                    exact zn_ne c19 (in_c 0 rfl) rfl
                  · skip
                    refine g_iconst 0 23 (gd rfl) rfl rfl ?_
                    exact g_ireturn (gd rfl) rfl (nb01 (in_w 0 1 (in_c 0 rfl) rfl)) (hP _ _ ⟨(sF s 109 0 (Int32.ofInt 0)), hI6x3x18, (fr_sF rfl fr_rf), (Int32.ofInt 0), rfl, rfl, in_w 0 1 (in_c 0 rfl) rfl⟩)
                · skip
                  have i16x11 := z_ne 1 1 c16x11 i16x10 rfl
                  refine g_aload_n 15 (gd rfl) rfl rfl ?_
                  refine g_getA (q2 := 113) 18 (gd rfl) rfl rfl rfl rfl ?_
                  refine g_aload_n 19 (gd rfl) rfl rfl ?_
                  refine g_getI 22 (gd rfl) rfl rfl rfl (fun z16x19 e16x19 => ?_)
                  have q16x19 : u_109_19 = z16x19 := (sF_ne rfl (e_109_19)).trans e16x19.symm
                  subst q16x19
                  refine g_iload_n 23 (gd rfl) rfl rfl ?_
                  refine g_iadd 24 (gd rfl) rfl (fun z16x23 e16x23 => ?_)
                  have i16x23 := in_add 0 319 e16x23 ro_109_19 i3x8 rfl rfl
                  refine g_iaload 25 (gd rfl) rfl (n := 480) rfl (in_ix i16x23 rfl) (fun z16x24 e16x24 => ?_)
                  have i16x24 := inv_I hI6x3x18 (n := 480) (t := 0) 0 31 rfl (in_ix i16x23 rfl) rfl e16x24
                  refine g_aload_n 26 (gd rfl) rfl rfl ?_
                  refine g_getA (q2 := 114) 29 (gd rfl) rfl rfl rfl rfl ?_
                  refine g_aload_n 30 (gd rfl) rfl rfl ?_
                  refine g_getI 33 (gd rfl) rfl rfl rfl (fun z16x30 e16x30 => ?_)
                  have q16x30 : u_109_19 = z16x30 := (sF_ne rfl (e_109_19)).trans e16x30.symm
                  subst q16x30
                  refine g_iload_n 34 (gd rfl) rfl rfl ?_
                  refine g_iadd 35 (gd rfl) rfl (fun z16x34 e16x34 => ?_)
                  have i16x34 := in_add 0 319 e16x34 ro_109_19 i3x8 rfl rfl
                  refine g_iaload 36 (gd rfl) rfl (n := 480) rfl (in_ix i16x34 rfl) (fun z16x35 e16x35 => ?_)
                  have i16x35 := inv_I hI6x3x18 (n := 480) (t := 0) 0 31 rfl (in_ix i16x34 rfl) rfl e16x35
                  refine g_cmp_eq 39 43 (gd rfl) rfl rfl (fun c16x36 => ?_) (fun c16x36 => ?_)
                  · skip
                    refine g_iconst 0 44 (gd rfl) rfl rfl ?_
                    refine g_ireturn (gd rfl) rfl (nb01 (in_w 0 1 (in_c 0 rfl) rfl)) (hp16 _ _ ?_)
                    show GG _ _ _ _ _ _ _ _ [.int (Int32.ofInt 0)] _ _ _
                    refine g_if_ne 22 24 (gd rfl) rfl rfl (fun c19 => ?_) (fun c19 => ?_)
                    · skip
                      exact zn_ne c19 (in_c 0 rfl) rfl
                    · skip
                      refine g_iconst 0 23 (gd rfl) rfl rfl ?_
                      exact g_ireturn (gd rfl) rfl (nb01 (in_w 0 1 (in_c 0 rfl) rfl)) (hP _ _ ⟨(sF s 109 0 (Int32.ofInt 0)), hI6x3x18, (fr_sF rfl fr_rf), (Int32.ofInt 0), rfl, rfl, in_w 0 1 (in_c 0 rfl) rfl⟩)
                  · skip
                    refine g_iconst 1 40 (gd rfl) rfl rfl ?_
                    refine g_goto 44 (gd rfl) rfl ?_
                    refine g_ireturn (gd rfl) rfl (nb01 (in_w 0 1 (in_c 1 rfl) rfl)) (hp16 _ _ ?_)
                    show GG _ _ _ _ _ _ _ _ [.int (Int32.ofInt 1)] _ _ _
                    refine g_if_ne 22 24 (gd rfl) rfl rfl (fun c19 => ?_) (fun c19 => ?_)
                    · skip
                      refine g_iconst 0 25 (gd rfl) rfl rfl ?_
                      refine g_istore_n 26 (gd rfl) rfl (Nat.le_of_ble_eq_true rfl) ?_
                      exact gg_w (by first | exact Nat.le_of_ble_eq_true rfl | omega) (gg_f (gf_cons rfl (gf_cons rfl (gf_cons rfl gf_nil))) (ct26 33 (sF s 109 0 (Int32.ofInt 0)) (Int32.ofInt 0) hI6x3x18 (fr_sF rfl fr_rf) (in_w 0 159 i3x8 rfl) (in_w 0 32 (in_c 0 rfl) rfl) (m_in 33 (in_w 0 32 (in_c 0 rfl) rfl) rfl)))
                    · skip
                      exact zn_eq c19 (in_c 1 rfl) rfl
              · skip
                exact zn_ne c9 (in_c 0 rfl) rfl
            · skip
              exact zn_gt c6x3x25 (in_c 0 rfl) rfl
          · skip
            exact zn_eq c6x3x10 (in_c 1 rfl) rfl
        · skip
          exact zn_eq c6x3x2 (in_c 1 rfl) rfl

/-- GraphHouseModel.power -/
theorem k_367 {Z : AmZ} {A : Nat → Nat} {s : GS} {ex : va_W} {d : Nat} {X : AmX} {x0 : Int64} {x1 : Int64} (hd : 1 ≤ d) (hI : Inv s)  : GC Z d 367 [.long x0, .long x1] (WW Z A s ++ ex) 0 0 (fun v u => ∃ z : Int64, v = some (.long z) ∧ u = WW Z A s ++ ex) X := by
  intro post xp hP hX
  have ct9 : ∀ (k9 : Nat) (y9_4 : Int64) (y9_6 : Int64) (y9_8 : Int64), ((y9_8.toInt.toNat : Nat) : Int) < (k9 : Int) → GG Z (d - 1) 367 post (gx xp) (1 + k9 * 900) 9 (fun j => xlook j [(0, .long x0), (2, .long x1), (4, .long y9_4), (6, .long y9_6), (8, .long y9_8)]) [] (WW Z A s ++ ex) 0 0 := by
    intro k9
    induction k9 with
    | zero => intro y9_4 y9_6 y9_8  mm9; exact absurd mm9 (Int.not_lt.mpr (Int.natCast_nonneg _))
    | succ k9 ih9 =>
      intro y9_4 y9_6 y9_8  mm9
      refine gg_w (M := 1 + k9 * 900 + 900) gws ?_
      refine g_lload 11 (gd rfl) rfl rfl ?_
      refine g_lconst 0 12 (gd rfl) rfl rfl ?_
      refine g_lcmp 13 (gd rfl) rfl (fun z12 e12 => ?_)
      have i12 := lc_in e12
      refine g_if_le 16 65 (gd rfl) rfl rfl (fun c13 => ?_) (fun c13 => ?_)
      · skip
        have i13 := z_le (-1) 0 c13 i12 rfl
        have c13a := lc_le e12 c13
        have i13a := lr_le1 (-9223372036854775808) 0 c13a (l_rng y9_8) (l_c 0 rfl) rfl
        refine g_lload 67 (gd rfl) rfl rfl ?_
        exact g_lreturn (gd rfl) rfl (hP _ _ ⟨y9_4, rfl, rfl⟩)
      · skip
        have i13 := z_gt 1 1 c13 i12 rfl
        have c13a := lc_gt e12 c13
        have i13a := lr_lt2 1 9223372036854775807 c13a (l_c 0 rfl) (l_rng y9_8) rfl
        refine g_lload 18 (gd rfl) rfl rfl ?_
        refine g_ldc2_w 2 21 (gd rfl) rfl rfl ?_
        refine g_lrem 22 (gd rfl) rfl (by decide) (fun z21 e21 => ?_)
        have i21 := l_rem (-1) 1 e21 rfl
        refine g_lconst 1 23 (gd rfl) rfl rfl ?_
        refine g_lcmp 24 (gd rfl) rfl (fun z23 e23 => ?_)
        have i23 := lc_in e23
        refine g_if_ne 27 39 (gd rfl) rfl rfl (fun c24 => ?_) (fun c24 => ?_)
        · skip
          have c24a := lc_ne e23 c24
          have i24 := lr_ne1 (-1) 0 c24a i21 (l_c 1 rfl) rfl
          refine g_lload 41 (gd rfl) rfl rfl ?_
          refine g_lstore 43 (gd rfl) rfl (Nat.le_of_ble_eq_true rfl) ?_
          refine g_lload 45 (gd rfl) rfl rfl ?_
          refine g_lload 47 (gd rfl) rfl rfl ?_
          refine g_lmul 48 (gd rfl) rfl (fun z47 e47 => ?_)
          refine g_ldc2_w 1000000007 51 (gd rfl) rfl rfl ?_
          refine g_lrem 52 (gd rfl) rfl (by decide) (fun z51 e51 => ?_)
          have i51 := l_rem (-1000000006) 1000000006 e51 rfl
          refine g_lstore 54 (gd rfl) rfl (Nat.le_of_ble_eq_true rfl) ?_
          refine g_lload 56 (gd rfl) rfl rfl ?_
          refine g_ldc2_w 2 59 (gd rfl) rfl rfl ?_
          refine g_ldiv 60 (gd rfl) rfl (by decide) (fun z59 e59 => ?_)
          refine g_lstore 62 (gd rfl) rfl (Nat.le_of_ble_eq_true rfl) ?_
          refine g_goto 9 (gd rfl) rfl ?_
          exact gg_w (by first | exact Nat.le_add_right _ _ | exact gw2 | exact gw3 | exact gwe rfl | exact gwf rfl | exact gwg rfl | exact gwh rfl | omega) (gg_f (gf_cons rfl (gf_cons rfl (gf_cons rfl (gf_cons rfl (gf_cons rfl gf_nil))))) (ih9  y9_4 z51 z59   (mh e59 i13a rfl mm9)))
        · skip
          have i24 := z_eq 0 0 c24 i23 rfl
          have c24a := lc_eq e23 c24
          have i24a := lr_eq1 1 1 c24a i21 (l_c 1 rfl) rfl
          refine g_lload 29 (gd rfl) rfl rfl ?_
          refine g_lload 31 (gd rfl) rfl rfl ?_
          refine g_lmul 32 (gd rfl) rfl (fun z31 e31 => ?_)
          refine g_ldc2_w 1000000007 35 (gd rfl) rfl rfl ?_
          refine g_lrem 36 (gd rfl) rfl (by decide) (fun z35 e35 => ?_)
          have i35 := l_rem (-1000000006) 1000000006 e35 rfl
          refine g_goto 41 (gd rfl) rfl ?_
          refine g_lstore 43 (gd rfl) rfl (Nat.le_of_ble_eq_true rfl) ?_
          refine g_lload 45 (gd rfl) rfl rfl ?_
          refine g_lload 47 (gd rfl) rfl rfl ?_
          refine g_lmul 48 (gd rfl) rfl (fun z47 e47 => ?_)
          refine g_ldc2_w 1000000007 51 (gd rfl) rfl rfl ?_
          refine g_lrem 52 (gd rfl) rfl (by decide) (fun z51 e51 => ?_)
          have i51 := l_rem (-1000000006) 1000000006 e51 rfl
          refine g_lstore 54 (gd rfl) rfl (Nat.le_of_ble_eq_true rfl) ?_
          refine g_lload 56 (gd rfl) rfl rfl ?_
          refine g_ldc2_w 2 59 (gd rfl) rfl rfl ?_
          refine g_ldiv 60 (gd rfl) rfl (by decide) (fun z59 e59 => ?_)
          refine g_lstore 62 (gd rfl) rfl (Nat.le_of_ble_eq_true rfl) ?_
          refine g_goto 9 (gd rfl) rfl ?_
          exact gg_w (by first | exact Nat.le_add_right _ _ | exact gw2 | exact gw3 | exact gwe rfl | exact gwf rfl | exact gwg rfl | exact gwh rfl | omega) (gg_f (gf_cons rfl (gf_cons rfl (gf_cons rfl (gf_cons rfl (gf_cons rfl gf_nil))))) (ih9  z35 z51 z59   (mh e59 i13a rfl mm9)))
  refine g_enter2 (k := 367) (N := 16602069666338596455301) (by first | exact dq1 hd rfl | exact dq0 hd rfl | exact dq2 hd rfl | exact dq3 hd rfl | omega) rfl (Nat.le_of_ble_eq_true rfl) ?_
  refine g_lconst 1 1 (gd rfl) rfl rfl ?_
  refine g_lstore 3 (gd rfl) rfl (Nat.le_of_ble_eq_true rfl) ?_
  refine g_lload_n 4 (gd rfl) rfl rfl ?_
  refine g_lstore 6 (gd rfl) rfl (Nat.le_of_ble_eq_true rfl) ?_
  refine g_lload_n 7 (gd rfl) rfl rfl ?_
  refine g_lstore 9 (gd rfl) rfl (Nat.le_of_ble_eq_true rfl) ?_
  exact gg_w (by first | exact Nat.le_of_ble_eq_true rfl | omega) (gg_f (gf_cons rfl (gf_cons rfl (gf_cons rfl (gf_cons rfl (gf_cons rfl gf_nil))))) (ct9 18446744073709551616  (Int64.ofInt 1) x0 x1   (mh_in _)))

def fm_368 : FM := ([], [161], [(109, 0)], [])
/-- GraphHouseModel.trees -/
theorem k_368 {Z : AmZ} {A : Nat → Nat} {s : GS} {ex : va_W} {d : Nat} {X : AmX}  (hd : 3 ≤ d) (hI : Inv s)  : GC Z d 368 [.ref (A 109)] (WW Z A s ++ ex) 0 0 (fun v u => ∃ t : GS, Inv t ∧ Fr fm_368 s t ∧ ∃ z : Int32, v = some (.int z) ∧ u = WW Z A t ++ ex ∧ In z (-2147483648) 2147483647) X := by
  intro post xp hP hX
  obtain ⟨u_109_19, e_109_19⟩ : ∃ w, w = s.2.2.1 109 19 := ⟨_, rfl⟩
  have ro_109_19 := inv_F hI 0 160 rfl e_109_19
  obtain ⟨u_109_20, e_109_20⟩ : ∃ w, w = s.2.2.1 109 20 := ⟨_, rfl⟩
  have ro_109_20 := inv_F hI 0 32 rfl e_109_20
  have ct174 : ∀ (k174 : Nat) (sc174 : GS) (y174_1 : Int64) (y174_3 : Int32), Inv sc174 → Fr fm_368 s sc174 → (In y174_3 1 32) → 32 - (y174_3).toInt < (k174 : Int) → GG Z (d - 1) 368 post (gx xp) (1 + k174 * 1071935) 174 (fun j => xlook j [(0, .ref (A 109)), (1, .long y174_1), (3, .int y174_3)]) [] (WW Z A sc174 ++ ex) 0 0 := by
    intro k174
    induction k174 with
    | zero => intro sc174 y174_1 y174_3 hIc174 hFc174 j174_3 mm174; exact m_no mm174 j174_3 rfl
    | succ k174 ih174 =>
      intro sc174 y174_1 y174_3 hIc174 hFc174 j174_3 mm174
      refine gg_w (M := 1 + k174 * 1071935 + 1071935) gws ?_
      have ct364 : ∀ (k364 : Nat) (sc364 : GS) (y364_1 : Int64) (y364_4 : Int32) (y364_5 : Int64) (y364_7 : Int32), Inv sc364 → Fr fm_368 s sc364 → (In y174_3 1 31) → (In y364_4 0 31) → (In y364_7 2 32) → 32 - (y364_7).toInt < (k364 : Int) → GG Z (d - 1) 368 post (gx xp) (1 + k174 * 1071935 + 1 + k364 * 31501) 364 (fun j => xlook j [(0, .ref (A 109)), (1, .long y364_1), (3, .int y174_3), (4, .int y364_4), (5, .long y364_5), (7, .int y364_7)]) [] (WW Z A sc364 ++ ex) 0 0 := by
        intro k364
        induction k364 with
        | zero => intro sc364 y364_1 y364_4 y364_5 y364_7 hIc364 hFc364 j364_3 j364_4 j364_7 mm364; exact m_no mm364 j364_7 rfl
        | succ k364 ih364 =>
          intro sc364 y364_1 y364_4 y364_5 y364_7 hIc364 hFc364 j364_3 j364_4 j364_7 mm364
          refine gg_w (M := 1 + k174 * 1071935 + 1 + k364 * 31501 + 31501) gws ?_
          have ct397 : ∀ (k397 : Nat) (sc397 : GS) (y397_8 : Int64) (y397_10 : Int32), Inv sc397 → Fr fm_368 s sc397 → (In y364_7 2 31) → (In y397_10 1 32) → 32 - (y397_10).toInt < (k397 : Int) → GG Z (d - 1) 368 post (gx xp) (1 + k174 * 1071935 + 1 + k364 * 31501 + 1 + k397 * 900) 397 (fun j => xlook j [(0, .ref (A 109)), (1, .long y364_1), (3, .int y174_3), (4, .int y364_4), (5, .long y364_5), (7, .int y364_7), (8, .long y397_8), (10, .int y397_10)]) [] (WW Z A sc397 ++ ex) 0 0 := by
            intro k397
            induction k397 with
            | zero => intro sc397 y397_8 y397_10 hIc397 hFc397 j397_7 j397_10 mm397; exact m_no mm397 j397_10 rfl
            | succ k397 ih397 =>
              intro sc397 y397_8 y397_10 hIc397 hFc397 j397_7 j397_10 mm397
              refine gg_w (M := 1 + k174 * 1071935 + 1 + k364 * 31501 + 1 + k397 * 900 + 900) gws ?_
              refine g_iload 399 (gd rfl) rfl rfl ?_
              refine g_aload_n 400 (gd rfl) rfl rfl ?_
              refine g_getI 403 (gd rfl) rfl rfl rfl (fun z400 e400 => ?_)
              have q400 : u_109_20 = z400 := (fr_F e_109_20 hFc397 rfl).trans e400.symm
              subst q400
              refine g_cmp_ge 406 462 (gd rfl) rfl rfl (fun c403 => ?_) (fun c403 => ?_)
              · skip
                refine g_iinc 465 (gd rfl) rfl rfl (Nat.le_of_ble_eq_true rfl) (fun z462 e462 => ?_)
                have i462 := in_add 3 32 e462 j397_7 (in_c 1 rfl) rfl rfl
                refine g_goto 364 (gd rfl) rfl ?_
                exact gg_w (by first | exact Nat.le_add_right _ _ | exact gw2 | exact gw3 | exact gwe rfl | exact gwf rfl | exact gwg rfl | exact gwh rfl | omega) (gg_f (gf_cons rfl (gf_cons rfl (gf_cons rfl (gf_cons rfl (gf_cons rfl (gf_cons rfl gf_nil)))))) (ih364 sc397 y364_1 y364_4 y364_5 z462 hIc397 hFc397 (in_w 1 31 j364_3 rfl) (in_w 0 31 j364_4 rfl) (in_w 2 32 i462 rfl) (m_up mm364 (t_add e462 j397_7 (in_c 1 rfl) rfl) (in_w 1 1 (in_c 1 rfl) rfl))))
              · skip
                have i403 := r_lt1 1 31 c403 j397_10 ro_109_20 rfl
                have i403a := r_lt2 2 32 c403 j397_10 ro_109_20 rfl
                refine g_aload_n 407 (gd rfl) rfl rfl ?_
                refine g_getA (q2 := 161) 410 (gd rfl) rfl rfl rfl rfl ?_
                refine g_bipush 32 412 (gd rfl) rfl rfl ?_
                refine g_iload 414 (gd rfl) rfl rfl ?_
                refine g_imul 415 (gd rfl) rfl (fun z414 e414 => ?_)
                have i414 := in_mulc 32 64 992 (Or.inl e414) j397_7 rfl rfl
                refine g_iload 417 (gd rfl) rfl rfl ?_
                refine g_iadd 418 (gd rfl) rfl (fun z417 e417 => ?_)
                have i417 := in_add 65 1023 e417 i414 i403 rfl rfl
                refine g_aload_n 419 (gd rfl) rfl rfl ?_
                refine g_getA (q2 := 161) 422 (gd rfl) rfl rfl rfl rfl ?_
                refine g_bipush 32 424 (gd rfl) rfl rfl ?_
                refine g_iload 426 (gd rfl) rfl rfl ?_
                refine g_imul 427 (gd rfl) rfl (fun z426 e426 => ?_)
                have i426 := in_mulc 32 64 992 (Or.inl e426) j397_7 rfl rfl
                refine g_iload 429 (gd rfl) rfl rfl ?_
                refine g_iadd 430 (gd rfl) rfl (fun z429 e429 => ?_)
                have i429 := in_add 65 1023 e429 i426 i403 rfl rfl
                refine g_laload 431 (gd rfl) rfl (n := 1024) rfl (in_ix i429 rfl) (fun z430 e430 => ?_)
                refine g_ldc2_w 1000000007 434 (gd rfl) rfl rfl ?_
                refine g_lload 436 (gd rfl) rfl rfl ?_
                refine g_lsub 437 (gd rfl) rfl (fun z436 e436 => ?_)
                refine g_aload_n 438 (gd rfl) rfl rfl ?_
                refine g_getA (q2 := 161) 441 (gd rfl) rfl rfl rfl rfl ?_
                refine g_bipush 32 443 (gd rfl) rfl rfl ?_
                refine g_iload_n 444 (gd rfl) rfl rfl ?_
                refine g_imul 445 (gd rfl) rfl (fun z444 e444 => ?_)
                have i444 := in_mulc 32 32 992 (Or.inl e444) j364_3 rfl rfl
                refine g_iload 447 (gd rfl) rfl rfl ?_
                refine g_iadd 448 (gd rfl) rfl (fun z447 e447 => ?_)
                have i447 := in_add 33 1023 e447 i444 i403 rfl rfl
                refine g_laload 449 (gd rfl) rfl (n := 1024) rfl (in_ix i447 rfl) (fun z448 e448 => ?_)
                refine g_lmul 450 (gd rfl) rfl (fun z449 e449 => ?_)
                refine g_ladd 451 (gd rfl) rfl (fun z450 e450 => ?_)
                refine g_ldc2_w 1000000007 454 (gd rfl) rfl rfl ?_
                refine g_lrem 455 (gd rfl) rfl (by decide) (fun z454 e454 => ?_)
                have i454 := l_rem (-1000000006) 1000000006 e454 rfl
                refine g_lastore 456 (gd rfl) rfl (n := 1024) rfl (in_ix i417 rfl) ?_
                have hI455 := inv_sL (q := 161) (j := z417.toNatClampNeg) (x := z454) hIc397 rfl (l_rng z454)
                refine g_iinc 459 (gd rfl) rfl rfl (Nat.le_of_ble_eq_true rfl) (fun z456 e456 => ?_)
                have i456 := in_add 2 32 e456 i403 (in_c 1 rfl) rfl rfl
                refine g_goto 397 (gd rfl) rfl ?_
                exact gg_w (by first | exact Nat.le_add_right _ _ | exact gw2 | exact gw3 | exact gwe rfl | exact gwf rfl | exact gwg rfl | exact gwh rfl | omega) (gg_f (gf_cons rfl (gf_cons rfl (gf_cons rfl (gf_cons rfl (gf_cons rfl (gf_cons rfl (gf_cons rfl (gf_cons rfl gf_nil)))))))) (ih397 (sL sc397 161 z417.toNatClampNeg z454) y397_8 z456 hI455 (fr_sL rfl hFc397) (in_w 2 31 j397_7 rfl) (in_w 1 32 i456 rfl) (m_up mm397 (t_add e456 i403 (in_c 1 rfl) rfl) (in_w 1 1 (in_c 1 rfl) rfl))))
          refine g_iload 366 (gd rfl) rfl rfl ?_
          refine g_aload_n 367 (gd rfl) rfl rfl ?_
          refine g_getI 370 (gd rfl) rfl rfl rfl (fun z367 e367 => ?_)
          have q367 : u_109_20 = z367 := (fr_F e_109_20 hFc364 rfl).trans e367.symm
          subst q367
          refine g_cmp_ge 373 468 (gd rfl) rfl rfl (fun c370 => ?_) (fun c370 => ?_)
          · skip
            refine g_iinc 471 (gd rfl) rfl rfl (Nat.le_of_ble_eq_true rfl) (fun z468 e468 => ?_)
            have i468 := in_add 2 32 e468 j364_3 (in_c 1 rfl) rfl rfl
            refine g_goto 174 (gd rfl) rfl ?_
            exact gg_w (by first | exact Nat.le_add_right _ _ | exact gw2 | exact gw3 | exact gwe rfl | exact gwf rfl | exact gwg rfl | exact gwh rfl | omega) (gg_f (gf_cons rfl (gf_cons rfl (gf_cons rfl gf_nil))) (ih174 sc364 y364_1 z468 hIc364 hFc364 (in_w 1 32 i468 rfl) (m_up mm174 (t_add e468 j364_3 (in_c 1 rfl) rfl) (in_w 1 1 (in_c 1 rfl) rfl))))
          · skip
            have i370 := r_lt1 2 31 c370 j364_7 ro_109_20 rfl
            have i370a := r_lt2 3 32 c370 j364_7 ro_109_20 rfl
            refine g_aload_n 374 (gd rfl) rfl rfl ?_
            refine g_getA (q2 := 161) 377 (gd rfl) rfl rfl rfl rfl ?_
            refine g_bipush 32 379 (gd rfl) rfl rfl ?_
            refine g_iload 381 (gd rfl) rfl rfl ?_
            refine g_imul 382 (gd rfl) rfl (fun z381 e381 => ?_)
            have i381 := in_mulc 32 64 992 (Or.inl e381) i370 rfl rfl
            refine g_iload_n 383 (gd rfl) rfl rfl ?_
            refine g_iadd 384 (gd rfl) rfl (fun z383 e383 => ?_)
            have i383 := in_add 65 1023 e383 i381 j364_3 rfl rfl
            refine g_laload 385 (gd rfl) rfl (n := 1024) rfl (in_ix i383 rfl) (fun z384 e384 => ?_)
            refine g_lload 387 (gd rfl) rfl rfl ?_
            refine g_lmul 388 (gd rfl) rfl (fun z387 e387 => ?_)
            refine g_ldc2_w 1000000007 391 (gd rfl) rfl rfl ?_
            refine g_lrem 392 (gd rfl) rfl (by decide) (fun z391 e391 => ?_)
            have i391 := l_rem (-1000000006) 1000000006 e391 rfl
            refine g_lstore 394 (gd rfl) rfl (Nat.le_of_ble_eq_true rfl) ?_
            refine g_iload_n 395 (gd rfl) rfl rfl ?_
            refine g_istore 397 (gd rfl) rfl (Nat.le_of_ble_eq_true rfl) ?_
            exact gg_w (by first | exact Nat.le_add_right _ _ | exact gw2 | exact gw3 | exact gwe rfl | exact gwf rfl | exact gwg rfl | exact gwh rfl | omega) (gg_f (gf_cons rfl (gf_cons rfl (gf_cons rfl (gf_cons rfl (gf_cons rfl (gf_cons rfl (gf_cons rfl (gf_cons rfl gf_nil)))))))) (ct397 32 sc364 z391 y174_3 hIc364 hFc364 (in_w 2 31 i370 rfl) (in_w 1 32 j364_3 rfl) (m_in 32 (in_w 1 32 j364_3 rfl) rfl)))
      have ct231 : ∀ (k231 : Nat) (sc231 : GS) (y231_4 : Int32) (y231_5 : Int32), Inv sc231 → Fr fm_368 s sc231 → (In y174_3 1 31) → (In y231_4 0 31) → (In y231_5 0 32) → 32 - (y231_5).toInt < (k231 : Int) → GG Z (d - 1) 368 post (gx xp) (1 + k174 * 1071935 + 976533 + k231 * 900) 231 (fun j => xlook j [(0, .ref (A 109)), (1, .long y174_1), (3, .int y174_3), (4, .int y231_4), (5, .int y231_5)]) [] (WW Z A sc231 ++ ex) 0 0 := by
        intro k231
        induction k231 with
        | zero => intro sc231 y231_4 y231_5 hIc231 hFc231 j231_3 j231_4 j231_5 mm231; exact m_no mm231 j231_5 rfl
        | succ k231 ih231 =>
          intro sc231 y231_4 y231_5 hIc231 hFc231 j231_3 j231_4 j231_5 mm231
          refine gg_w (M := 1 + k174 * 1071935 + 976533 + k231 * 900 + 900) gws ?_
          refine g_iload 233 (gd rfl) rfl rfl ?_
          refine g_aload_n 234 (gd rfl) rfl rfl ?_
          refine g_getI 237 (gd rfl) rfl rfl rfl (fun z234 e234 => ?_)
          have q234 : u_109_20 = z234 := (fr_F e_109_20 hFc231 rfl).trans e234.symm
          subst q234
          refine g_cmp_ge 240 306 (gd rfl) rfl rfl (fun c237 => ?_) (fun c237 => ?_)
          · skip
            refine g_iload 308 (gd rfl) rfl rfl ?_
            refine g_iload_n 309 (gd rfl) rfl rfl ?_
            refine g_cmp_eq 312 324 (gd rfl) rfl rfl (fun c309 => ?_) (fun c309 => ?_)
            · skip
              have i309 := r_eq1 1 31 c309 j231_4 j231_3 rfl
              refine g_lload_n 325 (gd rfl) rfl rfl ?_
              refine g_lstore_n 326 (gd rfl) rfl (Nat.le_of_ble_eq_true rfl) ?_
              refine g_lload_n 327 (gd rfl) rfl rfl ?_
              refine g_aload_n 328 (gd rfl) rfl rfl ?_
              refine g_getA (q2 := 161) 331 (gd rfl) rfl rfl rfl rfl ?_
              refine g_bipush 33 333 (gd rfl) rfl rfl ?_
              refine g_iload_n 334 (gd rfl) rfl rfl ?_
              refine g_imul 335 (gd rfl) rfl (fun z334 e334 => ?_)
              have i334 := in_mulc 33 33 1023 (Or.inl e334) j231_3 rfl rfl
              refine g_laload 336 (gd rfl) rfl (n := 1024) rfl (in_ix i334 rfl) (fun z335 e335 => ?_)
              refine g_lmul 337 (gd rfl) rfl (fun z336 e336 => ?_)
              refine g_ldc2_w 1000000007 340 (gd rfl) rfl rfl ?_
              refine g_lrem 341 (gd rfl) rfl (by decide) (fun z340 e340 => ?_)
              have i340 := l_rem (-1000000006) 1000000006 e340 rfl
              refine g_lstore_n 342 (gd rfl) rfl (Nat.le_of_ble_eq_true rfl) ?_
              refine g_aload_n 343 (gd rfl) rfl rfl ?_
              refine g_getA (q2 := 161) 346 (gd rfl) rfl rfl rfl rfl ?_
              refine g_bipush 33 348 (gd rfl) rfl rfl ?_
              refine g_iload_n 349 (gd rfl) rfl rfl ?_
              refine g_imul 350 (gd rfl) rfl (fun z349 e349 => ?_)
              have i349 := in_mulc 33 33 1023 (Or.inl e349) j231_3 rfl rfl
              refine g_laload 351 (gd rfl) rfl (n := 1024) rfl (in_ix i349 rfl) (fun z350 e350 => ?_)
              refine g_ldc2_w 1000000005 354 (gd rfl) rfl rfl ?_
              refine g_calls (As := [.long z350, .long (Int64.ofInt 1000000005)]) (r := []) 357 (gd rfl) rfl rfl rfl rfl rfl (Nat.le_of_ble_eq_true rfl) (Nat.zero_le _) (Nat.zero_le _) (k_367 (by first | exact dq1 hd rfl | exact dq0 hd rfl | exact dq2 hd rfl | exact dq3 hd rfl | omega) hIc231 ) (fun v u h => ?_)
              obtain ⟨z354, rfl, rfl⟩ := h
              show GG _ _ _ _ _ _ _ _ [.long z354] _ _ _
              refine g_lstore 359 (gd rfl) rfl (Nat.le_of_ble_eq_true rfl) ?_
              refine g_iload_n 360 (gd rfl) rfl rfl ?_
              refine g_iconst 1 361 (gd rfl) rfl rfl ?_
              refine g_iadd 362 (gd rfl) rfl (fun z361 e361 => ?_)
              have i361 := in_add 2 32 e361 j231_3 (in_c 1 rfl) rfl rfl
              refine g_istore 364 (gd rfl) rfl (Nat.le_of_ble_eq_true rfl) ?_
              exact gg_w (by first | exact Nat.le_add_right _ _ | exact gw2 | exact gw3 | exact gwe rfl | exact gwf rfl | exact gwg rfl | exact gwh rfl | omega) (gg_f (gf_cons rfl (gf_cons rfl (gf_cons rfl (gf_cons rfl (gf_cons rfl (gf_cons rfl gf_nil)))))) (ct364 31 sc231 z340 y231_4 z354 z361 hIc231 hFc231 (in_w 1 31 j231_3 rfl) (in_w 0 31 i309 rfl) (in_w 2 32 i361 rfl) (m_in 31 (in_w 2 32 i361 rfl) rfl)))
            · skip
              refine g_ldc2_w 1000000007 315 (gd rfl) rfl rfl ?_
              refine g_lload_n 316 (gd rfl) rfl rfl ?_
              refine g_lsub 317 (gd rfl) rfl (fun z316 e316 => ?_)
              refine g_ldc2_w 1000000007 320 (gd rfl) rfl rfl ?_
              refine g_lrem 321 (gd rfl) rfl (by decide) (fun z320 e320 => ?_)
              have i320 := l_rem (-1000000006) 1000000006 e320 rfl
              refine g_goto 325 (gd rfl) rfl ?_
              refine g_lstore_n 326 (gd rfl) rfl (Nat.le_of_ble_eq_true rfl) ?_
              refine g_lload_n 327 (gd rfl) rfl rfl ?_
              refine g_aload_n 328 (gd rfl) rfl rfl ?_
              refine g_getA (q2 := 161) 331 (gd rfl) rfl rfl rfl rfl ?_
              refine g_bipush 33 333 (gd rfl) rfl rfl ?_
              refine g_iload_n 334 (gd rfl) rfl rfl ?_
              refine g_imul 335 (gd rfl) rfl (fun z334 e334 => ?_)
              have i334 := in_mulc 33 33 1023 (Or.inl e334) j231_3 rfl rfl
              refine g_laload 336 (gd rfl) rfl (n := 1024) rfl (in_ix i334 rfl) (fun z335 e335 => ?_)
              refine g_lmul 337 (gd rfl) rfl (fun z336 e336 => ?_)
              refine g_ldc2_w 1000000007 340 (gd rfl) rfl rfl ?_
              refine g_lrem 341 (gd rfl) rfl (by decide) (fun z340 e340 => ?_)
              have i340 := l_rem (-1000000006) 1000000006 e340 rfl
              refine g_lstore_n 342 (gd rfl) rfl (Nat.le_of_ble_eq_true rfl) ?_
              refine g_aload_n 343 (gd rfl) rfl rfl ?_
              refine g_getA (q2 := 161) 346 (gd rfl) rfl rfl rfl rfl ?_
              refine g_bipush 33 348 (gd rfl) rfl rfl ?_
              refine g_iload_n 349 (gd rfl) rfl rfl ?_
              refine g_imul 350 (gd rfl) rfl (fun z349 e349 => ?_)
              have i349 := in_mulc 33 33 1023 (Or.inl e349) j231_3 rfl rfl
              refine g_laload 351 (gd rfl) rfl (n := 1024) rfl (in_ix i349 rfl) (fun z350 e350 => ?_)
              refine g_ldc2_w 1000000005 354 (gd rfl) rfl rfl ?_
              refine g_calls (As := [.long z350, .long (Int64.ofInt 1000000005)]) (r := []) 357 (gd rfl) rfl rfl rfl rfl rfl (Nat.le_of_ble_eq_true rfl) (Nat.zero_le _) (Nat.zero_le _) (k_367 (by first | exact dq1 hd rfl | exact dq0 hd rfl | exact dq2 hd rfl | exact dq3 hd rfl | omega) hIc231 ) (fun v u h => ?_)
              obtain ⟨z354, rfl, rfl⟩ := h
              show GG _ _ _ _ _ _ _ _ [.long z354] _ _ _
              refine g_lstore 359 (gd rfl) rfl (Nat.le_of_ble_eq_true rfl) ?_
              refine g_iload_n 360 (gd rfl) rfl rfl ?_
              refine g_iconst 1 361 (gd rfl) rfl rfl ?_
              refine g_iadd 362 (gd rfl) rfl (fun z361 e361 => ?_)
              have i361 := in_add 2 32 e361 j231_3 (in_c 1 rfl) rfl rfl
              refine g_istore 364 (gd rfl) rfl (Nat.le_of_ble_eq_true rfl) ?_
              exact gg_w (by first | exact Nat.le_add_right _ _ | exact gw2 | exact gw3 | exact gwe rfl | exact gwf rfl | exact gwg rfl | exact gwh rfl | omega) (gg_f (gf_cons rfl (gf_cons rfl (gf_cons rfl (gf_cons rfl (gf_cons rfl (gf_cons rfl gf_nil)))))) (ct364 31 sc231 z340 y231_4 z354 z361 hIc231 hFc231 (in_w 1 31 j231_3 rfl) (in_w 0 31 j231_4 rfl) (in_w 2 32 i361 rfl) (m_in 31 (in_w 2 32 i361 rfl) rfl)))
          · skip
            have i237 := r_lt1 0 31 c237 j231_5 ro_109_20 rfl
            have i237a := r_lt2 1 32 c237 j231_5 ro_109_20 rfl
            refine g_iload 242 (gd rfl) rfl rfl ?_
            refine g_iload_n 243 (gd rfl) rfl rfl ?_
            refine g_cmp_eq 246 306 (gd rfl) rfl rfl (fun c243 => ?_) (fun c243 => ?_)
            · skip
              have i243 := r_eq1 1 31 c243 j231_4 j231_3 rfl
              refine g_iload 308 (gd rfl) rfl rfl ?_
              refine g_iload_n 309 (gd rfl) rfl rfl ?_
              refine g_cmp_eq 312 324 (gd rfl) rfl rfl (fun c309 => ?_) (fun c309 => ?_)
              · skip
                refine g_lload_n 325 (gd rfl) rfl rfl ?_
                refine g_lstore_n 326 (gd rfl) rfl (Nat.le_of_ble_eq_true rfl) ?_
                refine g_lload_n 327 (gd rfl) rfl rfl ?_
                refine g_aload_n 328 (gd rfl) rfl rfl ?_
                refine g_getA (q2 := 161) 331 (gd rfl) rfl rfl rfl rfl ?_
                refine g_bipush 33 333 (gd rfl) rfl rfl ?_
                refine g_iload_n 334 (gd rfl) rfl rfl ?_
                refine g_imul 335 (gd rfl) rfl (fun z334 e334 => ?_)
                have i334 := in_mulc 33 33 1023 (Or.inl e334) j231_3 rfl rfl
                refine g_laload 336 (gd rfl) rfl (n := 1024) rfl (in_ix i334 rfl) (fun z335 e335 => ?_)
                refine g_lmul 337 (gd rfl) rfl (fun z336 e336 => ?_)
                refine g_ldc2_w 1000000007 340 (gd rfl) rfl rfl ?_
                refine g_lrem 341 (gd rfl) rfl (by decide) (fun z340 e340 => ?_)
                have i340 := l_rem (-1000000006) 1000000006 e340 rfl
                refine g_lstore_n 342 (gd rfl) rfl (Nat.le_of_ble_eq_true rfl) ?_
                refine g_aload_n 343 (gd rfl) rfl rfl ?_
                refine g_getA (q2 := 161) 346 (gd rfl) rfl rfl rfl rfl ?_
                refine g_bipush 33 348 (gd rfl) rfl rfl ?_
                refine g_iload_n 349 (gd rfl) rfl rfl ?_
                refine g_imul 350 (gd rfl) rfl (fun z349 e349 => ?_)
                have i349 := in_mulc 33 33 1023 (Or.inl e349) j231_3 rfl rfl
                refine g_laload 351 (gd rfl) rfl (n := 1024) rfl (in_ix i349 rfl) (fun z350 e350 => ?_)
                refine g_ldc2_w 1000000005 354 (gd rfl) rfl rfl ?_
                refine g_calls (As := [.long z350, .long (Int64.ofInt 1000000005)]) (r := []) 357 (gd rfl) rfl rfl rfl rfl rfl (Nat.le_of_ble_eq_true rfl) (Nat.zero_le _) (Nat.zero_le _) (k_367 (by first | exact dq1 hd rfl | exact dq0 hd rfl | exact dq2 hd rfl | exact dq3 hd rfl | omega) hIc231 ) (fun v u h => ?_)
                obtain ⟨z354, rfl, rfl⟩ := h
                show GG _ _ _ _ _ _ _ _ [.long z354] _ _ _
                refine g_lstore 359 (gd rfl) rfl (Nat.le_of_ble_eq_true rfl) ?_
                refine g_iload_n 360 (gd rfl) rfl rfl ?_
                refine g_iconst 1 361 (gd rfl) rfl rfl ?_
                refine g_iadd 362 (gd rfl) rfl (fun z361 e361 => ?_)
                have i361 := in_add 2 32 e361 j231_3 (in_c 1 rfl) rfl rfl
                refine g_istore 364 (gd rfl) rfl (Nat.le_of_ble_eq_true rfl) ?_
                exact gg_w (by first | exact Nat.le_add_right _ _ | exact gw2 | exact gw3 | exact gwe rfl | exact gwf rfl | exact gwg rfl | exact gwh rfl | omega) (gg_f (gf_cons rfl (gf_cons rfl (gf_cons rfl (gf_cons rfl (gf_cons rfl (gf_cons rfl gf_nil)))))) (ct364 31 sc231 z340 y231_4 z354 z361 hIc231 hFc231 (in_w 1 31 j231_3 rfl) (in_w 0 31 i243 rfl) (in_w 2 32 i361 rfl) (m_in 31 (in_w 2 32 i361 rfl) rfl)))
              · skip
                refine g_ldc2_w 1000000007 315 (gd rfl) rfl rfl ?_
                refine g_lload_n 316 (gd rfl) rfl rfl ?_
                refine g_lsub 317 (gd rfl) rfl (fun z316 e316 => ?_)
                refine g_ldc2_w 1000000007 320 (gd rfl) rfl rfl ?_
                refine g_lrem 321 (gd rfl) rfl (by decide) (fun z320 e320 => ?_)
                have i320 := l_rem (-1000000006) 1000000006 e320 rfl
                refine g_goto 325 (gd rfl) rfl ?_
                refine g_lstore_n 326 (gd rfl) rfl (Nat.le_of_ble_eq_true rfl) ?_
                refine g_lload_n 327 (gd rfl) rfl rfl ?_
                refine g_aload_n 328 (gd rfl) rfl rfl ?_
                refine g_getA (q2 := 161) 331 (gd rfl) rfl rfl rfl rfl ?_
                refine g_bipush 33 333 (gd rfl) rfl rfl ?_
                refine g_iload_n 334 (gd rfl) rfl rfl ?_
                refine g_imul 335 (gd rfl) rfl (fun z334 e334 => ?_)
                have i334 := in_mulc 33 33 1023 (Or.inl e334) j231_3 rfl rfl
                refine g_laload 336 (gd rfl) rfl (n := 1024) rfl (in_ix i334 rfl) (fun z335 e335 => ?_)
                refine g_lmul 337 (gd rfl) rfl (fun z336 e336 => ?_)
                refine g_ldc2_w 1000000007 340 (gd rfl) rfl rfl ?_
                refine g_lrem 341 (gd rfl) rfl (by decide) (fun z340 e340 => ?_)
                have i340 := l_rem (-1000000006) 1000000006 e340 rfl
                refine g_lstore_n 342 (gd rfl) rfl (Nat.le_of_ble_eq_true rfl) ?_
                refine g_aload_n 343 (gd rfl) rfl rfl ?_
                refine g_getA (q2 := 161) 346 (gd rfl) rfl rfl rfl rfl ?_
                refine g_bipush 33 348 (gd rfl) rfl rfl ?_
                refine g_iload_n 349 (gd rfl) rfl rfl ?_
                refine g_imul 350 (gd rfl) rfl (fun z349 e349 => ?_)
                have i349 := in_mulc 33 33 1023 (Or.inl e349) j231_3 rfl rfl
                refine g_laload 351 (gd rfl) rfl (n := 1024) rfl (in_ix i349 rfl) (fun z350 e350 => ?_)
                refine g_ldc2_w 1000000005 354 (gd rfl) rfl rfl ?_
                refine g_calls (As := [.long z350, .long (Int64.ofInt 1000000005)]) (r := []) 357 (gd rfl) rfl rfl rfl rfl rfl (Nat.le_of_ble_eq_true rfl) (Nat.zero_le _) (Nat.zero_le _) (k_367 (by first | exact dq1 hd rfl | exact dq0 hd rfl | exact dq2 hd rfl | exact dq3 hd rfl | omega) hIc231 ) (fun v u h => ?_)
                obtain ⟨z354, rfl, rfl⟩ := h
                show GG _ _ _ _ _ _ _ _ [.long z354] _ _ _
                refine g_lstore 359 (gd rfl) rfl (Nat.le_of_ble_eq_true rfl) ?_
                refine g_iload_n 360 (gd rfl) rfl rfl ?_
                refine g_iconst 1 361 (gd rfl) rfl rfl ?_
                refine g_iadd 362 (gd rfl) rfl (fun z361 e361 => ?_)
                have i361 := in_add 2 32 e361 j231_3 (in_c 1 rfl) rfl rfl
                refine g_istore 364 (gd rfl) rfl (Nat.le_of_ble_eq_true rfl) ?_
                exact gg_w (by first | exact Nat.le_add_right _ _ | exact gw2 | exact gw3 | exact gwe rfl | exact gwf rfl | exact gwg rfl | exact gwh rfl | omega) (gg_f (gf_cons rfl (gf_cons rfl (gf_cons rfl (gf_cons rfl (gf_cons rfl (gf_cons rfl gf_nil)))))) (ct364 31 sc231 z340 y231_4 z354 z361 hIc231 hFc231 (in_w 1 31 j231_3 rfl) (in_w 0 31 i243 rfl) (in_w 2 32 i361 rfl) (m_in 31 (in_w 2 32 i361 rfl) rfl)))
            · skip
              refine g_aload_n 247 (gd rfl) rfl rfl ?_
              refine g_getA (q2 := 161) 250 (gd rfl) rfl rfl rfl rfl ?_
              refine g_bipush 32 252 (gd rfl) rfl rfl ?_
              refine g_iload 254 (gd rfl) rfl rfl ?_
              refine g_imul 255 (gd rfl) rfl (fun z254 e254 => ?_)
              have i254 := in_mulc 32 0 992 (Or.inl e254) j231_4 rfl rfl
              refine g_iload 257 (gd rfl) rfl rfl ?_
              refine g_iadd 258 (gd rfl) rfl (fun z257 e257 => ?_)
              have i257 := in_add 0 1023 e257 i254 i237 rfl rfl
              refine g_laload 259 (gd rfl) rfl (n := 1024) rfl (in_ix i257 rfl) (fun z258 e258 => ?_)
              refine g_lstore 261 (gd rfl) rfl (Nat.le_of_ble_eq_true rfl) ?_
              refine g_aload_n 262 (gd rfl) rfl rfl ?_
              refine g_getA (q2 := 161) 265 (gd rfl) rfl rfl rfl rfl ?_
              refine g_bipush 32 267 (gd rfl) rfl rfl ?_
              refine g_iload 269 (gd rfl) rfl rfl ?_
              refine g_imul 270 (gd rfl) rfl (fun z269 e269 => ?_)
              have i269 := in_mulc 32 0 992 (Or.inl e269) j231_4 rfl rfl
              refine g_iload 272 (gd rfl) rfl rfl ?_
              refine g_iadd 273 (gd rfl) rfl (fun z272 e272 => ?_)
              have i272 := in_add 0 1023 e272 i269 i237 rfl rfl
              refine g_aload_n 274 (gd rfl) rfl rfl ?_
              refine g_getA (q2 := 161) 277 (gd rfl) rfl rfl rfl rfl ?_
              refine g_bipush 32 279 (gd rfl) rfl rfl ?_
              refine g_iload_n 280 (gd rfl) rfl rfl ?_
              refine g_imul 281 (gd rfl) rfl (fun z280 e280 => ?_)
              have i280 := in_mulc 32 32 992 (Or.inl e280) j231_3 rfl rfl
              refine g_iload 283 (gd rfl) rfl rfl ?_
              refine g_iadd 284 (gd rfl) rfl (fun z283 e283 => ?_)
              have i283 := in_add 32 1023 e283 i280 i237 rfl rfl
              refine g_laload 285 (gd rfl) rfl (n := 1024) rfl (in_ix i283 rfl) (fun z284 e284 => ?_)
              refine g_lastore 286 (gd rfl) rfl (n := 1024) rfl (in_ix i272 rfl) ?_
              have hI285 := inv_sL (q := 161) (j := z272.toNatClampNeg) (x := z284) hIc231 rfl (l_rng z284)
              refine g_aload_n 287 (gd rfl) rfl rfl ?_
              refine g_getA (q2 := 161) 290 (gd rfl) rfl rfl rfl rfl ?_
              refine g_bipush 32 292 (gd rfl) rfl rfl ?_
              refine g_iload_n 293 (gd rfl) rfl rfl ?_
              refine g_imul 294 (gd rfl) rfl (fun z293 e293 => ?_)
              have i293 := in_mulc 32 32 992 (Or.inl e293) j231_3 rfl rfl
              refine g_iload 296 (gd rfl) rfl rfl ?_
              refine g_iadd 297 (gd rfl) rfl (fun z296 e296 => ?_)
              have i296 := in_add 32 1023 e296 i293 i237 rfl rfl
              refine g_lload 299 (gd rfl) rfl rfl ?_
              refine g_lastore 300 (gd rfl) rfl (n := 1024) rfl (in_ix i296 rfl) ?_
              have hI299 := inv_sL (q := 161) (j := z296.toNatClampNeg) (x := z258) hI285 rfl (l_rng z258)
              refine g_iinc 303 (gd rfl) rfl rfl (Nat.le_of_ble_eq_true rfl) (fun z300 e300 => ?_)
              have i300 := in_add 1 32 e300 i237 (in_c 1 rfl) rfl rfl
              refine g_goto 231 (gd rfl) rfl ?_
              exact gg_w (by first | exact Nat.le_add_right _ _ | exact gw2 | exact gw3 | exact gwe rfl | exact gwf rfl | exact gwg rfl | exact gwh rfl | omega) (gg_f (gf_cons rfl (gf_cons rfl (gf_cons rfl (gf_cons rfl (gf_cons rfl gf_nil))))) (ih231 (sL (sL sc231 161 z272.toNatClampNeg z284) 161 z296.toNatClampNeg z258) y231_4 z300 hI299 (fr_sL rfl (fr_sL rfl hFc231)) (in_w 1 31 j231_3 rfl) (in_w 0 31 j231_4 rfl) (in_w 0 32 i300 rfl) (m_up mm231 (t_add e300 i237 (in_c 1 rfl) rfl) (in_w 1 1 (in_c 1 rfl) rfl))))
      have ct185 : ∀ (k185 : Nat) (sc185 : GS) (y185_4 : Int32), Inv sc185 → Fr fm_368 s sc185 → (In y174_3 1 31) → (In y185_4 1 32) → ((y185_4).toInt ≤ (u_109_20).toInt) → 32 - (y185_4).toInt < (k185 : Int) → GG Z (d - 1) 368 post (gx xp) (1 + k174 * 1071935 + 1006234 + k185 * 900) 185 (fun j => xlook j [(0, .ref (A 109)), (1, .long y174_1), (3, .int y174_3), (4, .int y185_4)]) [] (WW Z A sc185 ++ ex) 0 0 := by
        intro k185
        induction k185 with
        | zero => intro sc185 y185_4 hIc185 hFc185 j185_3 j185_4 n185_0 mm185; exact m_no mm185 j185_4 rfl
        | succ k185 ih185 =>
          intro sc185 y185_4 hIc185 hFc185 j185_3 j185_4 n185_0 mm185
          refine gg_w (M := 1 + k174 * 1071935 + 1006234 + k185 * 900 + 900) gws ?_
          refine g_iload 187 (gd rfl) rfl rfl ?_
          refine g_aload_n 188 (gd rfl) rfl rfl ?_
          refine g_getI 191 (gd rfl) rfl rfl rfl (fun z188 e188 => ?_)
          have q188 : u_109_20 = z188 := (fr_F e_109_20 hFc185 rfl).trans e188.symm
          subst q188
          refine g_cmp_ge 194 217 (gd rfl) rfl rfl (fun c191 => ?_) (fun c191 => ?_)
          · skip
            refine g_iload 219 (gd rfl) rfl rfl ?_
            refine g_aload_n 220 (gd rfl) rfl rfl ?_
            refine g_getI 223 (gd rfl) rfl rfl rfl (fun z220 e220 => ?_)
            have q220 : u_109_20 = z220 := (fr_F e_109_20 hFc185 rfl).trans e220.symm
            subst q220
            refine g_cmp_ne 226 228 (gd rfl) rfl rfl (fun c223 => ?_) (fun c223 => ?_)
            · skip
              refine g_iconst 0 229 (gd rfl) rfl rfl ?_
              refine g_istore 231 (gd rfl) rfl (Nat.le_of_ble_eq_true rfl) ?_
              have i231 : In y185_4 0 31 := by exact ⟨by (first | have a0 := in_u j185_3 | (have a0 := j185_3; unfold In at a0)); (first | have a1 := in_u ro_109_20 | (have a1 := ro_109_20; unfold In at a1)); (first | have a2 := in_u ro_109_19 | (have a2 := ro_109_19; unfold In at a2)); (first | have a3 := in_u j185_4 | (have a3 := j185_4; unfold In at a3)); (first | have a4 := in_u ((in_c 0 rfl)) | (have a4 := (in_c 0 rfl); unfold In at a4)); omega, by (first | have a0 := in_u j185_3 | (have a0 := j185_3; unfold In at a0)); (first | have a1 := in_u ro_109_20 | (have a1 := ro_109_20; unfold In at a1)); (first | have a2 := in_u ro_109_19 | (have a2 := ro_109_19; unfold In at a2)); (first | have a3 := in_u j185_4 | (have a3 := j185_4; unfold In at a3)); (first | have a4 := in_u ((in_c 0 rfl)) | (have a4 := (in_c 0 rfl); unfold In at a4)); omega⟩
              exact gg_w (by first | exact Nat.le_add_right _ _ | exact gw2 | exact gw3 | exact gwe rfl | exact gwf rfl | exact gwg rfl | exact gwh rfl | omega) (gg_f (gf_cons rfl (gf_cons rfl (gf_cons rfl (gf_cons rfl (gf_cons rfl gf_nil))))) (ct231 33 sc185 y185_4 (Int32.ofInt 0) hIc185 hFc185 (in_w 1 31 j185_3 rfl) i231 (in_w 0 32 (in_c 0 rfl) rfl) (m_in 33 (in_w 0 32 (in_c 0 rfl) rfl) rfl)))
            · skip
              have i223 := r_eq2 1 32 c223 j185_4 ro_109_20 rfl
              refine g_iconst 0 227 (gd rfl) rfl rfl ?_
              exact g_ireturn (gd rfl) rfl rfl (hP _ _ ⟨sc185, hIc185, hFc185, (Int32.ofInt 0), rfl, rfl, in_w (-2147483648) 2147483647 (in_c 0 rfl) rfl⟩)
          · skip
            have i191 := r_lt1 1 31 c191 j185_4 ro_109_20 rfl
            have i191a := r_lt2 2 32 c191 j185_4 ro_109_20 rfl
            refine g_aload_n 195 (gd rfl) rfl rfl ?_
            refine g_getA (q2 := 161) 198 (gd rfl) rfl rfl rfl rfl ?_
            refine g_bipush 32 200 (gd rfl) rfl rfl ?_
            refine g_iload 202 (gd rfl) rfl rfl ?_
            refine g_imul 203 (gd rfl) rfl (fun z202 e202 => ?_)
            have i202 := in_mulc 32 32 992 (Or.inl e202) i191 rfl rfl
            refine g_iload_n 204 (gd rfl) rfl rfl ?_
            refine g_iadd 205 (gd rfl) rfl (fun z204 e204 => ?_)
            have i204 := in_add 33 1023 e204 i202 j185_3 rfl rfl
            refine g_laload 206 (gd rfl) rfl (n := 1024) rfl (in_ix i204 rfl) (fun z205 e205 => ?_)
            refine g_lconst 0 207 (gd rfl) rfl rfl ?_
            refine g_lcmp 208 (gd rfl) rfl (fun z207 e207 => ?_)
            have i207 := lc_in e207
            refine g_if_ne 211 217 (gd rfl) rfl rfl (fun c208 => ?_) (fun c208 => ?_)
            · skip
              have c208a := lc_ne e207 c208
              refine g_iload 219 (gd rfl) rfl rfl ?_
              refine g_aload_n 220 (gd rfl) rfl rfl ?_
              refine g_getI 223 (gd rfl) rfl rfl rfl (fun z220 e220 => ?_)
              have q220 : u_109_20 = z220 := (fr_F e_109_20 hFc185 rfl).trans e220.symm
              subst q220
              refine g_cmp_ne 226 228 (gd rfl) rfl rfl (fun c223 => ?_) (fun c223 => ?_)
              · skip
                refine g_iconst 0 229 (gd rfl) rfl rfl ?_
                refine g_istore 231 (gd rfl) rfl (Nat.le_of_ble_eq_true rfl) ?_
                exact gg_w (by first | exact Nat.le_add_right _ _ | exact gw2 | exact gw3 | exact gwe rfl | exact gwf rfl | exact gwg rfl | exact gwh rfl | omega) (gg_f (gf_cons rfl (gf_cons rfl (gf_cons rfl (gf_cons rfl (gf_cons rfl gf_nil))))) (ct231 33 sc185 y185_4 (Int32.ofInt 0) hIc185 hFc185 (in_w 1 31 j185_3 rfl) (in_w 0 31 i191 rfl) (in_w 0 32 (in_c 0 rfl) rfl) (m_in 33 (in_w 0 32 (in_c 0 rfl) rfl) rfl)))
              · skip
                have i223 := r_eq1 2 31 c223 i191 i191a rfl
                have i223a := r_eq2 2 31 c223 i191 i191a rfl
                refine g_iconst 0 227 (gd rfl) rfl rfl ?_
                exact g_ireturn (gd rfl) rfl rfl (hP _ _ ⟨sc185, hIc185, hFc185, (Int32.ofInt 0), rfl, rfl, in_w (-2147483648) 2147483647 (in_c 0 rfl) rfl⟩)
            · skip
              have i208 := z_eq 0 0 c208 i207 rfl
              have c208a := lc_eq e207 c208
              have i208a := lr_eq1 0 0 c208a (l_rng z205) (l_c 0 rfl) rfl
              refine g_iinc 214 (gd rfl) rfl rfl (Nat.le_of_ble_eq_true rfl) (fun z211 e211 => ?_)
              have i211 := in_add 2 32 e211 i191 (in_c 1 rfl) rfl rfl
              refine g_goto 185 (gd rfl) rfl ?_
              have n185 : (z211).toInt ≤ (u_109_20).toInt := by (first | have a0 := in_u j185_3 | (have a0 := j185_3; unfold In at a0)); (first | have a1 := in_u i191a | (have a1 := i191a; unfold In at a1)); (first | have a2 := in_u ro_109_19 | (have a2 := ro_109_19; unfold In at a2)); (first | have a3 := in_u i191 | (have a3 := i191; unfold In at a3)); (first | have a4 := in_u i211 | (have a4 := i211; unfold In at a4)); have a5 := t_add e211 i191 (in_c 1 rfl) rfl; (first | have a6 := in_u ((in_c 1 rfl)) | (have a6 := (in_c 1 rfl); unfold In at a6)); (first | have a7 := in_u i204 | (have a7 := i204; unfold In at a7)); have a8 := t_add e204 i202 j185_3 rfl; (first | have a9 := in_u i202 | (have a9 := i202; unfold In at a9)); have a10 := (t_mulc 32 (Or.inl e202) i191 rfl).1; omega
              exact gg_w (by first | exact Nat.le_add_right _ _ | exact gw2 | exact gw3 | exact gwe rfl | exact gwf rfl | exact gwg rfl | exact gwh rfl | omega) (gg_f (gf_cons rfl (gf_cons rfl (gf_cons rfl (gf_cons rfl gf_nil)))) (ih185 sc185 z211 hIc185 hFc185 (in_w 1 31 j185_3 rfl) (in_w 1 32 i211 rfl) n185 (m_up mm185 (t_add e211 i191 (in_c 1 rfl) rfl) (in_w 1 1 (in_c 1 rfl) rfl))))
      refine g_iload_n 175 (gd rfl) rfl rfl ?_
      refine g_aload_n 176 (gd rfl) rfl rfl ?_
      refine g_getI 179 (gd rfl) rfl rfl rfl (fun z176 e176 => ?_)
      have q176 : u_109_20 = z176 := (fr_F e_109_20 hFc174 rfl).trans e176.symm
      subst q176
      refine g_cmp_ge 182 474 (gd rfl) rfl rfl (fun c179 => ?_) (fun c179 => ?_)
      · skip
        refine g_lload_n 475 (gd rfl) rfl rfl ?_
        refine g_l2i 476 (gd rfl) rfl (fun z475 e475 => ?_)
        exact g_ireturn (gd rfl) rfl rfl (hP _ _ ⟨sc174, hIc174, hFc174, z475, rfl, rfl, in_w (-2147483648) 2147483647 (i_rng z475) rfl⟩)
      · skip
        have i179 := r_lt1 1 31 c179 j174_3 ro_109_20 rfl
        have i179a := r_lt2 2 32 c179 j174_3 ro_109_20 rfl
        refine g_iload_n 183 (gd rfl) rfl rfl ?_
        refine g_istore 185 (gd rfl) rfl (Nat.le_of_ble_eq_true rfl) ?_
        have n185 : (y174_3).toInt ≤ (u_109_20).toInt := by (first | have a0 := in_u i179a | (have a0 := i179a; unfold In at a0)); (first | have a1 := in_u ro_109_19 | (have a1 := ro_109_19; unfold In at a1)); (first | have a2 := in_u i179 | (have a2 := i179; unfold In at a2)); omega
        exact gg_w (by first | exact Nat.le_add_right _ _ | exact gw2 | exact gw3 | exact gwe rfl | exact gwf rfl | exact gwg rfl | exact gwh rfl | omega) (gg_f (gf_cons rfl (gf_cons rfl (gf_cons rfl (gf_cons rfl gf_nil)))) (ct185 32 sc174 y174_3 hIc174 hFc174 (in_w 1 31 i179 rfl) (in_w 1 32 i179 rfl) n185 (m_in 32 (in_w 1 32 i179 rfl) rfl)))
  have ct145 : ∀ (k145 : Nat) (sc145 : GS) (y145_1 : Int32), Inv sc145 → Fr fm_368 s sc145 → (In y145_1 0 1024) → 1024 - (y145_1).toInt < (k145 : Int) → GG Z (d - 1) 368 post (gx xp) (34301922 + k145 * 900) 145 (fun j => xlook j [(0, .ref (A 109)), (1, .int y145_1)]) [] (WW Z A sc145 ++ ex) 0 0 := by
    intro k145
    induction k145 with
    | zero => intro sc145 y145_1 hIc145 hFc145 j145_1 mm145; exact m_no mm145 j145_1 rfl
    | succ k145 ih145 =>
      intro sc145 y145_1 hIc145 hFc145 j145_1 mm145
      refine gg_w (M := 34301922 + k145 * 900 + 900) gws ?_
      refine g_iload_n 146 (gd rfl) rfl rfl ?_
      refine g_sipush 1024 149 (gd rfl) rfl rfl ?_
      refine g_cmp_ge 152 170 (gd rfl) rfl rfl (fun c149 => ?_) (fun c149 => ?_)
      · skip
        have i149 := r_le2 1024 1024 c149 (in_c 1024 rfl) j145_1 rfl
        refine g_lconst 1 171 (gd rfl) rfl rfl ?_
        refine g_lstore_n 172 (gd rfl) rfl (Nat.le_of_ble_eq_true rfl) ?_
        refine g_iconst 1 173 (gd rfl) rfl rfl ?_
        refine g_istore_n 174 (gd rfl) rfl (Nat.le_of_ble_eq_true rfl) ?_
        exact gg_w (by first | exact Nat.le_add_right _ _ | exact gw2 | exact gw3 | exact gwe rfl | exact gwf rfl | exact gwg rfl | exact gwh rfl | omega) (gg_f (gf_cons rfl (gf_cons rfl (gf_cons rfl gf_nil))) (ct174 32 sc145 (Int64.ofInt 1) (Int32.ofInt 1) hIc145 hFc145 (in_w 1 32 (in_c 1 rfl) rfl) (m_in 32 (in_w 1 32 (in_c 1 rfl) rfl) rfl)))
      · skip
        have i149 := r_lt1 0 1023 c149 j145_1 (in_c 1024 rfl) rfl
        refine g_aload_n 153 (gd rfl) rfl rfl ?_
        refine g_getA (q2 := 161) 156 (gd rfl) rfl rfl rfl rfl ?_
        refine g_iload_n 157 (gd rfl) rfl rfl ?_
        refine g_dup2 158 (gd rfl) rfl rfl rfl ?_
        refine g_laload 159 (gd rfl) rfl (n := 1024) rfl (in_ix i149 rfl) (fun z158 e158 => ?_)
        refine g_ldc2_w 1000000007 162 (gd rfl) rfl rfl ?_
        refine g_lrem 163 (gd rfl) rfl (by decide) (fun z162 e162 => ?_)
        have i162 := l_rem (-1000000006) 1000000006 e162 rfl
        refine g_lastore 164 (gd rfl) rfl (n := 1024) rfl (in_ix i149 rfl) ?_
        have hI163 := inv_sL (q := 161) (j := y145_1.toNatClampNeg) (x := z162) hIc145 rfl (l_rng z162)
        refine g_iinc 167 (gd rfl) rfl rfl (Nat.le_of_ble_eq_true rfl) (fun z164 e164 => ?_)
        have i164 := in_add 1 1024 e164 i149 (in_c 1 rfl) rfl rfl
        refine g_goto 145 (gd rfl) rfl ?_
        exact gg_w (by first | exact Nat.le_add_right _ _ | exact gw2 | exact gw3 | exact gwe rfl | exact gwf rfl | exact gwg rfl | exact gwh rfl | omega) (gg_f (gf_cons rfl (gf_cons rfl gf_nil)) (ih145 (sL sc145 161 y145_1.toNatClampNeg z162) z164 hI163 (fr_sL rfl hFc145) (in_w 0 1024 i164 rfl) (m_up mm145 (t_add e164 i149 (in_c 1 rfl) rfl) (in_w 1 1 (in_c 1 rfl) rfl))))
  have ct38 : ∀ (k38 : Nat) (sc38 : GS) (y38_1 : Int32), Inv sc38 → Fr fm_368 s sc38 → (In y38_1 0 160) → 160 - (y38_1).toInt < (k38 : Int) → GG Z (d - 1) 368 post (gx xp) (35224423 + k38 * 900) 38 (fun j => xlook j [(0, .ref (A 109)), (1, .int y38_1)]) [] (WW Z A sc38 ++ ex) 0 0 := by
    intro k38
    induction k38 with
    | zero => intro sc38 y38_1 hIc38 hFc38 j38_1 mm38; exact m_no mm38 j38_1 rfl
    | succ k38 ih38 =>
      intro sc38 y38_1 hIc38 hFc38 j38_1 mm38
      refine gg_w (M := 35224423 + k38 * 900 + 900) gws ?_
      refine g_iload_n 39 (gd rfl) rfl rfl ?_
      refine g_sipush 160 42 (gd rfl) rfl rfl ?_
      refine g_cmp_ge 45 143 (gd rfl) rfl rfl (fun c42 => ?_) (fun c42 => ?_)
      · skip
        have i42 := r_le2 160 160 c42 (in_c 160 rfl) j38_1 rfl
        refine g_iconst 0 144 (gd rfl) rfl rfl ?_
        refine g_istore_n 145 (gd rfl) rfl (Nat.le_of_ble_eq_true rfl) ?_
        exact gg_w (by first | exact Nat.le_add_right _ _ | exact gw2 | exact gw3 | exact gwe rfl | exact gwf rfl | exact gwg rfl | exact gwh rfl | omega) (gg_f (gf_cons rfl (gf_cons rfl gf_nil)) (ct145 1025 sc38 (Int32.ofInt 0) hIc38 hFc38 (in_w 0 1024 (in_c 0 rfl) rfl) (m_in 1025 (in_w 0 1024 (in_c 0 rfl) rfl) rfl)))
      · skip
        have i42 := r_lt1 0 159 c42 j38_1 (in_c 160 rfl) rfl
        refine g_aload_n 46 (gd rfl) rfl rfl ?_
        refine g_iload_n 47 (gd rfl) rfl rfl ?_
        refine g_callv (X := _) (As := [.int y38_1]) (r := []) (b := A 109) (q := 109) 50 (gd rfl) rfl rfl rfl rfl rfl (ww_o rfl) (Nat.le_of_ble_eq_true rfl) (mc := 0) (ms := 0) (Nat.zero_le _) (Nat.zero_le _) (P := fun v u => _) ?_ (fun e u h => h) (fun v u h => h)
        intro po47 xx47 hp47 hx47
        refine g_enter2 (k := 288) (N := 300) (by first | exact dq1 hd rfl | exact dq0 hd rfl | exact dq2 hd rfl | exact dq3 hd rfl | omega) rfl (Nat.le_of_ble_eq_true rfl) ?_
        refine g_aload_n 1 (gd rfl) rfl rfl ?_
        refine g_getA (q2 := 112) 4 (gd rfl) rfl rfl rfl rfl ?_
        refine g_aload_n 5 (gd rfl) rfl rfl ?_
        refine g_getI 8 (gd rfl) rfl rfl rfl (fun z47x5 e47x5 => ?_)
        have q47x5 : u_109_19 = z47x5 := (fr_F e_109_19 hFc38 rfl).trans e47x5.symm
        subst q47x5
        refine g_iload_n 9 (gd rfl) rfl rfl ?_
        refine g_iadd 10 (gd rfl) rfl (fun z47x9 e47x9 => ?_)
        have i47x9 := in_add 0 319 e47x9 ro_109_19 i42 rfl rfl
        refine g_baload 11 (gd rfl) rfl (n := 480) rfl (in_ix i47x9 rfl) (fun z47x10 e47x10 => ?_)
        have i47x10 := inv_I hIc38 (n := 480) (t := 3) 0 1 rfl (in_ix i47x9 rfl) rfl e47x10
        refine g_if_eq 14 43 (gd rfl) rfl rfl (fun c47x11 => ?_) (fun c47x11 => ?_)
        · skip
          have i47x11 := z_eq 0 0 c47x11 i47x10 rfl
          refine g_iconst 0 44 (gd rfl) rfl rfl ?_
          refine g_ireturn (gd rfl) rfl (nb01 (in_w 0 1 (in_c 0 rfl) rfl)) (hp47 _ _ ?_)
          show GG _ _ _ _ _ _ _ _ [.int (Int32.ofInt 0)] _ _ _
          refine g_if_eq 53 137 (gd rfl) rfl rfl (fun c50 => ?_) (fun c50 => ?_)
          · skip
            refine g_iinc 140 (gd rfl) rfl rfl (Nat.le_of_ble_eq_true rfl) (fun z137 e137 => ?_)
            have i137 := in_add 1 160 e137 i42 (in_c 1 rfl) rfl rfl
            refine g_goto 38 (gd rfl) rfl ?_
            exact gg_w (by first | exact Nat.le_add_right _ _ | exact gw2 | exact gw3 | exact gwe rfl | exact gwf rfl | exact gwg rfl | exact gwh rfl | omega) (gg_f (gf_cons rfl (gf_cons rfl gf_nil)) (ih38 sc38 z137 hIc38 hFc38 (in_w 0 160 i137 rfl) (m_up mm38 (t_add e137 i42 (in_c 1 rfl) rfl) (in_w 1 1 (in_c 1 rfl) rfl))))
          · skip
            exact zn_ne c50 (in_c 0 rfl) rfl
        · skip
          have i47x11 := z_ne 1 1 c47x11 i47x10 rfl
          refine g_aload_n 15 (gd rfl) rfl rfl ?_
          refine g_getA (q2 := 113) 18 (gd rfl) rfl rfl rfl rfl ?_
          refine g_aload_n 19 (gd rfl) rfl rfl ?_
          refine g_getI 22 (gd rfl) rfl rfl rfl (fun z47x19 e47x19 => ?_)
          have q47x19 : u_109_19 = z47x19 := (fr_F e_109_19 hFc38 rfl).trans e47x19.symm
          subst q47x19
          refine g_iload_n 23 (gd rfl) rfl rfl ?_
          refine g_iadd 24 (gd rfl) rfl (fun z47x23 e47x23 => ?_)
          have i47x23 := in_add 0 319 e47x23 ro_109_19 i42 rfl rfl
          refine g_iaload 25 (gd rfl) rfl (n := 480) rfl (in_ix i47x23 rfl) (fun z47x24 e47x24 => ?_)
          have i47x24 := inv_I hIc38 (n := 480) (t := 0) 0 31 rfl (in_ix i47x23 rfl) rfl e47x24
          refine g_aload_n 26 (gd rfl) rfl rfl ?_
          refine g_getA (q2 := 114) 29 (gd rfl) rfl rfl rfl rfl ?_
          refine g_aload_n 30 (gd rfl) rfl rfl ?_
          refine g_getI 33 (gd rfl) rfl rfl rfl (fun z47x30 e47x30 => ?_)
          have q47x30 : u_109_19 = z47x30 := (fr_F e_109_19 hFc38 rfl).trans e47x30.symm
          subst q47x30
          refine g_iload_n 34 (gd rfl) rfl rfl ?_
          refine g_iadd 35 (gd rfl) rfl (fun z47x34 e47x34 => ?_)
          have i47x34 := in_add 0 319 e47x34 ro_109_19 i42 rfl rfl
          refine g_iaload 36 (gd rfl) rfl (n := 480) rfl (in_ix i47x34 rfl) (fun z47x35 e47x35 => ?_)
          have i47x35 := inv_I hIc38 (n := 480) (t := 0) 0 31 rfl (in_ix i47x34 rfl) rfl e47x35
          refine g_cmp_eq 39 43 (gd rfl) rfl rfl (fun c47x36 => ?_) (fun c47x36 => ?_)
          · skip
            refine g_iconst 0 44 (gd rfl) rfl rfl ?_
            refine g_ireturn (gd rfl) rfl (nb01 (in_w 0 1 (in_c 0 rfl) rfl)) (hp47 _ _ ?_)
            show GG _ _ _ _ _ _ _ _ [.int (Int32.ofInt 0)] _ _ _
            refine g_if_eq 53 137 (gd rfl) rfl rfl (fun c50 => ?_) (fun c50 => ?_)
            · skip
              refine g_iinc 140 (gd rfl) rfl rfl (Nat.le_of_ble_eq_true rfl) (fun z137 e137 => ?_)
              have i137 := in_add 1 160 e137 i42 (in_c 1 rfl) rfl rfl
              refine g_goto 38 (gd rfl) rfl ?_
              exact gg_w (by first | exact Nat.le_add_right _ _ | exact gw2 | exact gw3 | exact gwe rfl | exact gwf rfl | exact gwg rfl | exact gwh rfl | omega) (gg_f (gf_cons rfl (gf_cons rfl gf_nil)) (ih38 sc38 z137 hIc38 hFc38 (in_w 0 160 i137 rfl) (m_up mm38 (t_add e137 i42 (in_c 1 rfl) rfl) (in_w 1 1 (in_c 1 rfl) rfl))))
            · skip
              exact zn_ne c50 (in_c 0 rfl) rfl
          · skip
            refine g_iconst 1 40 (gd rfl) rfl rfl ?_
            refine g_goto 44 (gd rfl) rfl ?_
            refine g_ireturn (gd rfl) rfl (nb01 (in_w 0 1 (in_c 1 rfl) rfl)) (hp47 _ _ ?_)
            show GG _ _ _ _ _ _ _ _ [.int (Int32.ofInt 1)] _ _ _
            refine g_if_eq 53 137 (gd rfl) rfl rfl (fun c50 => ?_) (fun c50 => ?_)
            · skip
              exact zn_eq c50 (in_c 1 rfl) rfl
            · skip
              refine g_aload_n 54 (gd rfl) rfl rfl ?_
              refine g_getA (q2 := 113) 57 (gd rfl) rfl rfl rfl rfl ?_
              refine g_aload_n 58 (gd rfl) rfl rfl ?_
              refine g_getI 61 (gd rfl) rfl rfl rfl (fun z58 e58 => ?_)
              have q58 : u_109_19 = z58 := (fr_F e_109_19 hFc38 rfl).trans e58.symm
              subst q58
              refine g_iload_n 62 (gd rfl) rfl rfl ?_
              refine g_iadd 63 (gd rfl) rfl (fun z62 e62 => ?_)
              have i62 := in_add 0 319 e62 ro_109_19 i42 rfl rfl
              refine g_iaload 64 (gd rfl) rfl (n := 480) rfl (in_ix i62 rfl) (fun z63 e63 => ?_)
              have i63 := inv_I hIc38 (n := 480) (t := 0) 0 31 rfl (in_ix i62 rfl) rfl e63
              refine g_istore_n 65 (gd rfl) rfl (Nat.le_of_ble_eq_true rfl) ?_
              refine g_aload_n 66 (gd rfl) rfl rfl ?_
              refine g_getA (q2 := 114) 69 (gd rfl) rfl rfl rfl rfl ?_
              refine g_aload_n 70 (gd rfl) rfl rfl ?_
              refine g_getI 73 (gd rfl) rfl rfl rfl (fun z70 e70 => ?_)
              have q70 : u_109_19 = z70 := (fr_F e_109_19 hFc38 rfl).trans e70.symm
              subst q70
              refine g_iload_n 74 (gd rfl) rfl rfl ?_
              refine g_iadd 75 (gd rfl) rfl (fun z74 e74 => ?_)
              have i74 := in_add 0 319 e74 ro_109_19 i42 rfl rfl
              refine g_iaload 76 (gd rfl) rfl (n := 480) rfl (in_ix i74 rfl) (fun z75 e75 => ?_)
              have i75 := inv_I hIc38 (n := 480) (t := 0) 0 31 rfl (in_ix i74 rfl) rfl e75
              refine g_istore_n 77 (gd rfl) rfl (Nat.le_of_ble_eq_true rfl) ?_
              refine g_aload_n 78 (gd rfl) rfl rfl ?_
              refine g_getA (q2 := 161) 81 (gd rfl) rfl rfl rfl rfl ?_
              refine g_bipush 33 83 (gd rfl) rfl rfl ?_
              refine g_iload_n 84 (gd rfl) rfl rfl ?_
              refine g_imul 85 (gd rfl) rfl (fun z84 e84 => ?_)
              have i84 := in_mulc 33 0 1023 (Or.inl e84) i63 rfl rfl
              refine g_dup2 86 (gd rfl) rfl rfl rfl ?_
              refine g_laload 87 (gd rfl) rfl (n := 1024) rfl (in_ix i84 rfl) (fun z86 e86 => ?_)
              refine g_lconst 1 88 (gd rfl) rfl rfl ?_
              refine g_ladd 89 (gd rfl) rfl (fun z88 e88 => ?_)
              refine g_lastore 90 (gd rfl) rfl (n := 1024) rfl (in_ix i84 rfl) ?_
              have hI89 := inv_sL (q := 161) (j := z84.toNatClampNeg) (x := z88) hIc38 rfl (l_rng z88)
              refine g_aload_n 91 (gd rfl) rfl rfl ?_
              refine g_getA (q2 := 161) 94 (gd rfl) rfl rfl rfl rfl ?_
              refine g_bipush 33 96 (gd rfl) rfl rfl ?_
              refine g_iload_n 97 (gd rfl) rfl rfl ?_
              refine g_imul 98 (gd rfl) rfl (fun z97 e97 => ?_)
              have i97 := in_mulc 33 0 1023 (Or.inl e97) i75 rfl rfl
              refine g_dup2 99 (gd rfl) rfl rfl rfl ?_
              refine g_laload 100 (gd rfl) rfl (n := 1024) rfl (in_ix i97 rfl) (fun z99 e99 => ?_)
              refine g_lconst 1 101 (gd rfl) rfl rfl ?_
              refine g_ladd 102 (gd rfl) rfl (fun z101 e101 => ?_)
              refine g_lastore 103 (gd rfl) rfl (n := 1024) rfl (in_ix i97 rfl) ?_
              have hI102 := inv_sL (q := 161) (j := z97.toNatClampNeg) (x := z101) hI89 rfl (l_rng z101)
              refine g_aload_n 104 (gd rfl) rfl rfl ?_
              refine g_getA (q2 := 161) 107 (gd rfl) rfl rfl rfl rfl ?_
              refine g_bipush 32 109 (gd rfl) rfl rfl ?_
              refine g_iload_n 110 (gd rfl) rfl rfl ?_
              refine g_imul 111 (gd rfl) rfl (fun z110 e110 => ?_)
              have i110 := in_mulc 32 0 992 (Or.inl e110) i63 rfl rfl
              refine g_iload_n 112 (gd rfl) rfl rfl ?_
              refine g_iadd 113 (gd rfl) rfl (fun z112 e112 => ?_)
              have i112 := in_add 0 1023 e112 i110 i75 rfl rfl
              refine g_dup2 114 (gd rfl) rfl rfl rfl ?_
              refine g_laload 115 (gd rfl) rfl (n := 1024) rfl (in_ix i112 rfl) (fun z114 e114 => ?_)
              refine g_ldc2_w 1000000006 118 (gd rfl) rfl rfl ?_
              refine g_ladd 119 (gd rfl) rfl (fun z118 e118 => ?_)
              refine g_lastore 120 (gd rfl) rfl (n := 1024) rfl (in_ix i112 rfl) ?_
              have hI119 := inv_sL (q := 161) (j := z112.toNatClampNeg) (x := z118) hI102 rfl (l_rng z118)
              refine g_aload_n 121 (gd rfl) rfl rfl ?_
              refine g_getA (q2 := 161) 124 (gd rfl) rfl rfl rfl rfl ?_
              refine g_bipush 32 126 (gd rfl) rfl rfl ?_
              refine g_iload_n 127 (gd rfl) rfl rfl ?_
              refine g_imul 128 (gd rfl) rfl (fun z127 e127 => ?_)
              have i127 := in_mulc 32 0 992 (Or.inl e127) i75 rfl rfl
              refine g_iload_n 129 (gd rfl) rfl rfl ?_
              refine g_iadd 130 (gd rfl) rfl (fun z129 e129 => ?_)
              have i129 := in_add 0 1023 e129 i127 i63 rfl rfl
              refine g_dup2 131 (gd rfl) rfl rfl rfl ?_
              refine g_laload 132 (gd rfl) rfl (n := 1024) rfl (in_ix i129 rfl) (fun z131 e131 => ?_)
              refine g_ldc2_w 1000000006 135 (gd rfl) rfl rfl ?_
              refine g_ladd 136 (gd rfl) rfl (fun z135 e135 => ?_)
              refine g_lastore 137 (gd rfl) rfl (n := 1024) rfl (in_ix i129 rfl) ?_
              have hI136 := inv_sL (q := 161) (j := z129.toNatClampNeg) (x := z135) hI119 rfl (l_rng z135)
              refine g_iinc 140 (gd rfl) rfl rfl (Nat.le_of_ble_eq_true rfl) (fun z137 e137 => ?_)
              have i137 := in_add 1 160 e137 i42 (in_c 1 rfl) rfl rfl
              refine g_goto 38 (gd rfl) rfl ?_
              exact gg_w (by first | exact Nat.le_add_right _ _ | exact gw2 | exact gw3 | exact gwe rfl | exact gwf rfl | exact gwg rfl | exact gwh rfl | omega) (gg_f (gf_cons rfl (gf_cons rfl gf_nil)) (ih38 (sL (sL (sL (sL sc38 161 z84.toNatClampNeg z88) 161 z97.toNatClampNeg z101) 161 z112.toNatClampNeg z118) 161 z129.toNatClampNeg z135) z137 hI136 (fr_sL rfl (fr_sL rfl (fr_sL rfl (fr_sL rfl hFc38)))) (in_w 0 160 i137 rfl) (m_up mm38 (t_add e137 i42 (in_c 1 rfl) rfl) (in_w 1 1 (in_c 1 rfl) rfl))))
  have ct16 : ∀ (k16 : Nat) (sc16 : GS) (y16_1 : Int32), Inv sc16 → Fr fm_368 s sc16 → (In y16_1 0 1024) → 1024 - (y16_1).toInt < (k16 : Int) → GG Z (d - 1) 368 post (gx xp) (35369324 + k16 * 900) 16 (fun j => xlook j [(0, .ref (A 109)), (1, .int y16_1)]) [] (WW Z A sc16 ++ ex) 0 0 := by
    intro k16
    induction k16 with
    | zero => intro sc16 y16_1 hIc16 hFc16 j16_1 mm16; exact m_no mm16 j16_1 rfl
    | succ k16 ih16 =>
      intro sc16 y16_1 hIc16 hFc16 j16_1 mm16
      refine gg_w (M := 35369324 + k16 * 900 + 900) gws ?_
      refine g_iload_n 17 (gd rfl) rfl rfl ?_
      refine g_sipush 1024 20 (gd rfl) rfl rfl ?_
      refine g_cmp_ge 23 36 (gd rfl) rfl rfl (fun c20 => ?_) (fun c20 => ?_)
      · skip
        have i20 := r_le2 1024 1024 c20 (in_c 1024 rfl) j16_1 rfl
        refine g_iconst 0 37 (gd rfl) rfl rfl ?_
        refine g_istore_n 38 (gd rfl) rfl (Nat.le_of_ble_eq_true rfl) ?_
        exact gg_w (by first | exact Nat.le_add_right _ _ | exact gw2 | exact gw3 | exact gwe rfl | exact gwf rfl | exact gwg rfl | exact gwh rfl | omega) (gg_f (gf_cons rfl (gf_cons rfl gf_nil)) (ct38 161 sc16 (Int32.ofInt 0) hIc16 hFc16 (in_w 0 160 (in_c 0 rfl) rfl) (m_in 161 (in_w 0 160 (in_c 0 rfl) rfl) rfl)))
      · skip
        have i20 := r_lt1 0 1023 c20 j16_1 (in_c 1024 rfl) rfl
        refine g_aload_n 24 (gd rfl) rfl rfl ?_
        refine g_getA (q2 := 161) 27 (gd rfl) rfl rfl rfl rfl ?_
        refine g_iload_n 28 (gd rfl) rfl rfl ?_
        refine g_lconst 0 29 (gd rfl) rfl rfl ?_
        refine g_lastore 30 (gd rfl) rfl (n := 1024) rfl (in_ix i20 rfl) ?_
        have hI29 := inv_sL (q := 161) (j := y16_1.toNatClampNeg) (x := (Int64.ofInt 0)) hIc16 rfl (l_rng (Int64.ofInt 0))
        refine g_iinc 33 (gd rfl) rfl rfl (Nat.le_of_ble_eq_true rfl) (fun z30 e30 => ?_)
        have i30 := in_add 1 1024 e30 i20 (in_c 1 rfl) rfl rfl
        refine g_goto 16 (gd rfl) rfl ?_
        exact gg_w (by first | exact Nat.le_add_right _ _ | exact gw2 | exact gw3 | exact gwe rfl | exact gwf rfl | exact gwg rfl | exact gwh rfl | omega) (gg_f (gf_cons rfl (gf_cons rfl gf_nil)) (ih16 (sL sc16 161 y16_1.toNatClampNeg (Int64.ofInt 0)) z30 hI29 (fr_sL rfl hFc16) (in_w 0 1024 i30 rfl) (m_up mm16 (t_add e30 i20 (in_c 1 rfl) rfl) (in_w 1 1 (in_c 1 rfl) rfl))))
  refine g_enter2 (k := 368) (N := 36292724) (by first | exact dq1 hd rfl | exact dq0 hd rfl | exact dq2 hd rfl | exact dq3 hd rfl | omega) rfl (Nat.le_of_ble_eq_true rfl) ?_
  refine g_aload_n 1 (gd rfl) rfl rfl ?_
  refine g_iconst 0 2 (gd rfl) rfl rfl ?_
  refine g_putI 5 (gd rfl) rfl rfl rfl rfl ?_
  have hI2 := inv_sF (q := 109) (j := 0) hI rfl (in_w 0 2 (in_c 0 rfl) rfl)
  refine g_aload_n 6 (gd rfl) rfl rfl ?_
  refine g_getI 9 (gd rfl) rfl rfl rfl (fun z6 e6 => ?_)
  have q6 : u_109_20 = z6 := (sF_ne rfl (e_109_20)).trans e6.symm
  subst q6
  refine g_if_ne 12 14 (gd rfl) rfl rfl (fun c9 => ?_) (fun c9 => ?_)
  · skip
    have i9 := z_ne 1 32 c9 ro_109_20 rfl
    refine g_iconst 0 15 (gd rfl) rfl rfl ?_
    refine g_istore_n 16 (gd rfl) rfl (Nat.le_of_ble_eq_true rfl) ?_
    exact gg_w (by first | exact Nat.le_of_ble_eq_true rfl | omega) (gg_f (gf_cons rfl (gf_cons rfl gf_nil)) (ct16 1025 (sF s 109 0 (Int32.ofInt 0)) (Int32.ofInt 0) hI2 (fr_sF rfl fr_rf) (in_w 0 1024 (in_c 0 rfl) rfl) (m_in 1025 (in_w 0 1024 (in_c 0 rfl) rfl) rfl)))
  · skip
    have i9 := z_eq 0 0 c9 ro_109_20 rfl
    refine g_iconst 0 13 (gd rfl) rfl rfl ?_
    exact g_ireturn (gd rfl) rfl rfl (hP _ _ ⟨(sF s 109 0 (Int32.ofInt 0)), hI2, (fr_sF rfl fr_rf), (Int32.ofInt 0), rfl, rfl, in_w (-2147483648) 2147483647 (in_c 0 rfl) rfl⟩)

def fm_369 : FM := ([164], [162, 163], [(109, 0)], [])
/-- GraphHouseModel.rank -/
theorem k_369 {Z : AmZ} {A : Nat → Nat} {s : GS} {ex : va_W} {d : Nat} {X : AmX} {x1 : Int32} {x2 : Int32} (hd : 4 ≤ d) (hI : Inv s)  : GC Z d 369 [.ref (A 109), .int x1, .int x2] (WW Z A s ++ ex) 0 0 (fun v u => ∃ t : GS, Inv t ∧ Fr fm_369 s t ∧ ∃ z : Int64, v = some (.long z) ∧ u = WW Z A t ++ ex) X := by
  intro post xp hP hX
  obtain ⟨u_109_19, e_109_19⟩ : ∃ w, w = s.2.2.1 109 19 := ⟨_, rfl⟩
  have ro_109_19 := inv_F hI 0 160 rfl e_109_19
  obtain ⟨u_109_20, e_109_20⟩ : ∃ w, w = s.2.2.1 109 20 := ⟨_, rfl⟩
  have ro_109_20 := inv_F hI 0 32 rfl e_109_20
  have ct115 : ∀ (k115 : Nat) (sc115 : GS) (y115_3 : Int32), Inv sc115 → Fr fm_369 s sc115 → (In x1 0 31) → (In x2 0 40) → (In y115_3 0 60) → (∀ i : Nat, (u_109_19).toInt ≤ (i : Int) → (i : Int) < (u_109_19).toInt + 160 → (s.1 112 i).toInt ≠ 0 → 1 ≤ (sc115.1 164 (s.1 113 i).toNatClampNeg).toInt) → 60 - (y115_3).toInt < (k115 : Int) → GG Z (d - 1) 369 post (gx xp) (1 + k115 * 426603) 115 (fun j => xlook j [(0, .ref (A 109)), (1, .int x1), (2, .int x2), (3, .int y115_3)]) [] (WW Z A sc115 ++ ex) 0 0 := by
    intro k115
    induction k115 with
    | zero => intro sc115 y115_3 hIc115 hFc115 j115_1 j115_2 j115_3 g115_0 mm115; exact m_no mm115 j115_3 rfl
    | succ k115 ih115 =>
      intro sc115 y115_3 hIc115 hFc115 j115_1 j115_2 j115_3 g115_0 mm115
      refine gg_w (M := 1 + k115 * 426603 + 426603) gws ?_
      have ct259 : ∀ (k259 : Nat) (sc259 : GS) (y259_4 : Int64) (y259_6 : Int32), Inv sc259 → Fr fm_369 s sc259 → (In x2 1 40) → (In y115_3 0 40) → (In y259_6 0 32) → (∀ i : Nat, (u_109_19).toInt ≤ (i : Int) → (i : Int) < (u_109_19).toInt + 160 → (s.1 112 i).toInt ≠ 0 → 1 ≤ (sc259.1 164 (s.1 113 i).toNatClampNeg).toInt) → 32 - (y259_6).toInt < (k259 : Int) → GG Z (d - 1) 369 post (gx xp) (1 + k115 * 426603 + 1 + k259 * 900) 259 (fun j => xlook j [(0, .ref (A 109)), (1, .int x1), (2, .int x2), (3, .int y115_3), (4, .long y259_4), (6, .int y259_6)]) [] (WW Z A sc259 ++ ex) 0 0 := by
        intro k259
        induction k259 with
        | zero => intro sc259 y259_4 y259_6 hIc259 hFc259 j259_2 j259_3 j259_6 g259_0 mm259; exact m_no mm259 j259_6 rfl
        | succ k259 ih259 =>
          intro sc259 y259_4 y259_6 hIc259 hFc259 j259_2 j259_3 j259_6 g259_0 mm259
          refine gg_w (M := 1 + k115 * 426603 + 1 + k259 * 900 + 900) gws ?_
          refine g_iload 261 (gd rfl) rfl rfl ?_
          refine g_aload_n 262 (gd rfl) rfl rfl ?_
          refine g_getI 265 (gd rfl) rfl rfl rfl (fun z262 e262 => ?_)
          have q262 : u_109_20 = z262 := (fr_F e_109_20 hFc259 rfl).trans e262.symm
          subst q262
          refine g_cmp_ge 268 318 (gd rfl) rfl rfl (fun c265 => ?_) (fun c265 => ?_)
          · skip
            refine g_iinc 321 (gd rfl) rfl rfl (Nat.le_of_ble_eq_true rfl) (fun z318 e318 => ?_)
            have i318 := in_add 1 41 e318 j259_3 (in_c 1 rfl) rfl rfl
            refine g_goto 115 (gd rfl) rfl ?_
            have n115 : ∀ i : Nat, (u_109_19).toInt ≤ (i : Int) → (i : Int) < (u_109_19).toInt + 160 → (s.1 112 i).toInt ≠ 0 → 1 ≤ (sc259.1 164 (s.1 113 i).toNatClampNeg).toInt := by first | exact g259_0 | (first | (intro i h1 h2; exact g71_1 i h1 (by (first | have a0 := in_u j259_3 | (have a0 := j259_3; unfold In at a0)); (first | have a1 := in_u j259_2 | (have a1 := j259_2; unfold In at a1)); (first | have a2 := in_u j115_1 | (have a2 := j115_1; unfold In at a2)); (first | have a3 := in_u ro_109_20 | (have a3 := ro_109_20; unfold In at a3)); (first | have a4 := in_u ro_109_19 | (have a4 := ro_109_19; unfold In at a4)); (first | have a5 := in_u j259_6 | (have a5 := j259_6; unfold In at a5)); (first | have a6 := in_u i318 | (have a6 := i318; unfold In at a6)); have a7 := t_add e318 j259_3 (in_c 1 rfl) rfl; (first | have a8 := in_u ((in_c 1 rfl)) | (have a8 := (in_c 1 rfl); unfold In at a8)); omega)) | exact g259_0)
            exact gg_w (by first | exact Nat.le_add_right _ _ | exact gw2 | exact gw3 | exact gwe rfl | exact gwf rfl | exact gwg rfl | exact gwh rfl | omega) (gg_f (gf_cons rfl (gf_cons rfl (gf_cons rfl (gf_cons rfl gf_nil)))) (ih115 sc259 z318 hIc259 hFc259 (in_w 0 31 j115_1 rfl) (in_w 0 40 j259_2 rfl) (in_w 0 60 i318 rfl) n115 (m_up mm115 (t_add e318 j259_3 (in_c 1 rfl) rfl) (in_w 1 1 (in_c 1 rfl) rfl))))
          · skip
            have i265 := r_lt1 0 31 c265 j259_6 ro_109_20 rfl
            have i265a := r_lt2 1 32 c265 j259_6 ro_109_20 rfl
            refine g_aload_n 269 (gd rfl) rfl rfl ?_
            refine g_getA (q2 := 162) 272 (gd rfl) rfl rfl rfl rfl ?_
            refine g_iload 274 (gd rfl) rfl rfl ?_
            refine g_aload_n 275 (gd rfl) rfl rfl ?_
            refine g_getA (q2 := 163) 278 (gd rfl) rfl rfl rfl rfl ?_
            refine g_iload 280 (gd rfl) rfl rfl ?_
            refine g_laload 281 (gd rfl) rfl (n := 32) rfl (in_ix i265 rfl) (fun z280 e280 => ?_)
            refine g_lload 283 (gd rfl) rfl rfl ?_
            refine g_aload_n 284 (gd rfl) rfl rfl ?_
            refine g_getI 287 (gd rfl) rfl rfl rfl (fun z284 e284 => ?_)
            have q284 : u_109_20 = z284 := (fr_F e_109_20 hFc259 rfl).trans e284.symm
            subst q284
            refine g_i2l 288 (gd rfl) rfl (fun z287 e287 => ?_)
            have i287 := l_i e287 i265a
            refine g_ldiv 289 (gd rfl) rfl (ldv_nz i287 rfl) (fun z288 e288 => ?_)
            refine g_ladd 290 (gd rfl) rfl (fun z289 e289 => ?_)
            refine g_iload 292 (gd rfl) rfl rfl ?_
            refine g_i2l 293 (gd rfl) rfl (fun z292 e292 => ?_)
            have i292 := l_i e292 i265
            refine g_lload 295 (gd rfl) rfl rfl ?_
            refine g_aload_n 296 (gd rfl) rfl rfl ?_
            refine g_getI 299 (gd rfl) rfl rfl rfl (fun z296 e296 => ?_)
            have q296 : u_109_20 = z296 := (fr_F e_109_20 hFc259 rfl).trans e296.symm
            subst q296
            refine g_i2l 300 (gd rfl) rfl (fun z299 e299 => ?_)
            have i299 := l_i e299 i265a
            refine g_lrem 301 (gd rfl) rfl (ldv_nz i299 rfl) (fun z300 e300 => ?_)
            refine g_lcmp 302 (gd rfl) rfl (fun z301 e301 => ?_)
            have i301 := lc_in e301
            refine g_if_ge 305 309 (gd rfl) rfl rfl (fun c302 => ?_) (fun c302 => ?_)
            · skip
              have i302 := z_ge 0 1 c302 i301 rfl
              have c302a := lc_ge e301 c302
              have i302a := lr_le1 (-9223372036854775808) 31 c302a (l_rng z300) i292 rfl
              refine g_lconst 0 310 (gd rfl) rfl rfl ?_
              refine g_ladd 311 (gd rfl) rfl (fun z310 e310 => ?_)
              refine g_lastore 312 (gd rfl) rfl (n := 32) rfl (in_ix i265 rfl) ?_
              have hI311 := inv_sL (q := 162) (j := y259_6.toNatClampNeg) (x := z310) hIc259 rfl (l_rng z310)
              refine g_iinc 315 (gd rfl) rfl rfl (Nat.le_of_ble_eq_true rfl) (fun z312 e312 => ?_)
              have i312 := in_add 1 32 e312 i265 (in_c 1 rfl) rfl rfl
              refine g_goto 259 (gd rfl) rfl ?_
              have n259 : ∀ i : Nat, (u_109_19).toInt ≤ (i : Int) → (i : Int) < (u_109_19).toInt + 160 → (s.1 112 i).toInt ≠ 0 → 1 ≤ ((sL sc259 162 y259_6.toNatClampNeg z310).1 164 (s.1 113 i).toNatClampNeg).toInt := by first | exact g167_0 | exact g259_0
              exact gg_w (by first | exact Nat.le_add_right _ _ | exact gw2 | exact gw3 | exact gwe rfl | exact gwf rfl | exact gwg rfl | exact gwh rfl | omega) (gg_f (gf_cons rfl (gf_cons rfl (gf_cons rfl (gf_cons rfl (gf_cons rfl (gf_cons rfl gf_nil)))))) (ih259 (sL sc259 162 y259_6.toNatClampNeg z310) y259_4 z312 hI311 (fr_sL rfl hFc259) (in_w 1 40 j259_2 rfl) (in_w 0 40 j259_3 rfl) (in_w 0 32 i312 rfl) n259 (m_up mm259 (t_add e312 i265 (in_c 1 rfl) rfl) (in_w 1 1 (in_c 1 rfl) rfl))))
            · skip
              have i302 := z_lt (-1) (-1) c302 i301 rfl
              have c302a := lc_lt e301 c302
              have i302a := lr_lt2 1 9223372036854775807 c302a i292 (l_rng z300) rfl
              refine g_lconst 1 306 (gd rfl) rfl rfl ?_
              refine g_goto 310 (gd rfl) rfl ?_
              refine g_ladd 311 (gd rfl) rfl (fun z310 e310 => ?_)
              refine g_lastore 312 (gd rfl) rfl (n := 32) rfl (in_ix i265 rfl) ?_
              have hI311 := inv_sL (q := 162) (j := y259_6.toNatClampNeg) (x := z310) hIc259 rfl (l_rng z310)
              refine g_iinc 315 (gd rfl) rfl rfl (Nat.le_of_ble_eq_true rfl) (fun z312 e312 => ?_)
              have i312 := in_add 1 32 e312 i265 (in_c 1 rfl) rfl rfl
              refine g_goto 259 (gd rfl) rfl ?_
              have n259 : ∀ i : Nat, (u_109_19).toInt ≤ (i : Int) → (i : Int) < (u_109_19).toInt + 160 → (s.1 112 i).toInt ≠ 0 → 1 ≤ ((sL sc259 162 y259_6.toNatClampNeg z310).1 164 (s.1 113 i).toNatClampNeg).toInt := by first | exact g167_0 | exact g259_0
              exact gg_w (by first | exact Nat.le_add_right _ _ | exact gw2 | exact gw3 | exact gwe rfl | exact gwf rfl | exact gwg rfl | exact gwh rfl | omega) (gg_f (gf_cons rfl (gf_cons rfl (gf_cons rfl (gf_cons rfl (gf_cons rfl (gf_cons rfl gf_nil)))))) (ih259 (sL sc259 162 y259_6.toNatClampNeg z310) y259_4 z312 hI311 (fr_sL rfl hFc259) (in_w 1 40 j259_2 rfl) (in_w 0 40 j259_3 rfl) (in_w 0 32 i312 rfl) n259 (m_up mm259 (t_add e312 i265 (in_c 1 rfl) rfl) (in_w 1 1 (in_c 1 rfl) rfl))))
      have ct167 : ∀ (k167 : Nat) (sc167 : GS) (y167_4 : Int64) (y167_6 : Int32), Inv sc167 → Fr fm_369 s sc167 → (In x2 1 40) → (In y115_3 0 40) → (In y167_6 0 400) → ((u_109_19).toInt ≤ (y167_6).toInt) → (∀ i : Nat, (u_109_19).toInt ≤ (i : Int) → (i : Int) < (u_109_19).toInt + 160 → (s.1 112 i).toInt ≠ 0 → 1 ≤ (sc167.1 164 (s.1 113 i).toNatClampNeg).toInt) → 400 - (y167_6).toInt < (k167 : Int) → GG Z (d - 1) 369 post (gx xp) (1 + k115 * 426603 + 29702 + k167 * 900) 167 (fun j => xlook j [(0, .ref (A 109)), (1, .int x1), (2, .int x2), (3, .int y115_3), (4, .long y167_4), (6, .int y167_6)]) [] (WW Z A sc167 ++ ex) 0 0 := by
        intro k167
        induction k167 with
        | zero => intro sc167 y167_4 y167_6 hIc167 hFc167 j167_2 j167_3 j167_6 n167_0 g167_0 mm167; exact m_no mm167 j167_6 rfl
        | succ k167 ih167 =>
          intro sc167 y167_4 y167_6 hIc167 hFc167 j167_2 j167_3 j167_6 n167_0 g167_0 mm167
          refine gg_w (M := 1 + k115 * 426603 + 29702 + k167 * 900 + 900) gws ?_
          refine g_iload 169 (gd rfl) rfl rfl ?_
          refine g_aload_n 170 (gd rfl) rfl rfl ?_
          refine g_getI 173 (gd rfl) rfl rfl rfl (fun z170 e170 => ?_)
          have q170 : u_109_19 = z170 := (fr_F e_109_19 hFc167 rfl).trans e170.symm
          subst q170
          refine g_sipush 160 176 (gd rfl) rfl rfl ?_
          refine g_iadd 177 (gd rfl) rfl (fun z176 e176 => ?_)
          have i176 := in_add 160 320 e176 ro_109_19 (in_c 160 rfl) rfl rfl
          refine g_cmp_ge 180 256 (gd rfl) rfl rfl (fun c177 => ?_) (fun c177 => ?_)
          · skip
            have i177 := r_le2 160 400 c177 i176 j167_6 rfl
            refine g_iconst 0 257 (gd rfl) rfl rfl ?_
            refine g_istore 259 (gd rfl) rfl (Nat.le_of_ble_eq_true rfl) ?_
            have n259 : ∀ i : Nat, (u_109_19).toInt ≤ (i : Int) → (i : Int) < (u_109_19).toInt + 160 → (s.1 112 i).toInt ≠ 0 → 1 ≤ (sc167.1 164 (s.1 113 i).toNatClampNeg).toInt := by first | exact g167_0 | exact g259_0
            exact gg_w (by first | exact Nat.le_add_right _ _ | exact gw2 | exact gw3 | exact gwe rfl | exact gwf rfl | exact gwg rfl | exact gwh rfl | omega) (gg_f (gf_cons rfl (gf_cons rfl (gf_cons rfl (gf_cons rfl (gf_cons rfl (gf_cons rfl gf_nil)))))) (ct259 33 sc167 y167_4 (Int32.ofInt 0) hIc167 hFc167 (in_w 1 40 j167_2 rfl) (in_w 0 40 j167_3 rfl) (in_w 0 32 (in_c 0 rfl) rfl) n259 (m_in 33 (in_w 0 32 (in_c 0 rfl) rfl) rfl)))
          · skip
            have i177 := r_lt1 0 319 c177 j167_6 i176 rfl
            refine g_aload_n 181 (gd rfl) rfl rfl ?_
            refine g_getA (q2 := 112) 184 (gd rfl) rfl rfl rfl rfl ?_
            refine g_iload 186 (gd rfl) rfl rfl ?_
            refine g_baload 187 (gd rfl) rfl (n := 480) rfl (in_ix i177 rfl) (fun z186 e186 => ?_)
            have i186 := inv_I hIc167 (n := 480) (t := 3) 0 1 rfl (in_ix i177 rfl) rfl e186
            refine g_if_eq 190 250 (gd rfl) rfl rfl (fun c187 => ?_) (fun c187 => ?_)
            · skip
              have i187 := z_eq 0 0 c187 i186 rfl
              refine g_iinc 253 (gd rfl) rfl rfl (Nat.le_of_ble_eq_true rfl) (fun z250 e250 => ?_)
              have i250 := in_add 1 320 e250 i177 (in_c 1 rfl) rfl rfl
              refine g_goto 167 (gd rfl) rfl ?_
              have n167 : (u_109_19).toInt ≤ (z250).toInt := by (first | have a0 := in_u j167_3 | (have a0 := j167_3; unfold In at a0)); (first | have a1 := in_u j167_2 | (have a1 := j167_2; unfold In at a1)); (first | have a2 := in_u j115_1 | (have a2 := j115_1; unfold In at a2)); (first | have a3 := in_u ro_109_20 | (have a3 := ro_109_20; unfold In at a3)); (first | have a4 := in_u ro_109_19 | (have a4 := ro_109_19; unfold In at a4)); (first | have a5 := in_u i177 | (have a5 := i177; unfold In at a5)); (first | have a6 := in_u i250 | (have a6 := i250; unfold In at a6)); have a7 := t_add e250 i177 (in_c 1 rfl) rfl; (first | have a8 := in_u ((in_c 1 rfl)) | (have a8 := (in_c 1 rfl); unfold In at a8)); (first | have a9 := in_u i176 | (have a9 := i176; unfold In at a9)); have a10 := t_add e176 ro_109_19 (in_c 160 rfl) rfl; (first | have a11 := in_u ((in_c 160 rfl)) | (have a11 := (in_c 160 rfl); unfold In at a11)); omega
              have n167a : ∀ i : Nat, (u_109_19).toInt ≤ (i : Int) → (i : Int) < (u_109_19).toInt + 160 → (s.1 112 i).toInt ≠ 0 → 1 ≤ (sc167.1 164 (s.1 113 i).toNatClampNeg).toInt := by first | exact g126_0 | exact g167_0
              exact gg_w (by first | exact Nat.le_add_right _ _ | exact gw2 | exact gw3 | exact gwe rfl | exact gwf rfl | exact gwg rfl | exact gwh rfl | omega) (gg_f (gf_cons rfl (gf_cons rfl (gf_cons rfl (gf_cons rfl (gf_cons rfl (gf_cons rfl gf_nil)))))) (ih167 sc167 y167_4 z250 hIc167 hFc167 (in_w 1 40 j167_2 rfl) (in_w 0 40 j167_3 rfl) (in_w 0 400 i250 rfl) n167 n167a (m_up mm167 (t_add e250 i177 (in_c 1 rfl) rfl) (in_w 1 1 (in_c 1 rfl) rfl))))
            · skip
              have i187 := z_ne 1 1 c187 i186 rfl
              refine g_aload_n 191 (gd rfl) rfl rfl ?_
              refine g_getA (q2 := 162) 194 (gd rfl) rfl rfl rfl rfl ?_
              refine g_aload_n 195 (gd rfl) rfl rfl ?_
              refine g_getA (q2 := 113) 198 (gd rfl) rfl rfl rfl rfl ?_
              refine g_iload 200 (gd rfl) rfl rfl ?_
              refine g_iaload 201 (gd rfl) rfl (n := 480) rfl (in_ix i177 rfl) (fun z200 e200 => ?_)
              have i200 := inv_I hIc167 (n := 480) (t := 0) 0 31 rfl (in_ix i177 rfl) rfl e200
              refine g_laload 202 (gd rfl) rfl (n := 32) rfl (in_ix i200 rfl) (fun z201 e201 => ?_)
              refine g_ldc2_w 85 205 (gd rfl) rfl rfl ?_
              refine g_lmul 206 (gd rfl) rfl (fun z205 e205 => ?_)
              refine g_ldc2_w 100 209 (gd rfl) rfl rfl ?_
              refine g_aload_n 210 (gd rfl) rfl rfl ?_
              refine g_getA (q2 := 164) 213 (gd rfl) rfl rfl rfl rfl ?_
              refine g_aload_n 214 (gd rfl) rfl rfl ?_
              refine g_getA (q2 := 113) 217 (gd rfl) rfl rfl rfl rfl ?_
              refine g_iload 219 (gd rfl) rfl rfl ?_
              refine g_iaload 220 (gd rfl) rfl (n := 480) rfl (in_ix i177 rfl) (fun z219 e219 => ?_)
              have q219 : z200 = z219 := (e200).trans e219.symm
              subst q219
              refine g_iaload 221 (gd rfl) rfl (n := 32) rfl (in_ix i200 rfl) (fun z220 e220 => ?_)
              have i220 := inv_I hIc167 (n := 32) (t := 0) 0 160 rfl (in_ix i200 rfl) rfl e220
              have i221 : In z220 1 160 := by have h3 := (hFc167.1 112 rfl); have h4 := (hFc167.1 113 rfl); have h := g167_0 y167_6.toNatClampNeg (by show _ ≤ ((y167_6.toInt.toNat : Nat) : Int); (first | have a0 := in_u j167_3 | (have a0 := j167_3; unfold In at a0)); (first | have a1 := in_u j167_2 | (have a1 := j167_2; unfold In at a1)); (first | have a2 := in_u j115_1 | (have a2 := j115_1; unfold In at a2)); (first | have a3 := in_u ro_109_20 | (have a3 := ro_109_20; unfold In at a3)); (first | have a4 := in_u ro_109_19 | (have a4 := ro_109_19; unfold In at a4)); (first | have a5 := in_u i177 | (have a5 := i177; unfold In at a5)); (first | have a6 := in_u i176 | (have a6 := i176; unfold In at a6)); have a7 := t_add e176 ro_109_19 (in_c 160 rfl) rfl; (first | have a8 := in_u ((in_c 160 rfl)) | (have a8 := (in_c 160 rfl); unfold In at a8)); omega) (by show ((y167_6.toInt.toNat : Nat) : Int) < _; (first | have a0 := in_u j167_3 | (have a0 := j167_3; unfold In at a0)); (first | have a1 := in_u j167_2 | (have a1 := j167_2; unfold In at a1)); (first | have a2 := in_u j115_1 | (have a2 := j115_1; unfold In at a2)); (first | have a3 := in_u ro_109_20 | (have a3 := ro_109_20; unfold In at a3)); (first | have a4 := in_u ro_109_19 | (have a4 := ro_109_19; unfold In at a4)); (first | have a5 := in_u i177 | (have a5 := i177; unfold In at a5)); (first | have a6 := in_u i176 | (have a6 := i176; unfold In at a6)); have a7 := t_add e176 ro_109_19 (in_c 160 rfl) rfl; (first | have a8 := in_u ((in_c 160 rfl)) | (have a8 := (in_c 160 rfl); unfold In at a8)); omega) (by rw [← h3, ← e186]; have hz := i187; unfold In at hz; omega); rw [← h4, ← e200, ← e220] at h; exact ⟨h, i220.2⟩
              refine g_i2l 222 (gd rfl) rfl (fun z221 e221 => ?_)
              have i221a := l_i e221 i221
              refine g_lmul 223 (gd rfl) rfl (fun z222 e222 => ?_)
              have i222 := l_mulc 100 100 16000 (Or.inl e222) i221a rfl
              refine g_ldiv 224 (gd rfl) rfl (ldv_nz i222 rfl) (fun z223 e223 => ?_)
              refine g_lstore 226 (gd rfl) rfl (Nat.le_of_ble_eq_true rfl) ?_
              refine g_aload_n 227 (gd rfl) rfl rfl ?_
              refine g_getA (q2 := 163) 230 (gd rfl) rfl rfl rfl rfl ?_
              refine g_aload_n 231 (gd rfl) rfl rfl ?_
              refine g_getA (q2 := 114) 234 (gd rfl) rfl rfl rfl rfl ?_
              refine g_iload 236 (gd rfl) rfl rfl ?_
              refine g_iaload 237 (gd rfl) rfl (n := 480) rfl (in_ix i177 rfl) (fun z236 e236 => ?_)
              have i236 := inv_I hIc167 (n := 480) (t := 0) 0 31 rfl (in_ix i177 rfl) rfl e236
              refine g_dup2 238 (gd rfl) rfl rfl rfl ?_
              refine g_laload 239 (gd rfl) rfl (n := 32) rfl (in_ix i236 rfl) (fun z238 e238 => ?_)
              refine g_lload 241 (gd rfl) rfl rfl ?_
              refine g_ladd 242 (gd rfl) rfl (fun z241 e241 => ?_)
              refine g_lastore 243 (gd rfl) rfl (n := 32) rfl (in_ix i236 rfl) ?_
              have hI242 := inv_sL (q := 163) (j := z236.toNatClampNeg) (x := z241) hIc167 rfl (l_rng z241)
              refine g_lload 245 (gd rfl) rfl rfl ?_
              refine g_lload 247 (gd rfl) rfl rfl ?_
              refine g_lsub 248 (gd rfl) rfl (fun z247 e247 => ?_)
              refine g_lstore 250 (gd rfl) rfl (Nat.le_of_ble_eq_true rfl) ?_
              refine g_iinc 253 (gd rfl) rfl rfl (Nat.le_of_ble_eq_true rfl) (fun z250 e250 => ?_)
              have i250 := in_add 1 320 e250 i177 (in_c 1 rfl) rfl rfl
              refine g_goto 167 (gd rfl) rfl ?_
              have n167 : (u_109_19).toInt ≤ (z250).toInt := by (first | have a0 := in_u j167_3 | (have a0 := j167_3; unfold In at a0)); (first | have a1 := in_u j167_2 | (have a1 := j167_2; unfold In at a1)); (first | have a2 := in_u j115_1 | (have a2 := j115_1; unfold In at a2)); (first | have a3 := in_u ro_109_20 | (have a3 := ro_109_20; unfold In at a3)); (first | have a4 := in_u ro_109_19 | (have a4 := ro_109_19; unfold In at a4)); (first | have a5 := in_u i177 | (have a5 := i177; unfold In at a5)); (first | have a6 := in_u i250 | (have a6 := i250; unfold In at a6)); have a7 := t_add e250 i177 (in_c 1 rfl) rfl; (first | have a8 := in_u ((in_c 1 rfl)) | (have a8 := (in_c 1 rfl); unfold In at a8)); have a9 := tx_i2l e221; (first | have a10 := in_u i221 | (have a10 := i221; unfold In at a10)); (first | have a11 := in_u i176 | (have a11 := i176; unfold In at a11)); have a12 := t_add e176 ro_109_19 (in_c 160 rfl) rfl; (first | have a13 := in_u ((in_c 160 rfl)) | (have a13 := (in_c 160 rfl); unfold In at a13)); omega
              have n167a : ∀ i : Nat, (u_109_19).toInt ≤ (i : Int) → (i : Int) < (u_109_19).toInt + 160 → (s.1 112 i).toInt ≠ 0 → 1 ≤ ((sL sc167 163 z236.toNatClampNeg z241).1 164 (s.1 113 i).toNatClampNeg).toInt := by first | exact g126_0 | exact g167_0
              exact gg_w (by first | exact Nat.le_add_right _ _ | exact gw2 | exact gw3 | exact gwe rfl | exact gwf rfl | exact gwg rfl | exact gwh rfl | omega) (gg_f (gf_cons rfl (gf_cons rfl (gf_cons rfl (gf_cons rfl (gf_cons rfl (gf_cons rfl gf_nil)))))) (ih167 (sL sc167 163 z236.toNatClampNeg z241) z247 z250 hI242 (fr_sL rfl hFc167) (in_w 1 40 j167_2 rfl) (in_w 0 40 j167_3 rfl) (in_w 0 400 i250 rfl) n167 n167a (m_up mm167 (t_add e250 i177 (in_c 1 rfl) rfl) (in_w 1 1 (in_c 1 rfl) rfl))))
      have ct126 : ∀ (k126 : Nat) (sc126 : GS) (y126_4 : Int64) (y126_6 : Int32), Inv sc126 → Fr fm_369 s sc126 → (In x2 1 40) → (In y115_3 0 40) → (In y126_6 0 32) → (∀ i : Nat, (u_109_19).toInt ≤ (i : Int) → (i : Int) < (u_109_19).toInt + 160 → (s.1 112 i).toInt ≠ 0 → 1 ≤ (sc126.1 164 (s.1 113 i).toNatClampNeg).toInt) → 32 - (y126_6).toInt < (k126 : Int) → GG Z (d - 1) 369 post (gx xp) (1 + k115 * 426603 + 390603 + k126 * 900) 126 (fun j => xlook j [(0, .ref (A 109)), (1, .int x1), (2, .int x2), (3, .int y115_3), (4, .long y126_4), (6, .int y126_6)]) [] (WW Z A sc126 ++ ex) 0 0 := by
        intro k126
        induction k126 with
        | zero => intro sc126 y126_4 y126_6 hIc126 hFc126 j126_2 j126_3 j126_6 g126_0 mm126; exact m_no mm126 j126_6 rfl
        | succ k126 ih126 =>
          intro sc126 y126_4 y126_6 hIc126 hFc126 j126_2 j126_3 j126_6 g126_0 mm126
          refine gg_w (M := 1 + k115 * 426603 + 390603 + k126 * 900 + 900) gws ?_
          refine g_iload 128 (gd rfl) rfl rfl ?_
          refine g_aload_n 129 (gd rfl) rfl rfl ?_
          refine g_getI 132 (gd rfl) rfl rfl rfl (fun z129 e129 => ?_)
          have q129 : u_109_20 = z129 := (fr_F e_109_20 hFc126 rfl).trans e129.symm
          subst q129
          refine g_cmp_ge 135 161 (gd rfl) rfl rfl (fun c132 => ?_) (fun c132 => ?_)
          · skip
            refine g_aload_n 162 (gd rfl) rfl rfl ?_
            refine g_getI 165 (gd rfl) rfl rfl rfl (fun z162 e162 => ?_)
            have q162 : u_109_19 = z162 := (fr_F e_109_19 hFc126 rfl).trans e162.symm
            subst q162
            refine g_istore 167 (gd rfl) rfl (Nat.le_of_ble_eq_true rfl) ?_
            have n167 : (u_109_19).toInt ≤ (u_109_19).toInt := by exact Int.le_refl _
            have n167a : ∀ i : Nat, (u_109_19).toInt ≤ (i : Int) → (i : Int) < (u_109_19).toInt + 160 → (s.1 112 i).toInt ≠ 0 → 1 ≤ (sc126.1 164 (s.1 113 i).toNatClampNeg).toInt := by first | exact g126_0 | exact g167_0
            exact gg_w (by first | exact Nat.le_add_right _ _ | exact gw2 | exact gw3 | exact gwe rfl | exact gwf rfl | exact gwg rfl | exact gwh rfl | omega) (gg_f (gf_cons rfl (gf_cons rfl (gf_cons rfl (gf_cons rfl (gf_cons rfl (gf_cons rfl gf_nil)))))) (ct167 401 sc126 y126_4 u_109_19 hIc126 hFc126 (in_w 1 40 j126_2 rfl) (in_w 0 40 j126_3 rfl) (in_w 0 400 ro_109_19 rfl) n167 n167a (m_in 401 (in_w 0 400 ro_109_19 rfl) rfl)))
          · skip
            have i132 := r_lt1 0 31 c132 j126_6 ro_109_20 rfl
            have i132a := r_lt2 1 32 c132 j126_6 ro_109_20 rfl
            refine g_lload 137 (gd rfl) rfl rfl ?_
            refine g_aload_n 138 (gd rfl) rfl rfl ?_
            refine g_getA (q2 := 162) 141 (gd rfl) rfl rfl rfl rfl ?_
            refine g_iload 143 (gd rfl) rfl rfl ?_
            refine g_laload 144 (gd rfl) rfl (n := 32) rfl (in_ix i132 rfl) (fun z143 e143 => ?_)
            refine g_ladd 145 (gd rfl) rfl (fun z144 e144 => ?_)
            refine g_lstore 147 (gd rfl) rfl (Nat.le_of_ble_eq_true rfl) ?_
            refine g_aload_n 148 (gd rfl) rfl rfl ?_
            refine g_getA (q2 := 163) 151 (gd rfl) rfl rfl rfl rfl ?_
            refine g_iload 153 (gd rfl) rfl rfl ?_
            refine g_lconst 0 154 (gd rfl) rfl rfl ?_
            refine g_lastore 155 (gd rfl) rfl (n := 32) rfl (in_ix i132 rfl) ?_
            have hI154 := inv_sL (q := 163) (j := y126_6.toNatClampNeg) (x := (Int64.ofInt 0)) hIc126 rfl (l_rng (Int64.ofInt 0))
            refine g_iinc 158 (gd rfl) rfl rfl (Nat.le_of_ble_eq_true rfl) (fun z155 e155 => ?_)
            have i155 := in_add 1 32 e155 i132 (in_c 1 rfl) rfl rfl
            refine g_goto 126 (gd rfl) rfl ?_
            have n126 : ∀ i : Nat, (u_109_19).toInt ≤ (i : Int) → (i : Int) < (u_109_19).toInt + 160 → (s.1 112 i).toInt ≠ 0 → 1 ≤ ((sL sc126 163 y126_6.toNatClampNeg (Int64.ofInt 0)).1 164 (s.1 113 i).toNatClampNeg).toInt := by first | exact g115_0 | exact g126_0
            exact gg_w (by first | exact Nat.le_add_right _ _ | exact gw2 | exact gw3 | exact gwe rfl | exact gwf rfl | exact gwg rfl | exact gwh rfl | omega) (gg_f (gf_cons rfl (gf_cons rfl (gf_cons rfl (gf_cons rfl (gf_cons rfl (gf_cons rfl gf_nil)))))) (ih126 (sL sc126 163 y126_6.toNatClampNeg (Int64.ofInt 0)) z144 z155 hI154 (fr_sL rfl hFc126) (in_w 1 40 j126_2 rfl) (in_w 0 40 j126_3 rfl) (in_w 0 32 i155 rfl) n126 (m_up mm126 (t_add e155 i132 (in_c 1 rfl) rfl) (in_w 1 1 (in_c 1 rfl) rfl))))
      refine g_iload_n 116 (gd rfl) rfl rfl ?_
      refine g_iload_n 117 (gd rfl) rfl rfl ?_
      refine g_cmp_ge 120 324 (gd rfl) rfl rfl (fun c117 => ?_) (fun c117 => ?_)
      · skip
        refine g_aload_n 325 (gd rfl) rfl rfl ?_
        refine g_getA (q2 := 162) 328 (gd rfl) rfl rfl rfl rfl ?_
        refine g_iload_n 329 (gd rfl) rfl rfl ?_
        refine g_laload 330 (gd rfl) rfl (n := 32) rfl (in_ix j115_1 rfl) (fun z329 e329 => ?_)
        exact g_lreturn (gd rfl) rfl (hP _ _ ⟨sc115, hIc115, hFc115, z329, rfl, rfl⟩)
      · skip
        have i117 := r_lt1 0 39 c117 j115_3 j115_2 rfl
        have i117a := r_lt2 1 40 c117 j115_3 j115_2 rfl
        refine g_lconst 0 121 (gd rfl) rfl rfl ?_
        refine g_lstore 123 (gd rfl) rfl (Nat.le_of_ble_eq_true rfl) ?_
        refine g_iconst 0 124 (gd rfl) rfl rfl ?_
        refine g_istore 126 (gd rfl) rfl (Nat.le_of_ble_eq_true rfl) ?_
        have n126 : ∀ i : Nat, (u_109_19).toInt ≤ (i : Int) → (i : Int) < (u_109_19).toInt + 160 → (s.1 112 i).toInt ≠ 0 → 1 ≤ (sc115.1 164 (s.1 113 i).toNatClampNeg).toInt := by first | exact g115_0 | exact g126_0
        exact gg_w (by first | exact Nat.le_add_right _ _ | exact gw2 | exact gw3 | exact gwe rfl | exact gwf rfl | exact gwg rfl | exact gwh rfl | omega) (gg_f (gf_cons rfl (gf_cons rfl (gf_cons rfl (gf_cons rfl (gf_cons rfl (gf_cons rfl gf_nil)))))) (ct126 33 sc115 (Int64.ofInt 0) (Int32.ofInt 0) hIc115 hFc115 (in_w 1 40 i117a rfl) (in_w 0 40 i117 rfl) (in_w 0 32 (in_c 0 rfl) rfl) n126 (m_in 33 (in_w 0 32 (in_c 0 rfl) rfl) rfl)))
  have ct71 : ∀ (k71 : Nat) (sc71 : GS) (y71_3 : Int32), Inv sc71 → Fr fm_369 s sc71 → (In x1 0 31) → (In x2 0 40) → (In y71_3 0 400) → ((u_109_19).toInt ≤ (y71_3).toInt) → ((y71_3).toInt ≤ (u_109_19).toInt + 160) → (∀ j : Nat, (j : Int) < (u_109_20).toInt → (sc71.1 164 j).toInt ≤ (y71_3).toInt - (u_109_19).toInt) → (∀ i : Nat, (u_109_19).toInt ≤ (i : Int) → (i : Int) < (y71_3).toInt → (s.1 112 i).toInt ≠ 0 → 1 ≤ (sc71.1 164 (s.1 113 i).toNatClampNeg).toInt) → 400 - (y71_3).toInt < (k71 : Int) → GG Z (d - 1) 369 post (gx xp) (26022785 + k71 * 900) 71 (fun j => xlook j [(0, .ref (A 109)), (1, .int x1), (2, .int x2), (3, .int y71_3)]) [] (WW Z A sc71 ++ ex) 0 0 := by
    intro k71
    induction k71 with
    | zero => intro sc71 y71_3 hIc71 hFc71 j71_1 j71_2 j71_3 n71_0 n71_1 g71_0 g71_1 mm71; exact m_no mm71 j71_3 rfl
    | succ k71 ih71 =>
      intro sc71 y71_3 hIc71 hFc71 j71_1 j71_2 j71_3 n71_0 n71_1 g71_0 g71_1 mm71
      refine gg_w (M := 26022785 + k71 * 900 + 900) gws ?_
      refine g_iload_n 72 (gd rfl) rfl rfl ?_
      refine g_aload_n 73 (gd rfl) rfl rfl ?_
      refine g_getI 76 (gd rfl) rfl rfl rfl (fun z73 e73 => ?_)
      have q73 : u_109_19 = z73 := (fr_F e_109_19 hFc71 rfl).trans e73.symm
      subst q73
      refine g_sipush 160 79 (gd rfl) rfl rfl ?_
      refine g_iadd 80 (gd rfl) rfl (fun z79 e79 => ?_)
      have i79 := in_add 160 320 e79 ro_109_19 (in_c 160 rfl) rfl rfl
      refine g_cmp_ge 83 113 (gd rfl) rfl rfl (fun c80 => ?_) (fun c80 => ?_)
      · skip
        have i80 := r_le2 160 400 c80 i79 j71_3 rfl
        refine g_iconst 0 114 (gd rfl) rfl rfl ?_
        refine g_istore_n 115 (gd rfl) rfl (Nat.le_of_ble_eq_true rfl) ?_
        have n115 : ∀ i : Nat, (u_109_19).toInt ≤ (i : Int) → (i : Int) < (u_109_19).toInt + 160 → (s.1 112 i).toInt ≠ 0 → 1 ≤ (sc71.1 164 (s.1 113 i).toNatClampNeg).toInt := by first | (intro i h1 h2; exact g71_1 i h1 (by (first | have a0 := in_u j71_2 | (have a0 := j71_2; unfold In at a0)); (first | have a1 := in_u j71_1 | (have a1 := j71_1; unfold In at a1)); (first | have a2 := in_u ro_109_20 | (have a2 := ro_109_20; unfold In at a2)); (first | have a3 := in_u ro_109_19 | (have a3 := ro_109_19; unfold In at a3)); (first | have a4 := in_u i80 | (have a4 := i80; unfold In at a4)); (first | have a5 := in_u ((in_c 0 rfl)) | (have a5 := (in_c 0 rfl); unfold In at a5)); (first | have a6 := in_u i79 | (have a6 := i79; unfold In at a6)); have a7 := t_add e79 ro_109_19 (in_c 160 rfl) rfl; (first | have a8 := in_u ((in_c 160 rfl)) | (have a8 := (in_c 160 rfl); unfold In at a8)); omega)) | exact g259_0
        exact gg_w (by first | exact Nat.le_add_right _ _ | exact gw2 | exact gw3 | exact gwe rfl | exact gwf rfl | exact gwg rfl | exact gwh rfl | omega) (gg_f (gf_cons rfl (gf_cons rfl (gf_cons rfl (gf_cons rfl gf_nil)))) (ct115 61 sc71 (Int32.ofInt 0) hIc71 hFc71 (in_w 0 31 j71_1 rfl) (in_w 0 40 j71_2 rfl) (in_w 0 60 (in_c 0 rfl) rfl) n115 (m_in 61 (in_w 0 60 (in_c 0 rfl) rfl) rfl)))
      · skip
        have i80 := r_lt1 0 319 c80 j71_3 i79 rfl
        refine g_aload_n 84 (gd rfl) rfl rfl ?_
        refine g_getA (q2 := 112) 87 (gd rfl) rfl rfl rfl rfl ?_
        refine g_iload_n 88 (gd rfl) rfl rfl ?_
        refine g_baload 89 (gd rfl) rfl (n := 480) rfl (in_ix i80 rfl) (fun z88 e88 => ?_)
        have i88 := inv_I hIc71 (n := 480) (t := 3) 0 1 rfl (in_ix i80 rfl) rfl e88
        refine g_if_eq 92 107 (gd rfl) rfl rfl (fun c89 => ?_) (fun c89 => ?_)
        · skip
          have i89 := z_eq 0 0 c89 i88 rfl
          refine g_iinc 110 (gd rfl) rfl rfl (Nat.le_of_ble_eq_true rfl) (fun z107 e107 => ?_)
          have i107 := in_add 1 320 e107 i80 (in_c 1 rfl) rfl rfl
          refine g_goto 71 (gd rfl) rfl ?_
          have n71 : (u_109_19).toInt ≤ (z107).toInt := by (first | have a0 := in_u j71_2 | (have a0 := j71_2; unfold In at a0)); (first | have a1 := in_u j71_1 | (have a1 := j71_1; unfold In at a1)); (first | have a2 := in_u ro_109_20 | (have a2 := ro_109_20; unfold In at a2)); (first | have a3 := in_u ro_109_19 | (have a3 := ro_109_19; unfold In at a3)); (first | have a4 := in_u i80 | (have a4 := i80; unfold In at a4)); (first | have a5 := in_u i107 | (have a5 := i107; unfold In at a5)); have a6 := t_add e107 i80 (in_c 1 rfl) rfl; (first | have a7 := in_u ((in_c 1 rfl)) | (have a7 := (in_c 1 rfl); unfold In at a7)); (first | have a8 := in_u i79 | (have a8 := i79; unfold In at a8)); have a9 := t_add e79 ro_109_19 (in_c 160 rfl) rfl; (first | have a10 := in_u ((in_c 160 rfl)) | (have a10 := (in_c 160 rfl); unfold In at a10)); omega
          have n71a : (z107).toInt ≤ (u_109_19).toInt + 160 := by (first | have a0 := in_u j71_2 | (have a0 := j71_2; unfold In at a0)); (first | have a1 := in_u j71_1 | (have a1 := j71_1; unfold In at a1)); (first | have a2 := in_u ro_109_20 | (have a2 := ro_109_20; unfold In at a2)); (first | have a3 := in_u ro_109_19 | (have a3 := ro_109_19; unfold In at a3)); (first | have a4 := in_u i80 | (have a4 := i80; unfold In at a4)); (first | have a5 := in_u i107 | (have a5 := i107; unfold In at a5)); have a6 := t_add e107 i80 (in_c 1 rfl) rfl; (first | have a7 := in_u ((in_c 1 rfl)) | (have a7 := (in_c 1 rfl); unfold In at a7)); (first | have a8 := in_u i79 | (have a8 := i79; unfold In at a8)); have a9 := t_add e79 ro_109_19 (in_c 160 rfl) rfl; (first | have a10 := in_u ((in_c 160 rfl)) | (have a10 := (in_c 160 rfl); unfold In at a10)); omega
          have n71b : ∀ j : Nat, (j : Int) < (u_109_20).toInt → (sc71.1 164 j).toInt ≤ (z107).toInt - (u_109_19).toInt := by first | (intro j hj; have h := g36_0 j (by (first | have a0 := in_u j71_2 | (have a0 := j71_2; unfold In at a0)); (first | have a1 := in_u j71_1 | (have a1 := j71_1; unfold In at a1)); (first | have a2 := in_u ro_109_20 | (have a2 := ro_109_20; unfold In at a2)); (first | have a3 := in_u ro_109_19 | (have a3 := ro_109_19; unfold In at a3)); (first | have a4 := in_u i80 | (have a4 := i80; unfold In at a4)); (first | have a5 := in_u i107 | (have a5 := i107; unfold In at a5)); have a6 := t_add e107 i80 (in_c 1 rfl) rfl; (first | have a7 := in_u ((in_c 1 rfl)) | (have a7 := (in_c 1 rfl); unfold In at a7)); (first | have a8 := in_u i79 | (have a8 := i79; unfold In at a8)); have a9 := t_add e79 ro_109_19 (in_c 160 rfl) rfl; (first | have a10 := in_u ((in_c 160 rfl)) | (have a10 := (in_c 160 rfl); unfold In at a10)); omega); omega) | (intro j hj; have h := g71_0 j hj; (first | have a0 := in_u j71_2 | (have a0 := j71_2; unfold In at a0)); (first | have a1 := in_u j71_1 | (have a1 := j71_1; unfold In at a1)); (first | have a2 := in_u ro_109_20 | (have a2 := ro_109_20; unfold In at a2)); (first | have a3 := in_u ro_109_19 | (have a3 := ro_109_19; unfold In at a3)); (first | have a4 := in_u i80 | (have a4 := i80; unfold In at a4)); (first | have a5 := in_u i107 | (have a5 := i107; unfold In at a5)); have a6 := t_add e107 i80 (in_c 1 rfl) rfl; (first | have a7 := in_u ((in_c 1 rfl)) | (have a7 := (in_c 1 rfl); unfold In at a7)); (first | have a8 := in_u i79 | (have a8 := i79; unfold In at a8)); have a9 := t_add e79 ro_109_19 (in_c 160 rfl) rfl; (first | have a10 := in_u ((in_c 160 rfl)) | (have a10 := (in_c 160 rfl); unfold In at a10)); omega) | (intro j hj; rw [sI_q]; unfold upd; have h := g71_0 j hj; have e5 : z101.toNatClampNeg = z101.toInt.toNat := rfl; by_cases c : j = z101.toNatClampNeg; (rw [if_pos c]; rw [c, ← e103] at h; (first | have a0 := in_u j71_2 | (have a0 := j71_2; unfold In at a0)); (first | have a1 := in_u j71_1 | (have a1 := j71_1; unfold In at a1)); (first | have a2 := in_u ro_109_20 | (have a2 := ro_109_20; unfold In at a2)); (first | have a3 := in_u ro_109_19 | (have a3 := ro_109_19; unfold In at a3)); (first | have a4 := in_u i80 | (have a4 := i80; unfold In at a4)); (first | have a5 := in_u i107 | (have a5 := i107; unfold In at a5)); have a6 := t_add e107 i80 (in_c 1 rfl) rfl; (first | have a7 := in_u ((in_c 1 rfl)) | (have a7 := (in_c 1 rfl); unfold In at a7)); (first | have a8 := in_u i79 | (have a8 := i79; unfold In at a8)); have a9 := t_add e79 ro_109_19 (in_c 160 rfl) rfl; (first | have a10 := in_u ((in_c 160 rfl)) | (have a10 := (in_c 160 rfl); unfold In at a10)); omega); (rw [if_neg c]; (first | have a0 := in_u j71_2 | (have a0 := j71_2; unfold In at a0)); (first | have a1 := in_u j71_1 | (have a1 := j71_1; unfold In at a1)); (first | have a2 := in_u ro_109_20 | (have a2 := ro_109_20; unfold In at a2)); (first | have a3 := in_u ro_109_19 | (have a3 := ro_109_19; unfold In at a3)); (first | have a4 := in_u i80 | (have a4 := i80; unfold In at a4)); (first | have a5 := in_u i107 | (have a5 := i107; unfold In at a5)); have a6 := t_add e107 i80 (in_c 1 rfl) rfl; (first | have a7 := in_u ((in_c 1 rfl)) | (have a7 := (in_c 1 rfl); unfold In at a7)); (first | have a8 := in_u i79 | (have a8 := i79; unfold In at a8)); have a9 := t_add e79 ro_109_19 (in_c 160 rfl) rfl; (first | have a10 := in_u ((in_c 160 rfl)) | (have a10 := (in_c 160 rfl); unfold In at a10)); omega))
          have n71c : ∀ i : Nat, (u_109_19).toInt ≤ (i : Int) → (i : Int) < (z107).toInt → (s.1 112 i).toInt ≠ 0 → 1 ≤ (sc71.1 164 (s.1 113 i).toNatClampNeg).toInt := by first | (intro i h1 h2; exfalso; omega) | (intro i h1 h2 ht; by_cases c : (i : Int) < y71_3.toInt; exact g71_1 i h1 c ht; (exfalso; apply ht; have h3 := (hFc71.1 112 rfl); have h4 := (hFc71.1 113 rfl); have e8 : z88 = s.1 112 y71_3.toNatClampNeg := (by rw [e88, h3]); have ei : i = y71_3.toNatClampNeg := (by show i = y71_3.toInt.toNat; (first | have a0 := in_u j71_2 | (have a0 := j71_2; unfold In at a0)); (first | have a1 := in_u j71_1 | (have a1 := j71_1; unfold In at a1)); (first | have a2 := in_u ro_109_20 | (have a2 := ro_109_20; unfold In at a2)); (first | have a3 := in_u ro_109_19 | (have a3 := ro_109_19; unfold In at a3)); (first | have a4 := in_u i80 | (have a4 := i80; unfold In at a4)); (first | have a5 := in_u i107 | (have a5 := i107; unfold In at a5)); have a6 := t_add e107 i80 (in_c 1 rfl) rfl; (first | have a7 := in_u ((in_c 1 rfl)) | (have a7 := (in_c 1 rfl); unfold In at a7)); (first | have a8 := in_u i79 | (have a8 := i79; unfold In at a8)); have a9 := t_add e79 ro_109_19 (in_c 160 rfl) rfl; (first | have a10 := in_u ((in_c 160 rfl)) | (have a10 := (in_c 160 rfl); unfold In at a10)); omega); rw [ei, ← e8]; have hz := i89; unfold In at hz; omega)) | (intro i h1 h2 ht; rw [sI_q]; unfold upd; by_cases c2 : (s.1 113 i).toNatClampNeg = z101.toNatClampNeg; (rw [if_pos c2]; have ha := i104; unfold In at ha; (first | have a0 := in_u j71_2 | (have a0 := j71_2; unfold In at a0)); (first | have a1 := in_u j71_1 | (have a1 := j71_1; unfold In at a1)); (first | have a2 := in_u ro_109_20 | (have a2 := ro_109_20; unfold In at a2)); (first | have a3 := in_u ro_109_19 | (have a3 := ro_109_19; unfold In at a3)); (first | have a4 := in_u i80 | (have a4 := i80; unfold In at a4)); (first | have a5 := in_u i107 | (have a5 := i107; unfold In at a5)); have a6 := t_add e107 i80 (in_c 1 rfl) rfl; (first | have a7 := in_u ((in_c 1 rfl)) | (have a7 := (in_c 1 rfl); unfold In at a7)); (first | have a8 := in_u i79 | (have a8 := i79; unfold In at a8)); have a9 := t_add e79 ro_109_19 (in_c 160 rfl) rfl; (first | have a10 := in_u ((in_c 160 rfl)) | (have a10 := (in_c 160 rfl); unfold In at a10)); omega); (rw [if_neg c2]; by_cases c : (i : Int) < y71_3.toInt; exact g71_1 i h1 c ht; (exfalso; apply c2; have ei : i = y71_3.toNatClampNeg := (by show i = y71_3.toInt.toNat; (first | have a0 := in_u j71_2 | (have a0 := j71_2; unfold In at a0)); (first | have a1 := in_u j71_1 | (have a1 := j71_1; unfold In at a1)); (first | have a2 := in_u ro_109_20 | (have a2 := ro_109_20; unfold In at a2)); (first | have a3 := in_u ro_109_19 | (have a3 := ro_109_19; unfold In at a3)); (first | have a4 := in_u i80 | (have a4 := i80; unfold In at a4)); (first | have a5 := in_u i107 | (have a5 := i107; unfold In at a5)); have a6 := t_add e107 i80 (in_c 1 rfl) rfl; (first | have a7 := in_u ((in_c 1 rfl)) | (have a7 := (in_c 1 rfl); unfold In at a7)); (first | have a8 := in_u i79 | (have a8 := i79; unfold In at a8)); have a9 := t_add e79 ro_109_19 (in_c 160 rfl) rfl; (first | have a10 := in_u ((in_c 160 rfl)) | (have a10 := (in_c 160 rfl); unfold In at a10)); omega); rw [ei, e101, hFc71.1 113 rfl])))
          exact gg_w (by first | exact Nat.le_add_right _ _ | exact gw2 | exact gw3 | exact gwe rfl | exact gwf rfl | exact gwg rfl | exact gwh rfl | omega) (gg_f (gf_cons rfl (gf_cons rfl (gf_cons rfl (gf_cons rfl gf_nil)))) (ih71 sc71 z107 hIc71 hFc71 (in_w 0 31 j71_1 rfl) (in_w 0 40 j71_2 rfl) (in_w 0 400 i107 rfl) n71 n71a n71b n71c (m_up mm71 (t_add e107 i80 (in_c 1 rfl) rfl) (in_w 1 1 (in_c 1 rfl) rfl))))
        · skip
          have i89 := z_ne 1 1 c89 i88 rfl
          refine g_aload_n 93 (gd rfl) rfl rfl ?_
          refine g_getA (q2 := 164) 96 (gd rfl) rfl rfl rfl rfl ?_
          refine g_aload_n 97 (gd rfl) rfl rfl ?_
          refine g_getA (q2 := 113) 100 (gd rfl) rfl rfl rfl rfl ?_
          refine g_iload_n 101 (gd rfl) rfl rfl ?_
          refine g_iaload 102 (gd rfl) rfl (n := 480) rfl (in_ix i80 rfl) (fun z101 e101 => ?_)
          have i101 := inv_I hIc71 (n := 480) (t := 0) 0 31 rfl (in_ix i80 rfl) rfl e101
          refine g_dup2 103 (gd rfl) rfl rfl rfl ?_
          refine g_iaload 104 (gd rfl) rfl (n := 32) rfl (in_ix i101 rfl) (fun z103 e103 => ?_)
          have i103 := inv_I hIc71 (n := 32) (t := 0) 0 160 rfl (in_ix i101 rfl) rfl e103
          have i104 : In z103 0 159 := by have h3 := (hFc71.1 112 rfl); have h4 := (hFc71.1 113 rfl); have e8 : z88 = s.1 112 y71_3.toNatClampNeg := (by rw [e88, h3]); have hz : (s.1 112 y71_3.toNatClampNeg).toInt ≠ 0 := (by rw [← e8]; have hz := i89; unfold In at hz; omega); have hk := ke_n hI (i := y71_3.toNatClampNeg) (by rw [← e_109_19]; show _ ≤ ((y71_3.toInt.toNat : Nat) : Int); (first | have a0 := in_u j71_2 | (have a0 := j71_2; unfold In at a0)); (first | have a1 := in_u j71_1 | (have a1 := j71_1; unfold In at a1)); (first | have a2 := in_u ro_109_20 | (have a2 := ro_109_20; unfold In at a2)); (first | have a3 := in_u ro_109_19 | (have a3 := ro_109_19; unfold In at a3)); (first | have a4 := in_u i80 | (have a4 := i80; unfold In at a4)); (first | have a5 := in_u i79 | (have a5 := i79; unfold In at a5)); have a6 := t_add e79 ro_109_19 (in_c 160 rfl) rfl; (first | have a7 := in_u ((in_c 160 rfl)) | (have a7 := (in_c 160 rfl); unfold In at a7)); omega) (by rw [← e_109_19]; show ((y71_3.toInt.toNat : Nat) : Int) < _; (first | have a0 := in_u j71_2 | (have a0 := j71_2; unfold In at a0)); (first | have a1 := in_u j71_1 | (have a1 := j71_1; unfold In at a1)); (first | have a2 := in_u ro_109_20 | (have a2 := ro_109_20; unfold In at a2)); (first | have a3 := in_u ro_109_19 | (have a3 := ro_109_19; unfold In at a3)); (first | have a4 := in_u i80 | (have a4 := i80; unfold In at a4)); (first | have a5 := in_u i79 | (have a5 := i79; unfold In at a5)); have a6 := t_add e79 ro_109_19 (in_c 160 rfl) rfl; (first | have a7 := in_u ((in_c 160 rfl)) | (have a7 := (in_c 160 rfl); unfold In at a7)); omega) hz; rw [← e_109_20, ← h4, ← e101] at hk; have h1 := g71_0 z101.toNatClampNeg (by show ((z101.toInt.toNat : Nat) : Int) < _; have h := i101; unfold In at h; omega); rw [← e103] at h1; exact ⟨i103.1, by (first | have a0 := in_u j71_2 | (have a0 := j71_2; unfold In at a0)); (first | have a1 := in_u j71_1 | (have a1 := j71_1; unfold In at a1)); (first | have a2 := in_u ro_109_20 | (have a2 := ro_109_20; unfold In at a2)); (first | have a3 := in_u ro_109_19 | (have a3 := ro_109_19; unfold In at a3)); (first | have a4 := in_u i80 | (have a4 := i80; unfold In at a4)); (first | have a5 := in_u i79 | (have a5 := i79; unfold In at a5)); have a6 := t_add e79 ro_109_19 (in_c 160 rfl) rfl; (first | have a7 := in_u ((in_c 160 rfl)) | (have a7 := (in_c 160 rfl); unfold In at a7)); omega⟩
          refine g_iconst 1 105 (gd rfl) rfl rfl ?_
          refine g_iadd 106 (gd rfl) rfl (fun z105 e105 => ?_)
          have i105 := in_add 1 160 e105 i104 (in_c 1 rfl) rfl rfl
          refine g_iastore 107 (gd rfl) rfl (n := 32) rfl (in_ix i101 rfl) ?_
          have hI106 := inv_sI (q := 164) (j := z101.toNatClampNeg) hIc71 rfl (in_w 0 160 i105 rfl)
          refine g_iinc 110 (gd rfl) rfl rfl (Nat.le_of_ble_eq_true rfl) (fun z107 e107 => ?_)
          have i107 := in_add 1 320 e107 i80 (in_c 1 rfl) rfl rfl
          refine g_goto 71 (gd rfl) rfl ?_
          have n71 : (u_109_19).toInt ≤ (z107).toInt := by (first | have a0 := in_u j71_2 | (have a0 := j71_2; unfold In at a0)); (first | have a1 := in_u j71_1 | (have a1 := j71_1; unfold In at a1)); (first | have a2 := in_u ro_109_20 | (have a2 := ro_109_20; unfold In at a2)); (first | have a3 := in_u ro_109_19 | (have a3 := ro_109_19; unfold In at a3)); (first | have a4 := in_u i80 | (have a4 := i80; unfold In at a4)); (first | have a5 := in_u i107 | (have a5 := i107; unfold In at a5)); have a6 := t_add e107 i80 (in_c 1 rfl) rfl; (first | have a7 := in_u ((in_c 1 rfl)) | (have a7 := (in_c 1 rfl); unfold In at a7)); (first | have a8 := in_u i105 | (have a8 := i105; unfold In at a8)); have a9 := t_add e105 i104 (in_c 1 rfl) rfl; (first | have a10 := in_u i104 | (have a10 := i104; unfold In at a10)); (first | have a11 := in_u i79 | (have a11 := i79; unfold In at a11)); have a12 := t_add e79 ro_109_19 (in_c 160 rfl) rfl; (first | have a13 := in_u ((in_c 160 rfl)) | (have a13 := (in_c 160 rfl); unfold In at a13)); omega
          have n71a : (z107).toInt ≤ (u_109_19).toInt + 160 := by (first | have a0 := in_u j71_2 | (have a0 := j71_2; unfold In at a0)); (first | have a1 := in_u j71_1 | (have a1 := j71_1; unfold In at a1)); (first | have a2 := in_u ro_109_20 | (have a2 := ro_109_20; unfold In at a2)); (first | have a3 := in_u ro_109_19 | (have a3 := ro_109_19; unfold In at a3)); (first | have a4 := in_u i80 | (have a4 := i80; unfold In at a4)); (first | have a5 := in_u i107 | (have a5 := i107; unfold In at a5)); have a6 := t_add e107 i80 (in_c 1 rfl) rfl; (first | have a7 := in_u ((in_c 1 rfl)) | (have a7 := (in_c 1 rfl); unfold In at a7)); (first | have a8 := in_u i105 | (have a8 := i105; unfold In at a8)); have a9 := t_add e105 i104 (in_c 1 rfl) rfl; (first | have a10 := in_u i104 | (have a10 := i104; unfold In at a10)); (first | have a11 := in_u i79 | (have a11 := i79; unfold In at a11)); have a12 := t_add e79 ro_109_19 (in_c 160 rfl) rfl; (first | have a13 := in_u ((in_c 160 rfl)) | (have a13 := (in_c 160 rfl); unfold In at a13)); omega
          have n71b : ∀ j : Nat, (j : Int) < (u_109_20).toInt → ((sI sc71 164 z101.toNatClampNeg z105).1 164 j).toInt ≤ (z107).toInt - (u_109_19).toInt := by first | (intro j hj; have h := g36_0 j (by (first | have a0 := in_u j71_2 | (have a0 := j71_2; unfold In at a0)); (first | have a1 := in_u j71_1 | (have a1 := j71_1; unfold In at a1)); (first | have a2 := in_u ro_109_20 | (have a2 := ro_109_20; unfold In at a2)); (first | have a3 := in_u ro_109_19 | (have a3 := ro_109_19; unfold In at a3)); (first | have a4 := in_u i80 | (have a4 := i80; unfold In at a4)); (first | have a5 := in_u i107 | (have a5 := i107; unfold In at a5)); have a6 := t_add e107 i80 (in_c 1 rfl) rfl; (first | have a7 := in_u ((in_c 1 rfl)) | (have a7 := (in_c 1 rfl); unfold In at a7)); (first | have a8 := in_u i105 | (have a8 := i105; unfold In at a8)); have a9 := t_add e105 i104 (in_c 1 rfl) rfl; (first | have a10 := in_u i104 | (have a10 := i104; unfold In at a10)); (first | have a11 := in_u i79 | (have a11 := i79; unfold In at a11)); have a12 := t_add e79 ro_109_19 (in_c 160 rfl) rfl; (first | have a13 := in_u ((in_c 160 rfl)) | (have a13 := (in_c 160 rfl); unfold In at a13)); omega); omega) | (intro j hj; have h := g71_0 j hj; (first | have a0 := in_u j71_2 | (have a0 := j71_2; unfold In at a0)); (first | have a1 := in_u j71_1 | (have a1 := j71_1; unfold In at a1)); (first | have a2 := in_u ro_109_20 | (have a2 := ro_109_20; unfold In at a2)); (first | have a3 := in_u ro_109_19 | (have a3 := ro_109_19; unfold In at a3)); (first | have a4 := in_u i80 | (have a4 := i80; unfold In at a4)); (first | have a5 := in_u i107 | (have a5 := i107; unfold In at a5)); have a6 := t_add e107 i80 (in_c 1 rfl) rfl; (first | have a7 := in_u ((in_c 1 rfl)) | (have a7 := (in_c 1 rfl); unfold In at a7)); (first | have a8 := in_u i105 | (have a8 := i105; unfold In at a8)); have a9 := t_add e105 i104 (in_c 1 rfl) rfl; (first | have a10 := in_u i104 | (have a10 := i104; unfold In at a10)); (first | have a11 := in_u i79 | (have a11 := i79; unfold In at a11)); have a12 := t_add e79 ro_109_19 (in_c 160 rfl) rfl; (first | have a13 := in_u ((in_c 160 rfl)) | (have a13 := (in_c 160 rfl); unfold In at a13)); omega) | (intro j hj; rw [sI_q]; unfold upd; have h := g71_0 j hj; have e5 : z101.toNatClampNeg = z101.toInt.toNat := rfl; by_cases c : j = z101.toNatClampNeg; (rw [if_pos c]; rw [c, ← e103] at h; (first | have a0 := in_u j71_2 | (have a0 := j71_2; unfold In at a0)); (first | have a1 := in_u j71_1 | (have a1 := j71_1; unfold In at a1)); (first | have a2 := in_u ro_109_20 | (have a2 := ro_109_20; unfold In at a2)); (first | have a3 := in_u ro_109_19 | (have a3 := ro_109_19; unfold In at a3)); (first | have a4 := in_u i80 | (have a4 := i80; unfold In at a4)); (first | have a5 := in_u i107 | (have a5 := i107; unfold In at a5)); have a6 := t_add e107 i80 (in_c 1 rfl) rfl; (first | have a7 := in_u ((in_c 1 rfl)) | (have a7 := (in_c 1 rfl); unfold In at a7)); (first | have a8 := in_u i105 | (have a8 := i105; unfold In at a8)); have a9 := t_add e105 i104 (in_c 1 rfl) rfl; (first | have a10 := in_u i104 | (have a10 := i104; unfold In at a10)); (first | have a11 := in_u i79 | (have a11 := i79; unfold In at a11)); have a12 := t_add e79 ro_109_19 (in_c 160 rfl) rfl; (first | have a13 := in_u ((in_c 160 rfl)) | (have a13 := (in_c 160 rfl); unfold In at a13)); omega); (rw [if_neg c]; (first | have a0 := in_u j71_2 | (have a0 := j71_2; unfold In at a0)); (first | have a1 := in_u j71_1 | (have a1 := j71_1; unfold In at a1)); (first | have a2 := in_u ro_109_20 | (have a2 := ro_109_20; unfold In at a2)); (first | have a3 := in_u ro_109_19 | (have a3 := ro_109_19; unfold In at a3)); (first | have a4 := in_u i80 | (have a4 := i80; unfold In at a4)); (first | have a5 := in_u i107 | (have a5 := i107; unfold In at a5)); have a6 := t_add e107 i80 (in_c 1 rfl) rfl; (first | have a7 := in_u ((in_c 1 rfl)) | (have a7 := (in_c 1 rfl); unfold In at a7)); (first | have a8 := in_u i105 | (have a8 := i105; unfold In at a8)); have a9 := t_add e105 i104 (in_c 1 rfl) rfl; (first | have a10 := in_u i104 | (have a10 := i104; unfold In at a10)); (first | have a11 := in_u i79 | (have a11 := i79; unfold In at a11)); have a12 := t_add e79 ro_109_19 (in_c 160 rfl) rfl; (first | have a13 := in_u ((in_c 160 rfl)) | (have a13 := (in_c 160 rfl); unfold In at a13)); omega))
          have n71c : ∀ i : Nat, (u_109_19).toInt ≤ (i : Int) → (i : Int) < (z107).toInt → (s.1 112 i).toInt ≠ 0 → 1 ≤ ((sI sc71 164 z101.toNatClampNeg z105).1 164 (s.1 113 i).toNatClampNeg).toInt := by first | (intro i h1 h2; exfalso; omega) | (intro i h1 h2 ht; by_cases c : (i : Int) < y71_3.toInt; exact g71_1 i h1 c ht; (exfalso; apply ht; have h3 := (hFc71.1 112 rfl); have h4 := (hFc71.1 113 rfl); have e8 : z88 = s.1 112 y71_3.toNatClampNeg := (by rw [e88, h3]); have ei : i = y71_3.toNatClampNeg := (by show i = y71_3.toInt.toNat; (first | have a0 := in_u j71_2 | (have a0 := j71_2; unfold In at a0)); (first | have a1 := in_u j71_1 | (have a1 := j71_1; unfold In at a1)); (first | have a2 := in_u ro_109_20 | (have a2 := ro_109_20; unfold In at a2)); (first | have a3 := in_u ro_109_19 | (have a3 := ro_109_19; unfold In at a3)); (first | have a4 := in_u i80 | (have a4 := i80; unfold In at a4)); (first | have a5 := in_u i107 | (have a5 := i107; unfold In at a5)); have a6 := t_add e107 i80 (in_c 1 rfl) rfl; (first | have a7 := in_u ((in_c 1 rfl)) | (have a7 := (in_c 1 rfl); unfold In at a7)); (first | have a8 := in_u i105 | (have a8 := i105; unfold In at a8)); have a9 := t_add e105 i104 (in_c 1 rfl) rfl; (first | have a10 := in_u i104 | (have a10 := i104; unfold In at a10)); (first | have a11 := in_u i79 | (have a11 := i79; unfold In at a11)); have a12 := t_add e79 ro_109_19 (in_c 160 rfl) rfl; (first | have a13 := in_u ((in_c 160 rfl)) | (have a13 := (in_c 160 rfl); unfold In at a13)); omega); rw [ei, ← e8]; have hz := i89; unfold In at hz; omega)) | (intro i h1 h2 ht; rw [sI_q]; unfold upd; by_cases c2 : (s.1 113 i).toNatClampNeg = z101.toNatClampNeg; (rw [if_pos c2]; have ha := i104; unfold In at ha; (first | have a0 := in_u j71_2 | (have a0 := j71_2; unfold In at a0)); (first | have a1 := in_u j71_1 | (have a1 := j71_1; unfold In at a1)); (first | have a2 := in_u ro_109_20 | (have a2 := ro_109_20; unfold In at a2)); (first | have a3 := in_u ro_109_19 | (have a3 := ro_109_19; unfold In at a3)); (first | have a4 := in_u i80 | (have a4 := i80; unfold In at a4)); (first | have a5 := in_u i107 | (have a5 := i107; unfold In at a5)); have a6 := t_add e107 i80 (in_c 1 rfl) rfl; (first | have a7 := in_u ((in_c 1 rfl)) | (have a7 := (in_c 1 rfl); unfold In at a7)); (first | have a8 := in_u i105 | (have a8 := i105; unfold In at a8)); have a9 := t_add e105 i104 (in_c 1 rfl) rfl; (first | have a10 := in_u i104 | (have a10 := i104; unfold In at a10)); (first | have a11 := in_u i79 | (have a11 := i79; unfold In at a11)); have a12 := t_add e79 ro_109_19 (in_c 160 rfl) rfl; (first | have a13 := in_u ((in_c 160 rfl)) | (have a13 := (in_c 160 rfl); unfold In at a13)); omega); (rw [if_neg c2]; by_cases c : (i : Int) < y71_3.toInt; exact g71_1 i h1 c ht; (exfalso; apply c2; have ei : i = y71_3.toNatClampNeg := (by show i = y71_3.toInt.toNat; (first | have a0 := in_u j71_2 | (have a0 := j71_2; unfold In at a0)); (first | have a1 := in_u j71_1 | (have a1 := j71_1; unfold In at a1)); (first | have a2 := in_u ro_109_20 | (have a2 := ro_109_20; unfold In at a2)); (first | have a3 := in_u ro_109_19 | (have a3 := ro_109_19; unfold In at a3)); (first | have a4 := in_u i80 | (have a4 := i80; unfold In at a4)); (first | have a5 := in_u i107 | (have a5 := i107; unfold In at a5)); have a6 := t_add e107 i80 (in_c 1 rfl) rfl; (first | have a7 := in_u ((in_c 1 rfl)) | (have a7 := (in_c 1 rfl); unfold In at a7)); (first | have a8 := in_u i105 | (have a8 := i105; unfold In at a8)); have a9 := t_add e105 i104 (in_c 1 rfl) rfl; (first | have a10 := in_u i104 | (have a10 := i104; unfold In at a10)); (first | have a11 := in_u i79 | (have a11 := i79; unfold In at a11)); have a12 := t_add e79 ro_109_19 (in_c 160 rfl) rfl; (first | have a13 := in_u ((in_c 160 rfl)) | (have a13 := (in_c 160 rfl); unfold In at a13)); omega); rw [ei, e101, hFc71.1 113 rfl])))
          exact gg_w (by first | exact Nat.le_add_right _ _ | exact gw2 | exact gw3 | exact gwe rfl | exact gwf rfl | exact gwg rfl | exact gwh rfl | omega) (gg_f (gf_cons rfl (gf_cons rfl (gf_cons rfl (gf_cons rfl gf_nil)))) (ih71 (sI sc71 164 z101.toNatClampNeg z105) z107 hI106 (fr_sI rfl hFc71) (in_w 0 31 j71_1 rfl) (in_w 0 40 j71_2 rfl) (in_w 0 400 i107 rfl) n71 n71a n71b n71c (m_up mm71 (t_add e107 i80 (in_c 1 rfl) rfl) (in_w 1 1 (in_c 1 rfl) rfl))))
  have ct36 : ∀ (k36 : Nat) (sc36 : GS) (y36_3 : Int32), Inv sc36 → Fr fm_369 s sc36 → (In x1 0 31) → (In x2 0 40) → (In y36_3 0 32) → (∀ j : Nat, (j : Int) < (y36_3).toInt → (sc36.1 164 j).toInt = 0) → 32 - (y36_3).toInt < (k36 : Int) → GG Z (d - 1) 369 post (gx xp) (26383686 + k36 * 900) 36 (fun j => xlook j [(0, .ref (A 109)), (1, .int x1), (2, .int x2), (3, .int y36_3)]) [] (WW Z A sc36 ++ ex) 0 0 := by
    intro k36
    induction k36 with
    | zero => intro sc36 y36_3 hIc36 hFc36 j36_1 j36_2 j36_3 g36_0 mm36; exact m_no mm36 j36_3 rfl
    | succ k36 ih36 =>
      intro sc36 y36_3 hIc36 hFc36 j36_1 j36_2 j36_3 g36_0 mm36
      refine gg_w (M := 26383686 + k36 * 900 + 900) gws ?_
      refine g_iload_n 37 (gd rfl) rfl rfl ?_
      refine g_aload_n 38 (gd rfl) rfl rfl ?_
      refine g_getI 41 (gd rfl) rfl rfl rfl (fun z38 e38 => ?_)
      have q38 : u_109_20 = z38 := (fr_F e_109_20 hFc36 rfl).trans e38.symm
      subst q38
      refine g_cmp_ge 44 66 (gd rfl) rfl rfl (fun c41 => ?_) (fun c41 => ?_)
      · skip
        refine g_aload_n 67 (gd rfl) rfl rfl ?_
        refine g_getI 70 (gd rfl) rfl rfl rfl (fun z67 e67 => ?_)
        have q67 : u_109_19 = z67 := (fr_F e_109_19 hFc36 rfl).trans e67.symm
        subst q67
        refine g_istore_n 71 (gd rfl) rfl (Nat.le_of_ble_eq_true rfl) ?_
        have n71 : (u_109_19).toInt ≤ (u_109_19).toInt := by exact Int.le_refl _
        have n71a : (u_109_19).toInt ≤ (u_109_19).toInt + 160 := by (first | have a0 := in_u j36_2 | (have a0 := j36_2; unfold In at a0)); (first | have a1 := in_u j36_1 | (have a1 := j36_1; unfold In at a1)); (first | have a2 := in_u ro_109_20 | (have a2 := ro_109_20; unfold In at a2)); (first | have a3 := in_u ro_109_19 | (have a3 := ro_109_19; unfold In at a3)); (first | have a4 := in_u j36_3 | (have a4 := j36_3; unfold In at a4)); omega
        have n71b : ∀ j : Nat, (j : Int) < (u_109_20).toInt → (sc36.1 164 j).toInt ≤ (u_109_19).toInt - (u_109_19).toInt := by first | (intro j hj; have h := g36_0 j (by (first | have a0 := in_u j36_2 | (have a0 := j36_2; unfold In at a0)); (first | have a1 := in_u j36_1 | (have a1 := j36_1; unfold In at a1)); (first | have a2 := in_u ro_109_20 | (have a2 := ro_109_20; unfold In at a2)); (first | have a3 := in_u ro_109_19 | (have a3 := ro_109_19; unfold In at a3)); (first | have a4 := in_u j36_3 | (have a4 := j36_3; unfold In at a4)); omega); omega) | (intro j hj; have h := g71_0 j hj; (first | have a0 := in_u j36_2 | (have a0 := j36_2; unfold In at a0)); (first | have a1 := in_u j36_1 | (have a1 := j36_1; unfold In at a1)); (first | have a2 := in_u ro_109_20 | (have a2 := ro_109_20; unfold In at a2)); (first | have a3 := in_u ro_109_19 | (have a3 := ro_109_19; unfold In at a3)); (first | have a4 := in_u j36_3 | (have a4 := j36_3; unfold In at a4)); omega) | (intro j hj; rw [sI_q]; unfold upd; have h := g71_0 j hj; have e5 : z101.toNatClampNeg = z101.toInt.toNat := rfl; by_cases c : j = z101.toNatClampNeg; (rw [if_pos c]; rw [c, ← e103] at h; (first | have a0 := in_u j36_2 | (have a0 := j36_2; unfold In at a0)); (first | have a1 := in_u j36_1 | (have a1 := j36_1; unfold In at a1)); (first | have a2 := in_u ro_109_20 | (have a2 := ro_109_20; unfold In at a2)); (first | have a3 := in_u ro_109_19 | (have a3 := ro_109_19; unfold In at a3)); (first | have a4 := in_u j36_3 | (have a4 := j36_3; unfold In at a4)); omega); (rw [if_neg c]; (first | have a0 := in_u j36_2 | (have a0 := j36_2; unfold In at a0)); (first | have a1 := in_u j36_1 | (have a1 := j36_1; unfold In at a1)); (first | have a2 := in_u ro_109_20 | (have a2 := ro_109_20; unfold In at a2)); (first | have a3 := in_u ro_109_19 | (have a3 := ro_109_19; unfold In at a3)); (first | have a4 := in_u j36_3 | (have a4 := j36_3; unfold In at a4)); omega))
        have n71c : ∀ i : Nat, (u_109_19).toInt ≤ (i : Int) → (i : Int) < (u_109_19).toInt → (s.1 112 i).toInt ≠ 0 → 1 ≤ (sc36.1 164 (s.1 113 i).toNatClampNeg).toInt := by first | (intro i h1 h2; exfalso; omega) | (intro i h1 h2 ht; by_cases c : (i : Int) < y71_3.toInt; exact g71_1 i h1 c ht; (exfalso; apply ht; have h3 := (hFc71.1 112 rfl); have h4 := (hFc71.1 113 rfl); have e8 : z88 = s.1 112 y71_3.toNatClampNeg := (by rw [e88, h3]); have ei : i = y71_3.toNatClampNeg := (by show i = y71_3.toInt.toNat; (first | have a0 := in_u j36_2 | (have a0 := j36_2; unfold In at a0)); (first | have a1 := in_u j36_1 | (have a1 := j36_1; unfold In at a1)); (first | have a2 := in_u ro_109_20 | (have a2 := ro_109_20; unfold In at a2)); (first | have a3 := in_u ro_109_19 | (have a3 := ro_109_19; unfold In at a3)); (first | have a4 := in_u j36_3 | (have a4 := j36_3; unfold In at a4)); omega); rw [ei, ← e8]; have hz := i89; unfold In at hz; omega)) | (intro i h1 h2 ht; rw [sI_q]; unfold upd; by_cases c2 : (s.1 113 i).toNatClampNeg = z101.toNatClampNeg; (rw [if_pos c2]; have ha := i104; unfold In at ha; (first | have a0 := in_u j36_2 | (have a0 := j36_2; unfold In at a0)); (first | have a1 := in_u j36_1 | (have a1 := j36_1; unfold In at a1)); (first | have a2 := in_u ro_109_20 | (have a2 := ro_109_20; unfold In at a2)); (first | have a3 := in_u ro_109_19 | (have a3 := ro_109_19; unfold In at a3)); (first | have a4 := in_u j36_3 | (have a4 := j36_3; unfold In at a4)); omega); (rw [if_neg c2]; by_cases c : (i : Int) < y71_3.toInt; exact g71_1 i h1 c ht; (exfalso; apply c2; have ei : i = y71_3.toNatClampNeg := (by show i = y71_3.toInt.toNat; (first | have a0 := in_u j36_2 | (have a0 := j36_2; unfold In at a0)); (first | have a1 := in_u j36_1 | (have a1 := j36_1; unfold In at a1)); (first | have a2 := in_u ro_109_20 | (have a2 := ro_109_20; unfold In at a2)); (first | have a3 := in_u ro_109_19 | (have a3 := ro_109_19; unfold In at a3)); (first | have a4 := in_u j36_3 | (have a4 := j36_3; unfold In at a4)); omega); rw [ei, e101, hFc71.1 113 rfl])))
        exact gg_w (by first | exact Nat.le_add_right _ _ | exact gw2 | exact gw3 | exact gwe rfl | exact gwf rfl | exact gwg rfl | exact gwh rfl | omega) (gg_f (gf_cons rfl (gf_cons rfl (gf_cons rfl (gf_cons rfl gf_nil)))) (ct71 401 sc36 u_109_19 hIc36 hFc36 (in_w 0 31 j36_1 rfl) (in_w 0 40 j36_2 rfl) (in_w 0 400 ro_109_19 rfl) n71 n71a n71b n71c (m_in 401 (in_w 0 400 ro_109_19 rfl) rfl)))
      · skip
        have i41 := r_lt1 0 31 c41 j36_3 ro_109_20 rfl
        have i41a := r_lt2 1 32 c41 j36_3 ro_109_20 rfl
        refine g_aload_n 45 (gd rfl) rfl rfl ?_
        refine g_getA (q2 := 162) 48 (gd rfl) rfl rfl rfl rfl ?_
        refine g_iload_n 49 (gd rfl) rfl rfl ?_
        refine g_ldc2_w 1000000000000 52 (gd rfl) rfl rfl ?_
        refine g_lastore 53 (gd rfl) rfl (n := 32) rfl (in_ix i41 rfl) ?_
        have hI52 := inv_sL (q := 162) (j := y36_3.toNatClampNeg) (x := (Int64.ofInt 1000000000000)) hIc36 rfl (l_rng (Int64.ofInt 1000000000000))
        refine g_aload_n 54 (gd rfl) rfl rfl ?_
        refine g_getA (q2 := 164) 57 (gd rfl) rfl rfl rfl rfl ?_
        refine g_iload_n 58 (gd rfl) rfl rfl ?_
        refine g_iconst 0 59 (gd rfl) rfl rfl ?_
        refine g_iastore 60 (gd rfl) rfl (n := 32) rfl (in_ix i41 rfl) ?_
        have hI59 := inv_sI (q := 164) (j := y36_3.toNatClampNeg) hI52 rfl (in_w 0 160 (in_c 0 rfl) rfl)
        refine g_iinc 63 (gd rfl) rfl rfl (Nat.le_of_ble_eq_true rfl) (fun z60 e60 => ?_)
        have i60 := in_add 1 32 e60 i41 (in_c 1 rfl) rfl rfl
        refine g_goto 36 (gd rfl) rfl ?_
        have n36 : ∀ j : Nat, (j : Int) < (z60).toInt → ((sI (sL sc36 162 y36_3.toNatClampNeg (Int64.ofInt 1000000000000)) 164 y36_3.toNatClampNeg (Int32.ofInt 0)).1 164 j).toInt = 0 := by first | (intro j hj; exfalso; have h0 : (Int32.ofInt 0).toInt = 0 := rfl; omega) | (intro j hj; show (upd (sc36.1 164) y36_3.toNatClampNeg (Int32.ofInt 0) j).toInt = 0; unfold upd; by_cases c : j = y36_3.toNatClampNeg; (rw [if_pos c]; rfl); (rw [if_neg c]; exact g36_0 j (by have e5 : y36_3.toNatClampNeg = y36_3.toInt.toNat := rfl; (first | have a0 := in_u j36_2 | (have a0 := j36_2; unfold In at a0)); (first | have a1 := in_u j36_1 | (have a1 := j36_1; unfold In at a1)); (first | have a2 := in_u i41a | (have a2 := i41a; unfold In at a2)); (first | have a3 := in_u ro_109_19 | (have a3 := ro_109_19; unfold In at a3)); (first | have a4 := in_u i41 | (have a4 := i41; unfold In at a4)); (first | have a5 := in_u i60 | (have a5 := i60; unfold In at a5)); have a6 := t_add e60 i41 (in_c 1 rfl) rfl; (first | have a7 := in_u ((in_c 1 rfl)) | (have a7 := (in_c 1 rfl); unfold In at a7)); omega)))
        exact gg_w (by first | exact Nat.le_add_right _ _ | exact gw2 | exact gw3 | exact gwe rfl | exact gwf rfl | exact gwg rfl | exact gwh rfl | omega) (gg_f (gf_cons rfl (gf_cons rfl (gf_cons rfl (gf_cons rfl gf_nil)))) (ih36 (sI (sL sc36 162 y36_3.toNatClampNeg (Int64.ofInt 1000000000000)) 164 y36_3.toNatClampNeg (Int32.ofInt 0)) z60 hI59 (fr_sI rfl (fr_sL rfl hFc36)) (in_w 0 31 j36_1 rfl) (in_w 0 40 j36_2 rfl) (in_w 0 32 i60 rfl) n36 (m_up mm36 (t_add e60 i41 (in_c 1 rfl) rfl) (in_w 1 1 (in_c 1 rfl) rfl))))
  refine g_enter2 (k := 369) (N := 26414286) (by first | exact dq1 hd rfl | exact dq0 hd rfl | exact dq2 hd rfl | exact dq3 hd rfl | omega) rfl (Nat.le_of_ble_eq_true rfl) ?_
  refine g_aload_n 1 (gd rfl) rfl rfl ?_
  refine g_aload_n 2 (gd rfl) rfl rfl ?_
  refine g_iload_n 3 (gd rfl) rfl rfl ?_
  refine g_callv (X := _) (As := [.int x1]) (r := [.ref (A 109)]) (b := A 109) (q := 109) 6 (gd rfl) rfl rfl rfl rfl rfl (ww_o rfl) (Nat.le_of_ble_eq_true rfl) (mc := 0) (ms := 0) (Nat.zero_le _) (Nat.zero_le _) (P := fun v u => _) ?_ (fun e u h => h) (fun v u h => h)
  intro po3 xx3 hp3 hx3
  refine g_enter2 (k := 272) (N := 300) (by first | exact dq1 hd rfl | exact dq0 hd rfl | exact dq2 hd rfl | exact dq3 hd rfl | omega) rfl (Nat.le_of_ble_eq_true rfl) ?_
  refine g_iload_n 1 (gd rfl) rfl rfl ?_
  refine g_if_lt 4 16 (gd rfl) rfl rfl (fun c3x1 => ?_) (fun c3x1 => ?_)
  · skip
    have i3x1 := z_lt (-2147483648) (-1) c3x1 (i_rng x1) rfl
    refine g_iconst 0 17 (gd rfl) rfl rfl ?_
    refine g_ireturn (gd rfl) rfl (nb01 (in_w 0 1 (in_c 0 rfl) rfl)) (hp3 _ _ ?_)
    show GG _ _ _ _ _ _ _ _ [.int (Int32.ofInt 0), .ref (A 109)] _ _ _
    refine g_if_eq 9 25 (gd rfl) rfl rfl (fun c6 => ?_) (fun c6 => ?_)
    · skip
      refine g_iconst 0 26 (gd rfl) rfl rfl ?_
      refine g_callv (X := _) (As := [.int (Int32.ofInt 0)]) (r := []) (b := A 109) (q := 109) 29 (gd rfl) rfl rfl rfl rfl rfl (ww_o rfl) (Nat.le_of_ble_eq_true rfl) (mc := 0) (ms := 0) (Nat.zero_le _) (Nat.zero_le _) (P := fun v u => _) ?_ (fun e u h => h) (fun v u h => h)
      intro po26 xx26 hp26 hx26
      refine g_enter2 (k := 271) (N := 300) (by first | exact dq1 hd rfl | exact dq0 hd rfl | exact dq2 hd rfl | exact dq3 hd rfl | omega) rfl (Nat.le_of_ble_eq_true rfl) ?_
      refine g_aload_n 1 (gd rfl) rfl rfl ?_
      refine g_iload_n 2 (gd rfl) rfl rfl ?_
      refine g_iconst 1 3 (gd rfl) rfl rfl ?_
      refine g_callv (X := _) (As := [.int (Int32.ofInt 0), .int (Int32.ofInt 1)]) (r := []) (b := A 109) (q := 109) 6 (gd rfl) rfl rfl rfl rfl rfl (ww_o rfl) (Nat.le_of_ble_eq_true rfl) (mc := 0) (ms := 0) (Nat.zero_le _) (Nat.zero_le _) (P := fun v u => _) ?_ (fun e u h => h) (fun v u h => h)
      intro po26x3 xx26x3 hp26x3 hx26x3
      refine g_enter2 (k := 270) (N := 300) (by first | exact dq1 hd rfl | exact dq0 hd rfl | exact dq2 hd rfl | exact dq3 hd rfl | omega) rfl (Nat.le_of_ble_eq_true rfl) ?_
      refine g_aload_n 1 (gd rfl) rfl rfl ?_
      refine g_iload_n 2 (gd rfl) rfl rfl ?_
      refine g_if_ne 5 9 (gd rfl) rfl rfl (fun c26x3x2 => ?_) (fun c26x3x2 => ?_)
      · skip
        exact zn_ne c26x3x2 (in_c 0 rfl) rfl
      · skip
        refine g_iconst 1 6 (gd rfl) rfl rfl ?_
        refine g_goto 18 (gd rfl) rfl ?_
        refine g_putI 21 (gd rfl) rfl rfl rfl rfl ?_
        have hI26x3x18 := inv_sF (q := 109) (j := 0) hI rfl (in_w 0 2 (in_c 1 rfl) rfl)
        refine g_aload_n 22 (gd rfl) rfl rfl ?_
        refine g_getI 25 (gd rfl) rfl rfl rfl (fun z26x3x22 e26x3x22 => ?_)
        have q26x3x22 : (Int32.ofInt 1) = z26x3x22 := (sF_get).trans e26x3x22.symm
        subst q26x3x22
        refine g_if_le 28 32 (gd rfl) rfl rfl (fun c26x3x25 => ?_) (fun c26x3x25 => ?_)
        · skip
          exact zn_le c26x3x25 (in_c 1 rfl) rfl
        · skip
          refine g_iconst 1 29 (gd rfl) rfl rfl ?_
          refine g_goto 33 (gd rfl) rfl ?_
          refine g_ireturn (gd rfl) rfl (nb01 (in_w 0 1 (in_c 1 rfl) rfl)) (hp26x3 _ _ ?_)
          show GG _ _ _ _ _ _ _ _ [.int (Int32.ofInt 1)] _ _ _
          refine g_ireturn (gd rfl) rfl (nb01 (in_w 0 1 (in_c 1 rfl) rfl)) (hp26 _ _ ?_)
          show GG _ _ _ _ _ _ _ _ [.int (Int32.ofInt 1)] _ _ _
          refine g_if_eq 32 34 (gd rfl) rfl rfl (fun c29 => ?_) (fun c29 => ?_)
          · skip
            exact zn_eq c29 (in_c 1 rfl) rfl
          · skip
            refine g_lconst 0 33 (gd rfl) rfl rfl ?_
            exact g_lreturn (gd rfl) rfl (hP _ _ ⟨(sF s 109 0 (Int32.ofInt 1)), hI26x3x18, (fr_sF rfl fr_rf), (Int64.ofInt 0), rfl, rfl⟩)
    · skip
      exact zn_ne c6 (in_c 0 rfl) rfl
  · skip
    have i3x1 := z_ge 0 2147483647 c3x1 (i_rng x1) rfl
    refine g_iload_n 5 (gd rfl) rfl rfl ?_
    refine g_aload_n 6 (gd rfl) rfl rfl ?_
    refine g_getI 9 (gd rfl) rfl rfl rfl (fun z3x6 e3x6 => ?_)
    have q3x6 : u_109_20 = z3x6 := (e_109_20).trans e3x6.symm
    subst q3x6
    refine g_cmp_ge 12 16 (gd rfl) rfl rfl (fun c3x9 => ?_) (fun c3x9 => ?_)
    · skip
      refine g_iconst 0 17 (gd rfl) rfl rfl ?_
      refine g_ireturn (gd rfl) rfl (nb01 (in_w 0 1 (in_c 0 rfl) rfl)) (hp3 _ _ ?_)
      show GG _ _ _ _ _ _ _ _ [.int (Int32.ofInt 0), .ref (A 109)] _ _ _
      refine g_if_eq 9 25 (gd rfl) rfl rfl (fun c6 => ?_) (fun c6 => ?_)
      · skip
        refine g_iconst 0 26 (gd rfl) rfl rfl ?_
        refine g_callv (X := _) (As := [.int (Int32.ofInt 0)]) (r := []) (b := A 109) (q := 109) 29 (gd rfl) rfl rfl rfl rfl rfl (ww_o rfl) (Nat.le_of_ble_eq_true rfl) (mc := 0) (ms := 0) (Nat.zero_le _) (Nat.zero_le _) (P := fun v u => _) ?_ (fun e u h => h) (fun v u h => h)
        intro po26 xx26 hp26 hx26
        refine g_enter2 (k := 271) (N := 300) (by first | exact dq1 hd rfl | exact dq0 hd rfl | exact dq2 hd rfl | exact dq3 hd rfl | omega) rfl (Nat.le_of_ble_eq_true rfl) ?_
        refine g_aload_n 1 (gd rfl) rfl rfl ?_
        refine g_iload_n 2 (gd rfl) rfl rfl ?_
        refine g_iconst 1 3 (gd rfl) rfl rfl ?_
        refine g_callv (X := _) (As := [.int (Int32.ofInt 0), .int (Int32.ofInt 1)]) (r := []) (b := A 109) (q := 109) 6 (gd rfl) rfl rfl rfl rfl rfl (ww_o rfl) (Nat.le_of_ble_eq_true rfl) (mc := 0) (ms := 0) (Nat.zero_le _) (Nat.zero_le _) (P := fun v u => _) ?_ (fun e u h => h) (fun v u h => h)
        intro po26x3 xx26x3 hp26x3 hx26x3
        refine g_enter2 (k := 270) (N := 300) (by first | exact dq1 hd rfl | exact dq0 hd rfl | exact dq2 hd rfl | exact dq3 hd rfl | omega) rfl (Nat.le_of_ble_eq_true rfl) ?_
        refine g_aload_n 1 (gd rfl) rfl rfl ?_
        refine g_iload_n 2 (gd rfl) rfl rfl ?_
        refine g_if_ne 5 9 (gd rfl) rfl rfl (fun c26x3x2 => ?_) (fun c26x3x2 => ?_)
        · skip
          exact zn_ne c26x3x2 (in_c 0 rfl) rfl
        · skip
          refine g_iconst 1 6 (gd rfl) rfl rfl ?_
          refine g_goto 18 (gd rfl) rfl ?_
          refine g_putI 21 (gd rfl) rfl rfl rfl rfl ?_
          have hI26x3x18 := inv_sF (q := 109) (j := 0) hI rfl (in_w 0 2 (in_c 1 rfl) rfl)
          refine g_aload_n 22 (gd rfl) rfl rfl ?_
          refine g_getI 25 (gd rfl) rfl rfl rfl (fun z26x3x22 e26x3x22 => ?_)
          have q26x3x22 : (Int32.ofInt 1) = z26x3x22 := (sF_get).trans e26x3x22.symm
          subst q26x3x22
          refine g_if_le 28 32 (gd rfl) rfl rfl (fun c26x3x25 => ?_) (fun c26x3x25 => ?_)
          · skip
            exact zn_le c26x3x25 (in_c 1 rfl) rfl
          · skip
            refine g_iconst 1 29 (gd rfl) rfl rfl ?_
            refine g_goto 33 (gd rfl) rfl ?_
            refine g_ireturn (gd rfl) rfl (nb01 (in_w 0 1 (in_c 1 rfl) rfl)) (hp26x3 _ _ ?_)
            show GG _ _ _ _ _ _ _ _ [.int (Int32.ofInt 1)] _ _ _
            refine g_ireturn (gd rfl) rfl (nb01 (in_w 0 1 (in_c 1 rfl) rfl)) (hp26 _ _ ?_)
            show GG _ _ _ _ _ _ _ _ [.int (Int32.ofInt 1)] _ _ _
            refine g_if_eq 32 34 (gd rfl) rfl rfl (fun c29 => ?_) (fun c29 => ?_)
            · skip
              exact zn_eq c29 (in_c 1 rfl) rfl
            · skip
              refine g_lconst 0 33 (gd rfl) rfl rfl ?_
              exact g_lreturn (gd rfl) rfl (hP _ _ ⟨(sF s 109 0 (Int32.ofInt 1)), hI26x3x18, (fr_sF rfl fr_rf), (Int64.ofInt 0), rfl, rfl⟩)
      · skip
        exact zn_ne c6 (in_c 0 rfl) rfl
    · skip
      have i3x9 := r_lt1 0 31 c3x9 i3x1 ro_109_20 rfl
      have i3x9a := r_lt2 1 32 c3x9 i3x1 ro_109_20 rfl
      refine g_iconst 1 13 (gd rfl) rfl rfl ?_
      refine g_goto 17 (gd rfl) rfl ?_
      refine g_ireturn (gd rfl) rfl (nb01 (in_w 0 1 (in_c 1 rfl) rfl)) (hp3 _ _ ?_)
      show GG _ _ _ _ _ _ _ _ [.int (Int32.ofInt 1), .ref (A 109)] _ _ _
      refine g_if_eq 9 25 (gd rfl) rfl rfl (fun c6 => ?_) (fun c6 => ?_)
      · skip
        exact zn_eq c6 (in_c 1 rfl) rfl
      · skip
        refine g_iload_n 10 (gd rfl) rfl rfl ?_
        refine g_i2l 11 (gd rfl) rfl (fun z10 e10 => ?_)
        have i10 := l_i e10 (i_rng x2)
        refine g_lconst 0 12 (gd rfl) rfl rfl ?_
        refine g_ldc2_w 40 15 (gd rfl) rfl rfl ?_
        refine g_calls (As := [.long z10, .long (Int64.ofInt 0), .long (Int64.ofInt 40)]) (r := [.ref (A 109)]) 18 (gd rfl) rfl rfl rfl rfl rfl (Nat.le_of_ble_eq_true rfl) (mc := 0) (ms := 0) (Nat.zero_le _) (Nat.zero_le _) (P := fun v u => _) ?_ (fun v u h => h)
        intro po15 xx15 hp15 hx15
        refine g_enter2 (k := 269) (N := 300) (by first | exact dq1 hd rfl | exact dq0 hd rfl | exact dq2 hd rfl | exact dq3 hd rfl | omega) rfl (Nat.le_of_ble_eq_true rfl) ?_
        refine g_lload_n 1 (gd rfl) rfl rfl ?_
        refine g_lload_n 2 (gd rfl) rfl rfl ?_
        refine g_lcmp 3 (gd rfl) rfl (fun z15x2 e15x2 => ?_)
        have i15x2 := lc_in e15x2
        refine g_if_lt 6 17 (gd rfl) rfl rfl (fun c15x3 => ?_) (fun c15x3 => ?_)
        · skip
          have i15x3 := z_lt (-1) (-1) c15x3 i15x2 rfl
          have c15x3a := lc_lt e15x2 c15x3
          have i15x3a := lr_lt1 (-2147483648) (-1) c15x3a i10 (l_c 0 rfl) rfl
          have i15x3b := l_b e10 i15x3a
          refine g_iconst 0 18 (gd rfl) rfl rfl ?_
          refine g_ireturn (gd rfl) rfl (nb01 (in_w 0 1 (in_c 0 rfl) rfl)) (hp15 _ _ ?_)
          show GG _ _ _ _ _ _ _ _ [.int (Int32.ofInt 0), .ref (A 109)] _ _ _
          refine g_if_eq 21 25 (gd rfl) rfl rfl (fun c18 => ?_) (fun c18 => ?_)
          · skip
            refine g_iconst 0 26 (gd rfl) rfl rfl ?_
            refine g_callv (X := _) (As := [.int (Int32.ofInt 0)]) (r := []) (b := A 109) (q := 109) 29 (gd rfl) rfl rfl rfl rfl rfl (ww_o rfl) (Nat.le_of_ble_eq_true rfl) (mc := 0) (ms := 0) (Nat.zero_le _) (Nat.zero_le _) (P := fun v u => _) ?_ (fun e u h => h) (fun v u h => h)
            intro po26 xx26 hp26 hx26
            refine g_enter2 (k := 271) (N := 300) (by first | exact dq1 hd rfl | exact dq0 hd rfl | exact dq2 hd rfl | exact dq3 hd rfl | omega) rfl (Nat.le_of_ble_eq_true rfl) ?_
            refine g_aload_n 1 (gd rfl) rfl rfl ?_
            refine g_iload_n 2 (gd rfl) rfl rfl ?_
            refine g_iconst 1 3 (gd rfl) rfl rfl ?_
            refine g_callv (X := _) (As := [.int (Int32.ofInt 0), .int (Int32.ofInt 1)]) (r := []) (b := A 109) (q := 109) 6 (gd rfl) rfl rfl rfl rfl rfl (ww_o rfl) (Nat.le_of_ble_eq_true rfl) (mc := 0) (ms := 0) (Nat.zero_le _) (Nat.zero_le _) (P := fun v u => _) ?_ (fun e u h => h) (fun v u h => h)
            intro po26x3 xx26x3 hp26x3 hx26x3
            refine g_enter2 (k := 270) (N := 300) (by first | exact dq1 hd rfl | exact dq0 hd rfl | exact dq2 hd rfl | exact dq3 hd rfl | omega) rfl (Nat.le_of_ble_eq_true rfl) ?_
            refine g_aload_n 1 (gd rfl) rfl rfl ?_
            refine g_iload_n 2 (gd rfl) rfl rfl ?_
            refine g_if_ne 5 9 (gd rfl) rfl rfl (fun c26x3x2 => ?_) (fun c26x3x2 => ?_)
            · skip
              exact zn_ne c26x3x2 (in_c 0 rfl) rfl
            · skip
              refine g_iconst 1 6 (gd rfl) rfl rfl ?_
              refine g_goto 18 (gd rfl) rfl ?_
              refine g_putI 21 (gd rfl) rfl rfl rfl rfl ?_
              have hI26x3x18 := inv_sF (q := 109) (j := 0) hI rfl (in_w 0 2 (in_c 1 rfl) rfl)
              refine g_aload_n 22 (gd rfl) rfl rfl ?_
              refine g_getI 25 (gd rfl) rfl rfl rfl (fun z26x3x22 e26x3x22 => ?_)
              have q26x3x22 : (Int32.ofInt 1) = z26x3x22 := (sF_get).trans e26x3x22.symm
              subst q26x3x22
              refine g_if_le 28 32 (gd rfl) rfl rfl (fun c26x3x25 => ?_) (fun c26x3x25 => ?_)
              · skip
                exact zn_le c26x3x25 (in_c 1 rfl) rfl
              · skip
                refine g_iconst 1 29 (gd rfl) rfl rfl ?_
                refine g_goto 33 (gd rfl) rfl ?_
                refine g_ireturn (gd rfl) rfl (nb01 (in_w 0 1 (in_c 1 rfl) rfl)) (hp26x3 _ _ ?_)
                show GG _ _ _ _ _ _ _ _ [.int (Int32.ofInt 1)] _ _ _
                refine g_ireturn (gd rfl) rfl (nb01 (in_w 0 1 (in_c 1 rfl) rfl)) (hp26 _ _ ?_)
                show GG _ _ _ _ _ _ _ _ [.int (Int32.ofInt 1)] _ _ _
                refine g_if_eq 32 34 (gd rfl) rfl rfl (fun c29 => ?_) (fun c29 => ?_)
                · skip
                  exact zn_eq c29 (in_c 1 rfl) rfl
                · skip
                  refine g_lconst 0 33 (gd rfl) rfl rfl ?_
                  exact g_lreturn (gd rfl) rfl (hP _ _ ⟨(sF s 109 0 (Int32.ofInt 1)), hI26x3x18, (fr_sF rfl fr_rf), (Int64.ofInt 0), rfl, rfl⟩)
          · skip
            exact zn_ne c18 (in_c 0 rfl) rfl
        · skip
          have i15x3 := z_ge 0 1 c15x3 i15x2 rfl
          have c15x3a := lc_ge e15x2 c15x3
          have i15x3a := lr_le2 0 2147483647 c15x3a (l_c 0 rfl) i10 rfl
          have i15x3b := l_b e10 i15x3a
          refine g_lload_n 7 (gd rfl) rfl rfl ?_
          refine g_lload 9 (gd rfl) rfl rfl ?_
          refine g_lcmp 10 (gd rfl) rfl (fun z15x9 e15x9 => ?_)
          have i15x9 := lc_in e15x9
          refine g_if_gt 13 17 (gd rfl) rfl rfl (fun c15x10 => ?_) (fun c15x10 => ?_)
          · skip
            have i15x10 := z_gt 1 1 c15x10 i15x9 rfl
            have c15x10a := lc_gt e15x9 c15x10
            have i15x10a := lr_lt2 41 2147483647 c15x10a (l_c 40 rfl) i15x3a rfl
            have i15x10b := l_b e10 i15x10a
            refine g_iconst 0 18 (gd rfl) rfl rfl ?_
            refine g_ireturn (gd rfl) rfl (nb01 (in_w 0 1 (in_c 0 rfl) rfl)) (hp15 _ _ ?_)
            show GG _ _ _ _ _ _ _ _ [.int (Int32.ofInt 0), .ref (A 109)] _ _ _
            refine g_if_eq 21 25 (gd rfl) rfl rfl (fun c18 => ?_) (fun c18 => ?_)
            · skip
              refine g_iconst 0 26 (gd rfl) rfl rfl ?_
              refine g_callv (X := _) (As := [.int (Int32.ofInt 0)]) (r := []) (b := A 109) (q := 109) 29 (gd rfl) rfl rfl rfl rfl rfl (ww_o rfl) (Nat.le_of_ble_eq_true rfl) (mc := 0) (ms := 0) (Nat.zero_le _) (Nat.zero_le _) (P := fun v u => _) ?_ (fun e u h => h) (fun v u h => h)
              intro po26 xx26 hp26 hx26
              refine g_enter2 (k := 271) (N := 300) (by first | exact dq1 hd rfl | exact dq0 hd rfl | exact dq2 hd rfl | exact dq3 hd rfl | omega) rfl (Nat.le_of_ble_eq_true rfl) ?_
              refine g_aload_n 1 (gd rfl) rfl rfl ?_
              refine g_iload_n 2 (gd rfl) rfl rfl ?_
              refine g_iconst 1 3 (gd rfl) rfl rfl ?_
              refine g_callv (X := _) (As := [.int (Int32.ofInt 0), .int (Int32.ofInt 1)]) (r := []) (b := A 109) (q := 109) 6 (gd rfl) rfl rfl rfl rfl rfl (ww_o rfl) (Nat.le_of_ble_eq_true rfl) (mc := 0) (ms := 0) (Nat.zero_le _) (Nat.zero_le _) (P := fun v u => _) ?_ (fun e u h => h) (fun v u h => h)
              intro po26x3 xx26x3 hp26x3 hx26x3
              refine g_enter2 (k := 270) (N := 300) (by first | exact dq1 hd rfl | exact dq0 hd rfl | exact dq2 hd rfl | exact dq3 hd rfl | omega) rfl (Nat.le_of_ble_eq_true rfl) ?_
              refine g_aload_n 1 (gd rfl) rfl rfl ?_
              refine g_iload_n 2 (gd rfl) rfl rfl ?_
              refine g_if_ne 5 9 (gd rfl) rfl rfl (fun c26x3x2 => ?_) (fun c26x3x2 => ?_)
              · skip
                exact zn_ne c26x3x2 (in_c 0 rfl) rfl
              · skip
                refine g_iconst 1 6 (gd rfl) rfl rfl ?_
                refine g_goto 18 (gd rfl) rfl ?_
                refine g_putI 21 (gd rfl) rfl rfl rfl rfl ?_
                have hI26x3x18 := inv_sF (q := 109) (j := 0) hI rfl (in_w 0 2 (in_c 1 rfl) rfl)
                refine g_aload_n 22 (gd rfl) rfl rfl ?_
                refine g_getI 25 (gd rfl) rfl rfl rfl (fun z26x3x22 e26x3x22 => ?_)
                have q26x3x22 : (Int32.ofInt 1) = z26x3x22 := (sF_get).trans e26x3x22.symm
                subst q26x3x22
                refine g_if_le 28 32 (gd rfl) rfl rfl (fun c26x3x25 => ?_) (fun c26x3x25 => ?_)
                · skip
                  exact zn_le c26x3x25 (in_c 1 rfl) rfl
                · skip
                  refine g_iconst 1 29 (gd rfl) rfl rfl ?_
                  refine g_goto 33 (gd rfl) rfl ?_
                  refine g_ireturn (gd rfl) rfl (nb01 (in_w 0 1 (in_c 1 rfl) rfl)) (hp26x3 _ _ ?_)
                  show GG _ _ _ _ _ _ _ _ [.int (Int32.ofInt 1)] _ _ _
                  refine g_ireturn (gd rfl) rfl (nb01 (in_w 0 1 (in_c 1 rfl) rfl)) (hp26 _ _ ?_)
                  show GG _ _ _ _ _ _ _ _ [.int (Int32.ofInt 1)] _ _ _
                  refine g_if_eq 32 34 (gd rfl) rfl rfl (fun c29 => ?_) (fun c29 => ?_)
                  · skip
                    exact zn_eq c29 (in_c 1 rfl) rfl
                  · skip
                    refine g_lconst 0 33 (gd rfl) rfl rfl ?_
                    exact g_lreturn (gd rfl) rfl (hP _ _ ⟨(sF s 109 0 (Int32.ofInt 1)), hI26x3x18, (fr_sF rfl fr_rf), (Int64.ofInt 0), rfl, rfl⟩)
            · skip
              exact zn_ne c18 (in_c 0 rfl) rfl
          · skip
            have i15x10 := z_le (-1) 0 c15x10 i15x9 rfl
            have c15x10a := lc_le e15x9 c15x10
            have i15x10a := lr_le1 0 40 c15x10a i15x3a (l_c 40 rfl) rfl
            have i15x10b := l_b e10 i15x10a
            refine g_iconst 1 14 (gd rfl) rfl rfl ?_
            refine g_goto 18 (gd rfl) rfl ?_
            refine g_ireturn (gd rfl) rfl (nb01 (in_w 0 1 (in_c 1 rfl) rfl)) (hp15 _ _ ?_)
            show GG _ _ _ _ _ _ _ _ [.int (Int32.ofInt 1), .ref (A 109)] _ _ _
            refine g_if_eq 21 25 (gd rfl) rfl rfl (fun c18 => ?_) (fun c18 => ?_)
            · skip
              exact zn_eq c18 (in_c 1 rfl) rfl
            · skip
              refine g_iconst 1 22 (gd rfl) rfl rfl ?_
              refine g_goto 26 (gd rfl) rfl ?_
              refine g_callv (X := _) (As := [.int (Int32.ofInt 1)]) (r := []) (b := A 109) (q := 109) 29 (gd rfl) rfl rfl rfl rfl rfl (ww_o rfl) (Nat.le_of_ble_eq_true rfl) (mc := 0) (ms := 0) (Nat.zero_le _) (Nat.zero_le _) (P := fun v u => _) ?_ (fun e u h => h) (fun v u h => h)
              intro po26 xx26 hp26 hx26
              refine g_enter2 (k := 271) (N := 300) (by first | exact dq1 hd rfl | exact dq0 hd rfl | exact dq2 hd rfl | exact dq3 hd rfl | omega) rfl (Nat.le_of_ble_eq_true rfl) ?_
              refine g_aload_n 1 (gd rfl) rfl rfl ?_
              refine g_iload_n 2 (gd rfl) rfl rfl ?_
              refine g_iconst 1 3 (gd rfl) rfl rfl ?_
              refine g_callv (X := _) (As := [.int (Int32.ofInt 1), .int (Int32.ofInt 1)]) (r := []) (b := A 109) (q := 109) 6 (gd rfl) rfl rfl rfl rfl rfl (ww_o rfl) (Nat.le_of_ble_eq_true rfl) (mc := 0) (ms := 0) (Nat.zero_le _) (Nat.zero_le _) (P := fun v u => _) ?_ (fun e u h => h) (fun v u h => h)
              intro po26x3 xx26x3 hp26x3 hx26x3
              refine g_enter2 (k := 270) (N := 300) (by first | exact dq1 hd rfl | exact dq0 hd rfl | exact dq2 hd rfl | exact dq3 hd rfl | omega) rfl (Nat.le_of_ble_eq_true rfl) ?_
              refine g_aload_n 1 (gd rfl) rfl rfl ?_
              refine g_iload_n 2 (gd rfl) rfl rfl ?_
              refine g_if_ne 5 9 (gd rfl) rfl rfl (fun c26x3x2 => ?_) (fun c26x3x2 => ?_)
              · skip
                refine g_iload_n 10 (gd rfl) rfl rfl ?_
                refine g_if_ne 13 17 (gd rfl) rfl rfl (fun c26x3x10 => ?_) (fun c26x3x10 => ?_)
                · skip
                  refine g_iconst 0 18 (gd rfl) rfl rfl ?_
                  refine g_putI 21 (gd rfl) rfl rfl rfl rfl ?_
                  have hI26x3x18 := inv_sF (q := 109) (j := 0) hI rfl (in_w 0 2 (in_c 0 rfl) rfl)
                  refine g_aload_n 22 (gd rfl) rfl rfl ?_
                  refine g_getI 25 (gd rfl) rfl rfl rfl (fun z26x3x22 e26x3x22 => ?_)
                  have q26x3x22 : (Int32.ofInt 0) = z26x3x22 := (sF_get).trans e26x3x22.symm
                  subst q26x3x22
                  refine g_if_le 28 32 (gd rfl) rfl rfl (fun c26x3x25 => ?_) (fun c26x3x25 => ?_)
                  · skip
                    refine g_iconst 0 33 (gd rfl) rfl rfl ?_
                    refine g_ireturn (gd rfl) rfl (nb01 (in_w 0 1 (in_c 0 rfl) rfl)) (hp26x3 _ _ ?_)
                    show GG _ _ _ _ _ _ _ _ [.int (Int32.ofInt 0)] _ _ _
                    refine g_ireturn (gd rfl) rfl (nb01 (in_w 0 1 (in_c 0 rfl) rfl)) (hp26 _ _ ?_)
                    show GG _ _ _ _ _ _ _ _ [.int (Int32.ofInt 0)] _ _ _
                    refine g_if_eq 32 34 (gd rfl) rfl rfl (fun c29 => ?_) (fun c29 => ?_)
                    · skip
                      refine g_iconst 0 35 (gd rfl) rfl rfl ?_
                      refine g_istore_n 36 (gd rfl) rfl (Nat.le_of_ble_eq_true rfl) ?_
                      have n36 : ∀ j : Nat, (j : Int) < ((Int32.ofInt 0)).toInt → ((sF s 109 0 (Int32.ofInt 0)).1 164 j).toInt = 0 := by first | (intro j hj; exfalso; have h0 : (Int32.ofInt 0).toInt = 0 := rfl; omega) | (intro j hj; show (upd (sc36.1 164) y36_3.toNatClampNeg (Int32.ofInt 0) j).toInt = 0; unfold upd; by_cases c : j = y36_3.toNatClampNeg; (rw [if_pos c]; rfl); (rw [if_neg c]; exact g36_0 j (by have e5 : y36_3.toNatClampNeg = y36_3.toInt.toNat := rfl; (first | have a0 := in_u i15x10b | (have a0 := i15x10b; unfold In at a0)); (first | have a1 := in_u i3x9 | (have a1 := i3x9; unfold In at a1)); (first | have a2 := in_u i3x9a | (have a2 := i3x9a; unfold In at a2)); (first | have a3 := in_u ro_109_19 | (have a3 := ro_109_19; unfold In at a3)); (first | have a4 := in_u ((in_c 0 rfl)) | (have a4 := (in_c 0 rfl); unfold In at a4)); have a5 := tx_i2l e10; omega)))
                      exact gg_w (by first | exact Nat.le_of_ble_eq_true rfl | omega) (gg_f (gf_cons rfl (gf_cons rfl (gf_cons rfl (gf_cons rfl gf_nil)))) (ct36 33 (sF s 109 0 (Int32.ofInt 0)) (Int32.ofInt 0) hI26x3x18 (fr_sF rfl fr_rf) (in_w 0 31 i3x9 rfl) (in_w 0 40 i15x10b rfl) (in_w 0 32 (in_c 0 rfl) rfl) n36 (m_in 33 (in_w 0 32 (in_c 0 rfl) rfl) rfl)))
                    · skip
                      exact zn_ne c29 (in_c 0 rfl) rfl
                  · skip
                    exact zn_gt c26x3x25 (in_c 0 rfl) rfl
                · skip
                  exact zn_eq c26x3x10 (in_c 1 rfl) rfl
              · skip
                exact zn_eq c26x3x2 (in_c 1 rfl) rfl
end
section
/-! methods, by vc.py -/
def fm_370_109_165_166 : FM := ([165], [166], [], [])
/-- GraphHouseModel.hop -/
theorem k_370_109_165_166 {Z : AmZ} {A : Nat → Nat} {s : GS} {ex : va_W} {d : Nat} {X : AmX} {x1 : Int32} {x2 : Int32} (hd : 1 ≤ d) (hI : Inv s) (h1 : In x1 0 31) (h2 : In x2 0 0) : GC Z d 370 [.ref (A 109), .int x1, .int x2, .ref (A 165), .ref (A 166)] (WW Z A s ++ ex) 0 0 (fun v u => ∃ t : GS, Inv t ∧ Fr fm_370_109_165_166 s t ∧ v = none ∧ u = WW Z A t ++ ex) X := by
  intro post xp hP hX
  obtain ⟨u_109_19, e_109_19⟩ : ∃ w, w = s.2.2.1 109 19 := ⟨_, rfl⟩
  have ro_109_19 := inv_F hI 0 160 rfl e_109_19
  obtain ⟨u_109_20, e_109_20⟩ : ∃ w, w = s.2.2.1 109 20 := ⟨_, rfl⟩
  have ro_109_20 := inv_F hI 0 32 rfl e_109_20
  have ct52 : ∀ (k52 : Nat) (sc52 : GS) (y52_5 : Int32), Inv sc52 → Fr fm_370_109_165_166 s sc52 → (In y52_5 0 32) → 32 - (y52_5).toInt < (k52 : Int) → GG Z (d - 1) 370 post (gx xp) (1 + k52 * 363601) 52 (fun j => xlook j [(0, .ref (A 109)), (1, .int x1), (2, .int x2), (3, .ref (A 165)), (4, .ref (A 166)), (5, .int y52_5)]) [] (WW Z A sc52 ++ ex) 0 0 := by
    intro k52
    induction k52 with
    | zero => intro sc52 y52_5 hIc52 hFc52 j52_5 mm52; exact m_no mm52 j52_5 rfl
    | succ k52 ih52 =>
      intro sc52 y52_5 hIc52 hFc52 j52_5 mm52
      refine gg_w (M := 1 + k52 * 363601 + 363601) gws ?_
      have ct67 : ∀ (k67 : Nat) (sc67 : GS) (y67_6 : Int32), Inv sc67 → Fr fm_370_109_165_166 s sc67 → (In y52_5 0 31) → (In y67_6 0 400) → 400 - (y67_6).toInt < (k67 : Int) → GG Z (d - 1) 370 post (gx xp) (1 + k52 * 363601 + 1 + k67 * 900) 67 (fun j => xlook j [(0, .ref (A 109)), (1, .int x1), (2, .int x2), (3, .ref (A 165)), (4, .ref (A 166)), (5, .int y52_5), (6, .int y67_6)]) [] (WW Z A sc67 ++ ex) 0 0 := by
        intro k67
        induction k67 with
        | zero => intro sc67 y67_6 hIc67 hFc67 j67_5 j67_6 mm67; exact m_no mm67 j67_6 rfl
        | succ k67 ih67 =>
          intro sc67 y67_6 hIc67 hFc67 j67_5 j67_6 mm67
          refine gg_w (M := 1 + k52 * 363601 + 1 + k67 * 900 + 900) gws ?_
          refine g_iload 69 (gd rfl) rfl rfl ?_
          refine g_aload_n 70 (gd rfl) rfl rfl ?_
          refine g_getI 73 (gd rfl) rfl rfl rfl (fun z70 e70 => ?_)
          have q70 : u_109_19 = z70 := (fr_F e_109_19 hFc67 rfl).trans e70.symm
          subst q70
          refine g_sipush 160 76 (gd rfl) rfl rfl ?_
          refine g_iadd 77 (gd rfl) rfl (fun z76 e76 => ?_)
          have i76 := in_add 160 320 e76 ro_109_19 (in_c 160 rfl) rfl rfl
          refine g_cmp_ge 80 197 (gd rfl) rfl rfl (fun c77 => ?_) (fun c77 => ?_)
          · skip
            have i77 := r_le2 160 400 c77 i76 j67_6 rfl
            refine g_iinc 200 (gd rfl) rfl rfl (Nat.le_of_ble_eq_true rfl) (fun z197 e197 => ?_)
            have i197 := in_add 1 32 e197 j67_5 (in_c 1 rfl) rfl rfl
            refine g_goto 52 (gd rfl) rfl ?_
            exact gg_w (by first | exact Nat.le_add_right _ _ | exact gw2 | exact gw3 | exact gwe rfl | exact gwf rfl | exact gwg rfl | exact gwh rfl | omega) (gg_f (gf_cons rfl (gf_cons rfl (gf_cons rfl (gf_cons rfl (gf_cons rfl (gf_cons rfl gf_nil)))))) (ih52 sc67 z197 hIc67 hFc67 (in_w 0 32 i197 rfl) (m_up mm52 (t_add e197 j67_5 (in_c 1 rfl) rfl) (in_w 1 1 (in_c 1 rfl) rfl))))
          · skip
            have i77 := r_lt1 0 319 c77 j67_6 i76 rfl
            refine g_iload_n 81 (gd rfl) rfl rfl ?_
            refine g_if_eq 84 94 (gd rfl) rfl rfl (fun c81 => ?_) (fun c81 => ?_)
            · skip
              refine g_aload_n 95 (gd rfl) rfl rfl ?_
              refine g_getA (q2 := 113) 98 (gd rfl) rfl rfl rfl rfl ?_
              refine g_iload 100 (gd rfl) rfl rfl ?_
              refine g_iaload 101 (gd rfl) rfl (n := 480) rfl (in_ix i77 rfl) (fun z100 e100 => ?_)
              have i100 := inv_I hIc67 (n := 480) (t := 0) 0 31 rfl (in_ix i77 rfl) rfl e100
              refine g_istore 103 (gd rfl) rfl (Nat.le_of_ble_eq_true rfl) ?_
              refine g_iload_n 104 (gd rfl) rfl rfl ?_
              refine g_if_eq 107 117 (gd rfl) rfl rfl (fun c104 => ?_) (fun c104 => ?_)
              · skip
                refine g_aload_n 118 (gd rfl) rfl rfl ?_
                refine g_getA (q2 := 114) 121 (gd rfl) rfl rfl rfl rfl ?_
                refine g_iload 123 (gd rfl) rfl rfl ?_
                refine g_iaload 124 (gd rfl) rfl (n := 480) rfl (in_ix i77 rfl) (fun z123 e123 => ?_)
                have i123 := inv_I hIc67 (n := 480) (t := 0) 0 31 rfl (in_ix i77 rfl) rfl e123
                refine g_istore 126 (gd rfl) rfl (Nat.le_of_ble_eq_true rfl) ?_
                refine g_aload_n 127 (gd rfl) rfl rfl ?_
                refine g_getA (q2 := 112) 130 (gd rfl) rfl rfl rfl rfl ?_
                refine g_iload 132 (gd rfl) rfl rfl ?_
                refine g_baload 133 (gd rfl) rfl (n := 480) rfl (in_ix i77 rfl) (fun z132 e132 => ?_)
                have i132 := inv_I hIc67 (n := 480) (t := 3) 0 1 rfl (in_ix i77 rfl) rfl e132
                refine g_if_eq 136 191 (gd rfl) rfl rfl (fun c133 => ?_) (fun c133 => ?_)
                · skip
                  have i133 := z_eq 0 0 c133 i132 rfl
                  refine g_iinc 194 (gd rfl) rfl rfl (Nat.le_of_ble_eq_true rfl) (fun z191 e191 => ?_)
                  have i191 := in_add 1 320 e191 i77 (in_c 1 rfl) rfl rfl
                  refine g_goto 67 (gd rfl) rfl ?_
                  exact gg_w (by first | exact Nat.le_add_right _ _ | exact gw2 | exact gw3 | exact gwe rfl | exact gwf rfl | exact gwg rfl | exact gwh rfl | omega) (gg_f (gf_cons rfl (gf_cons rfl (gf_cons rfl (gf_cons rfl (gf_cons rfl (gf_cons rfl (gf_cons rfl gf_nil))))))) (ih67 sc67 z191 hIc67 hFc67 (in_w 0 31 j67_5 rfl) (in_w 0 400 i191 rfl) (m_up mm67 (t_add e191 i77 (in_c 1 rfl) rfl) (in_w 1 1 (in_c 1 rfl) rfl))))
                · skip
                  have i133 := z_ne 1 1 c133 i132 rfl
                  refine g_aload_n 137 (gd rfl) rfl rfl ?_
                  refine g_iload 139 (gd rfl) rfl rfl ?_
                  refine g_iaload 140 (gd rfl) rfl (n := 32) rfl (in_ix i100 rfl) (fun z139 e139 => ?_)
                  refine g_iload 142 (gd rfl) rfl rfl ?_
                  refine g_cmp_ne 145 191 (gd rfl) rfl rfl (fun c142 => ?_) (fun c142 => ?_)
                  · skip
                    refine g_iinc 194 (gd rfl) rfl rfl (Nat.le_of_ble_eq_true rfl) (fun z191 e191 => ?_)
                    have i191 := in_add 1 320 e191 i77 (in_c 1 rfl) rfl rfl
                    refine g_goto 67 (gd rfl) rfl ?_
                    exact gg_w (by first | exact Nat.le_add_right _ _ | exact gw2 | exact gw3 | exact gwe rfl | exact gwf rfl | exact gwg rfl | exact gwh rfl | omega) (gg_f (gf_cons rfl (gf_cons rfl (gf_cons rfl (gf_cons rfl (gf_cons rfl (gf_cons rfl (gf_cons rfl gf_nil))))))) (ih67 sc67 z191 hIc67 hFc67 (in_w 0 31 j67_5 rfl) (in_w 0 400 i191 rfl) (m_up mm67 (t_add e191 i77 (in_c 1 rfl) rfl) (in_w 1 1 (in_c 1 rfl) rfl))))
                  · skip
                    have i142 := r_eq1 0 31 c142 (i_rng z139) j67_5 rfl
                    refine g_aload_n 146 (gd rfl) rfl rfl ?_
                    refine g_iload 148 (gd rfl) rfl rfl ?_
                    refine g_iaload 149 (gd rfl) rfl (n := 32) rfl (in_ix i123 rfl) (fun z148 e148 => ?_)
                    refine g_if_lt 152 163 (gd rfl) rfl rfl (fun c149 => ?_) (fun c149 => ?_)
                    · skip
                      have i149 := z_lt (-2147483648) (-1) c149 (i_rng z148) rfl
                      refine g_aload_n 164 (gd rfl) rfl rfl ?_
                      refine g_iload 166 (gd rfl) rfl rfl ?_
                      refine g_iload 168 (gd rfl) rfl rfl ?_
                      refine g_iconst 1 169 (gd rfl) rfl rfl ?_
                      refine g_iadd 170 (gd rfl) rfl (fun z169 e169 => ?_)
                      have i169 := in_add 1 32 e169 j67_5 (in_c 1 rfl) rfl rfl
                      refine g_iastore 171 (gd rfl) rfl (n := 32) rfl (in_ix i123 rfl) ?_
                      have hI170 := inv_sI (q := 165) (j := z123.toNatClampNeg) hIc67 rfl (in_w (-2147483648) 2147483647 i169 rfl)
                      refine g_aload 173 (gd rfl) rfl rfl ?_
                      refine g_iload 175 (gd rfl) rfl rfl ?_
                      refine g_aload 177 (gd rfl) rfl rfl ?_
                      refine g_iload 179 (gd rfl) rfl rfl ?_
                      refine g_laload 180 (gd rfl) rfl (n := 32) rfl (in_ix i123 rfl) (fun z179 e179 => ?_)
                      refine g_aload 182 (gd rfl) rfl rfl ?_
                      refine g_iload 184 (gd rfl) rfl rfl ?_
                      refine g_laload 185 (gd rfl) rfl (n := 32) rfl (in_ix i100 rfl) (fun z184 e184 => ?_)
                      refine g_ladd 186 (gd rfl) rfl (fun z185 e185 => ?_)
                      refine g_ldc2_w 1000000007 189 (gd rfl) rfl rfl ?_
                      refine g_lrem 190 (gd rfl) rfl (by decide) (fun z189 e189 => ?_)
                      have i189 := l_rem (-1000000006) 1000000006 e189 rfl
                      refine g_lastore 191 (gd rfl) rfl (n := 32) rfl (in_ix i123 rfl) ?_
                      have hI190 := inv_sL (q := 166) (j := z123.toNatClampNeg) (x := z189) hI170 rfl (l_rng z189)
                      refine g_iinc 194 (gd rfl) rfl rfl (Nat.le_of_ble_eq_true rfl) (fun z191 e191 => ?_)
                      have i191 := in_add 1 320 e191 i77 (in_c 1 rfl) rfl rfl
                      refine g_goto 67 (gd rfl) rfl ?_
                      exact gg_w (by first | exact Nat.le_add_right _ _ | exact gw2 | exact gw3 | exact gwe rfl | exact gwf rfl | exact gwg rfl | exact gwh rfl | omega) (gg_f (gf_cons rfl (gf_cons rfl (gf_cons rfl (gf_cons rfl (gf_cons rfl (gf_cons rfl (gf_cons rfl gf_nil))))))) (ih67 (sL (sI sc67 165 z123.toNatClampNeg z169) 166 z123.toNatClampNeg z189) z191 hI190 (fr_sL rfl (fr_sI rfl hFc67)) (in_w 0 31 j67_5 rfl) (in_w 0 400 i191 rfl) (m_up mm67 (t_add e191 i77 (in_c 1 rfl) rfl) (in_w 1 1 (in_c 1 rfl) rfl))))
                    · skip
                      have i149 := z_ge 0 2147483647 c149 (i_rng z148) rfl
                      refine g_aload_n 153 (gd rfl) rfl rfl ?_
                      refine g_iload 155 (gd rfl) rfl rfl ?_
                      refine g_iaload 156 (gd rfl) rfl (n := 32) rfl (in_ix i123 rfl) (fun z155 e155 => ?_)
                      have q155 : z148 = z155 := (e148).trans e155.symm
                      subst q155
                      refine g_iload 158 (gd rfl) rfl rfl ?_
                      refine g_iconst 1 159 (gd rfl) rfl rfl ?_
                      refine g_iadd 160 (gd rfl) rfl (fun z159 e159 => ?_)
                      have i159 := in_add 1 32 e159 j67_5 (in_c 1 rfl) rfl rfl
                      refine g_cmp_ne 163 191 (gd rfl) rfl rfl (fun c160 => ?_) (fun c160 => ?_)
                      · skip
                        refine g_iinc 194 (gd rfl) rfl rfl (Nat.le_of_ble_eq_true rfl) (fun z191 e191 => ?_)
                        have i191 := in_add 1 320 e191 i77 (in_c 1 rfl) rfl rfl
                        refine g_goto 67 (gd rfl) rfl ?_
                        exact gg_w (by first | exact Nat.le_add_right _ _ | exact gw2 | exact gw3 | exact gwe rfl | exact gwf rfl | exact gwg rfl | exact gwh rfl | omega) (gg_f (gf_cons rfl (gf_cons rfl (gf_cons rfl (gf_cons rfl (gf_cons rfl (gf_cons rfl (gf_cons rfl gf_nil))))))) (ih67 sc67 z191 hIc67 hFc67 (in_w 0 31 j67_5 rfl) (in_w 0 400 i191 rfl) (m_up mm67 (t_add e191 i77 (in_c 1 rfl) rfl) (in_w 1 1 (in_c 1 rfl) rfl))))
                      · skip
                        have i160 := r_eq1 1 32 c160 i149 i159 rfl
                        refine g_aload_n 164 (gd rfl) rfl rfl ?_
                        refine g_iload 166 (gd rfl) rfl rfl ?_
                        refine g_iload 168 (gd rfl) rfl rfl ?_
                        refine g_iconst 1 169 (gd rfl) rfl rfl ?_
                        refine g_iadd 170 (gd rfl) rfl (fun z169 e169 => ?_)
                        have i169 := in_add 1 32 e169 j67_5 (in_c 1 rfl) rfl rfl
                        refine g_iastore 171 (gd rfl) rfl (n := 32) rfl (in_ix i123 rfl) ?_
                        have hI170 := inv_sI (q := 165) (j := z123.toNatClampNeg) hIc67 rfl (in_w (-2147483648) 2147483647 i169 rfl)
                        refine g_aload 173 (gd rfl) rfl rfl ?_
                        refine g_iload 175 (gd rfl) rfl rfl ?_
                        refine g_aload 177 (gd rfl) rfl rfl ?_
                        refine g_iload 179 (gd rfl) rfl rfl ?_
                        refine g_laload 180 (gd rfl) rfl (n := 32) rfl (in_ix i123 rfl) (fun z179 e179 => ?_)
                        refine g_aload 182 (gd rfl) rfl rfl ?_
                        refine g_iload 184 (gd rfl) rfl rfl ?_
                        refine g_laload 185 (gd rfl) rfl (n := 32) rfl (in_ix i100 rfl) (fun z184 e184 => ?_)
                        refine g_ladd 186 (gd rfl) rfl (fun z185 e185 => ?_)
                        refine g_ldc2_w 1000000007 189 (gd rfl) rfl rfl ?_
                        refine g_lrem 190 (gd rfl) rfl (by decide) (fun z189 e189 => ?_)
                        have i189 := l_rem (-1000000006) 1000000006 e189 rfl
                        refine g_lastore 191 (gd rfl) rfl (n := 32) rfl (in_ix i123 rfl) ?_
                        have hI190 := inv_sL (q := 166) (j := z123.toNatClampNeg) (x := z189) hI170 rfl (l_rng z189)
                        refine g_iinc 194 (gd rfl) rfl rfl (Nat.le_of_ble_eq_true rfl) (fun z191 e191 => ?_)
                        have i191 := in_add 1 320 e191 i77 (in_c 1 rfl) rfl rfl
                        refine g_goto 67 (gd rfl) rfl ?_
                        exact gg_w (by first | exact Nat.le_add_right _ _ | exact gw2 | exact gw3 | exact gwe rfl | exact gwf rfl | exact gwg rfl | exact gwh rfl | omega) (gg_f (gf_cons rfl (gf_cons rfl (gf_cons rfl (gf_cons rfl (gf_cons rfl (gf_cons rfl (gf_cons rfl gf_nil))))))) (ih67 (sL (sI sc67 165 z123.toNatClampNeg z169) 166 z123.toNatClampNeg z189) z191 hI190 (fr_sL rfl (fr_sI rfl hFc67)) (in_w 0 31 j67_5 rfl) (in_w 0 400 i191 rfl) (m_up mm67 (t_add e191 i77 (in_c 1 rfl) rfl) (in_w 1 1 (in_c 1 rfl) rfl))))
              · skip
                exact zn_ne c104 h2 rfl
            · skip
              exact zn_ne c81 h2 rfl
      refine g_iload 54 (gd rfl) rfl rfl ?_
      refine g_aload_n 55 (gd rfl) rfl rfl ?_
      refine g_getI 58 (gd rfl) rfl rfl rfl (fun z55 e55 => ?_)
      have q55 : u_109_20 = z55 := (fr_F e_109_20 hFc52 rfl).trans e55.symm
      subst q55
      refine g_cmp_ge 61 203 (gd rfl) rfl rfl (fun c58 => ?_) (fun c58 => ?_)
      · skip
        exact g_return (gd rfl) rfl (hP _ _ ⟨sc52, hIc52, hFc52, rfl, rfl⟩)
      · skip
        have i58 := r_lt1 0 31 c58 j52_5 ro_109_20 rfl
        have i58a := r_lt2 1 32 c58 j52_5 ro_109_20 rfl
        refine g_aload_n 62 (gd rfl) rfl rfl ?_
        refine g_getI 65 (gd rfl) rfl rfl rfl (fun z62 e62 => ?_)
        have q62 : u_109_19 = z62 := (fr_F e_109_19 hFc52 rfl).trans e62.symm
        subst q62
        refine g_istore 67 (gd rfl) rfl (Nat.le_of_ble_eq_true rfl) ?_
        exact gg_w (by first | exact Nat.le_add_right _ _ | exact gw2 | exact gw3 | exact gwe rfl | exact gwf rfl | exact gwg rfl | exact gwh rfl | omega) (gg_f (gf_cons rfl (gf_cons rfl (gf_cons rfl (gf_cons rfl (gf_cons rfl (gf_cons rfl (gf_cons rfl gf_nil))))))) (ct67 401 sc52 u_109_19 hIc52 hFc52 (in_w 0 31 i58 rfl) (in_w 0 400 ro_109_19 rfl) (m_in 401 (in_w 0 400 ro_109_19 rfl) rfl)))
  have ct3 : ∀ (k3 : Nat) (sc3 : GS) (y3_5 : Int32), Inv sc3 → Fr fm_370_109_165_166 s sc3 → (In y3_5 0 32) → 32 - (y3_5).toInt < (k3 : Int) → GG Z (d - 1) 370 post (gx xp) (11998835 + k3 * 900) 3 (fun j => xlook j [(0, .ref (A 109)), (1, .int x1), (2, .int x2), (3, .ref (A 165)), (4, .ref (A 166)), (5, .int y3_5)]) [] (WW Z A sc3 ++ ex) 0 0 := by
    intro k3
    induction k3 with
    | zero => intro sc3 y3_5 hIc3 hFc3 j3_5 mm3; exact m_no mm3 j3_5 rfl
    | succ k3 ih3 =>
      intro sc3 y3_5 hIc3 hFc3 j3_5 mm3
      refine gg_w (M := 11998835 + k3 * 900 + 900) gws ?_
      refine g_iload 5 (gd rfl) rfl rfl ?_
      refine g_aload_n 6 (gd rfl) rfl rfl ?_
      refine g_getI 9 (gd rfl) rfl rfl rfl (fun z6 e6 => ?_)
      have q6 : u_109_20 = z6 := (fr_F e_109_20 hFc3 rfl).trans e6.symm
      subst q6
      refine g_cmp_ge 12 49 (gd rfl) rfl rfl (fun c9 => ?_) (fun c9 => ?_)
      · skip
        refine g_iconst 0 50 (gd rfl) rfl rfl ?_
        refine g_istore 52 (gd rfl) rfl (Nat.le_of_ble_eq_true rfl) ?_
        exact gg_w (by first | exact Nat.le_add_right _ _ | exact gw2 | exact gw3 | exact gwe rfl | exact gwf rfl | exact gwg rfl | exact gwh rfl | omega) (gg_f (gf_cons rfl (gf_cons rfl (gf_cons rfl (gf_cons rfl (gf_cons rfl (gf_cons rfl gf_nil)))))) (ct52 33 sc3 (Int32.ofInt 0) hIc3 hFc3 (in_w 0 32 (in_c 0 rfl) rfl) (m_in 33 (in_w 0 32 (in_c 0 rfl) rfl) rfl)))
      · skip
        have i9 := r_lt1 0 31 c9 j3_5 ro_109_20 rfl
        have i9a := r_lt2 1 32 c9 j3_5 ro_109_20 rfl
        refine g_aload_n 13 (gd rfl) rfl rfl ?_
        refine g_iload 15 (gd rfl) rfl rfl ?_
        refine g_iload 17 (gd rfl) rfl rfl ?_
        refine g_iload_n 18 (gd rfl) rfl rfl ?_
        refine g_cmp_ne 21 25 (gd rfl) rfl rfl (fun c18 => ?_) (fun c18 => ?_)
        · skip
          refine g_iconst (-1) 26 (gd rfl) rfl rfl ?_
          refine g_iastore 27 (gd rfl) rfl (n := 32) rfl (in_ix i9 rfl) ?_
          have hI26 := inv_sI (q := 165) (j := y3_5.toNatClampNeg) hIc3 rfl (in_w (-2147483648) 2147483647 (in_c (-1) rfl) rfl)
          refine g_aload 29 (gd rfl) rfl rfl ?_
          refine g_iload 31 (gd rfl) rfl rfl ?_
          refine g_iload 33 (gd rfl) rfl rfl ?_
          refine g_iload_n 34 (gd rfl) rfl rfl ?_
          refine g_cmp_ne 37 41 (gd rfl) rfl rfl (fun c34 => ?_) (fun c34 => ?_)
          · skip
            refine g_lconst 0 42 (gd rfl) rfl rfl ?_
            refine g_lastore 43 (gd rfl) rfl (n := 32) rfl (in_ix i9 rfl) ?_
            have hI42 := inv_sL (q := 166) (j := y3_5.toNatClampNeg) (x := (Int64.ofInt 0)) hI26 rfl (l_rng (Int64.ofInt 0))
            refine g_iinc 46 (gd rfl) rfl rfl (Nat.le_of_ble_eq_true rfl) (fun z43 e43 => ?_)
            have i43 := in_add 1 32 e43 i9 (in_c 1 rfl) rfl rfl
            refine g_goto 3 (gd rfl) rfl ?_
            exact gg_w (by first | exact Nat.le_add_right _ _ | exact gw2 | exact gw3 | exact gwe rfl | exact gwf rfl | exact gwg rfl | exact gwh rfl | omega) (gg_f (gf_cons rfl (gf_cons rfl (gf_cons rfl (gf_cons rfl (gf_cons rfl (gf_cons rfl gf_nil)))))) (ih3 (sL (sI sc3 165 y3_5.toNatClampNeg (Int32.ofInt (-1))) 166 y3_5.toNatClampNeg (Int64.ofInt 0)) z43 hI42 (fr_sL rfl (fr_sI rfl hFc3)) (in_w 0 32 i43 rfl) (m_up mm3 (t_add e43 i9 (in_c 1 rfl) rfl) (in_w 1 1 (in_c 1 rfl) rfl))))
          · skip
            refine g_lconst 1 38 (gd rfl) rfl rfl ?_
            refine g_goto 42 (gd rfl) rfl ?_
            refine g_lastore 43 (gd rfl) rfl (n := 32) rfl (in_ix i9 rfl) ?_
            have hI42 := inv_sL (q := 166) (j := y3_5.toNatClampNeg) (x := (Int64.ofInt 1)) hI26 rfl (l_rng (Int64.ofInt 1))
            refine g_iinc 46 (gd rfl) rfl rfl (Nat.le_of_ble_eq_true rfl) (fun z43 e43 => ?_)
            have i43 := in_add 1 32 e43 i9 (in_c 1 rfl) rfl rfl
            refine g_goto 3 (gd rfl) rfl ?_
            exact gg_w (by first | exact Nat.le_add_right _ _ | exact gw2 | exact gw3 | exact gwe rfl | exact gwf rfl | exact gwg rfl | exact gwh rfl | omega) (gg_f (gf_cons rfl (gf_cons rfl (gf_cons rfl (gf_cons rfl (gf_cons rfl (gf_cons rfl gf_nil)))))) (ih3 (sL (sI sc3 165 y3_5.toNatClampNeg (Int32.ofInt (-1))) 166 y3_5.toNatClampNeg (Int64.ofInt 1)) z43 hI42 (fr_sL rfl (fr_sI rfl hFc3)) (in_w 0 32 i43 rfl) (m_up mm3 (t_add e43 i9 (in_c 1 rfl) rfl) (in_w 1 1 (in_c 1 rfl) rfl))))
        · skip
          refine g_iconst 0 22 (gd rfl) rfl rfl ?_
          refine g_goto 26 (gd rfl) rfl ?_
          refine g_iastore 27 (gd rfl) rfl (n := 32) rfl (in_ix i9 rfl) ?_
          have hI26 := inv_sI (q := 165) (j := y3_5.toNatClampNeg) hIc3 rfl (in_w (-2147483648) 2147483647 (in_c 0 rfl) rfl)
          refine g_aload 29 (gd rfl) rfl rfl ?_
          refine g_iload 31 (gd rfl) rfl rfl ?_
          refine g_iload 33 (gd rfl) rfl rfl ?_
          refine g_iload_n 34 (gd rfl) rfl rfl ?_
          refine g_cmp_ne 37 41 (gd rfl) rfl rfl (fun c34 => ?_) (fun c34 => ?_)
          · skip
            refine g_lconst 0 42 (gd rfl) rfl rfl ?_
            refine g_lastore 43 (gd rfl) rfl (n := 32) rfl (in_ix i9 rfl) ?_
            have hI42 := inv_sL (q := 166) (j := y3_5.toNatClampNeg) (x := (Int64.ofInt 0)) hI26 rfl (l_rng (Int64.ofInt 0))
            refine g_iinc 46 (gd rfl) rfl rfl (Nat.le_of_ble_eq_true rfl) (fun z43 e43 => ?_)
            have i43 := in_add 1 32 e43 i9 (in_c 1 rfl) rfl rfl
            refine g_goto 3 (gd rfl) rfl ?_
            exact gg_w (by first | exact Nat.le_add_right _ _ | exact gw2 | exact gw3 | exact gwe rfl | exact gwf rfl | exact gwg rfl | exact gwh rfl | omega) (gg_f (gf_cons rfl (gf_cons rfl (gf_cons rfl (gf_cons rfl (gf_cons rfl (gf_cons rfl gf_nil)))))) (ih3 (sL (sI sc3 165 y3_5.toNatClampNeg (Int32.ofInt 0)) 166 y3_5.toNatClampNeg (Int64.ofInt 0)) z43 hI42 (fr_sL rfl (fr_sI rfl hFc3)) (in_w 0 32 i43 rfl) (m_up mm3 (t_add e43 i9 (in_c 1 rfl) rfl) (in_w 1 1 (in_c 1 rfl) rfl))))
          · skip
            refine g_lconst 1 38 (gd rfl) rfl rfl ?_
            refine g_goto 42 (gd rfl) rfl ?_
            refine g_lastore 43 (gd rfl) rfl (n := 32) rfl (in_ix i9 rfl) ?_
            have hI42 := inv_sL (q := 166) (j := y3_5.toNatClampNeg) (x := (Int64.ofInt 1)) hI26 rfl (l_rng (Int64.ofInt 1))
            refine g_iinc 46 (gd rfl) rfl rfl (Nat.le_of_ble_eq_true rfl) (fun z43 e43 => ?_)
            have i43 := in_add 1 32 e43 i9 (in_c 1 rfl) rfl rfl
            refine g_goto 3 (gd rfl) rfl ?_
            exact gg_w (by first | exact Nat.le_add_right _ _ | exact gw2 | exact gw3 | exact gwe rfl | exact gwf rfl | exact gwg rfl | exact gwh rfl | omega) (gg_f (gf_cons rfl (gf_cons rfl (gf_cons rfl (gf_cons rfl (gf_cons rfl (gf_cons rfl gf_nil)))))) (ih3 (sL (sI sc3 165 y3_5.toNatClampNeg (Int32.ofInt 0)) 166 y3_5.toNatClampNeg (Int64.ofInt 1)) z43 hI42 (fr_sL rfl (fr_sI rfl hFc3)) (in_w 0 32 i43 rfl) (m_up mm3 (t_add e43 i9 (in_c 1 rfl) rfl) (in_w 1 1 (in_c 1 rfl) rfl))))
  refine g_enter2 (k := 370) (N := 12029435) (by first | exact dq1 hd rfl | exact dq0 hd rfl | exact dq2 hd rfl | exact dq3 hd rfl | omega) rfl (Nat.le_of_ble_eq_true rfl) ?_
  refine g_iconst 0 1 (gd rfl) rfl rfl ?_
  refine g_istore 3 (gd rfl) rfl (Nat.le_of_ble_eq_true rfl) ?_
  exact gg_w (by first | exact Nat.le_of_ble_eq_true rfl | omega) (gg_f (gf_cons rfl (gf_cons rfl (gf_cons rfl (gf_cons rfl (gf_cons rfl (gf_cons rfl gf_nil)))))) (ct3 33 s (Int32.ofInt 0) hI fr_rf (in_w 0 32 (in_c 0 rfl) rfl) (m_in 33 (in_w 0 32 (in_c 0 rfl) rfl) rfl)))

def fm_370_109_167_168 : FM := ([167], [168], [], [])
/-- GraphHouseModel.hop -/
theorem k_370_109_167_168 {Z : AmZ} {A : Nat → Nat} {s : GS} {ex : va_W} {d : Nat} {X : AmX} {x1 : Int32} {x2 : Int32} (hd : 1 ≤ d) (hI : Inv s) (h1 : In x1 0 31) (h2 : In x2 1 1) : GC Z d 370 [.ref (A 109), .int x1, .int x2, .ref (A 167), .ref (A 168)] (WW Z A s ++ ex) 0 0 (fun v u => ∃ t : GS, Inv t ∧ Fr fm_370_109_167_168 s t ∧ v = none ∧ u = WW Z A t ++ ex) X := by
  intro post xp hP hX
  obtain ⟨u_109_19, e_109_19⟩ : ∃ w, w = s.2.2.1 109 19 := ⟨_, rfl⟩
  have ro_109_19 := inv_F hI 0 160 rfl e_109_19
  obtain ⟨u_109_20, e_109_20⟩ : ∃ w, w = s.2.2.1 109 20 := ⟨_, rfl⟩
  have ro_109_20 := inv_F hI 0 32 rfl e_109_20
  have ct52 : ∀ (k52 : Nat) (sc52 : GS) (y52_5 : Int32), Inv sc52 → Fr fm_370_109_167_168 s sc52 → (In y52_5 0 32) → ((x2).toInt ≠ 0) → 32 - (y52_5).toInt < (k52 : Int) → GG Z (d - 1) 370 post (gx xp) (1 + k52 * 363601) 52 (fun j => xlook j [(0, .ref (A 109)), (1, .int x1), (2, .int x2), (3, .ref (A 167)), (4, .ref (A 168)), (5, .int y52_5)]) [] (WW Z A sc52 ++ ex) 0 0 := by
    intro k52
    induction k52 with
    | zero => intro sc52 y52_5 hIc52 hFc52 j52_5 nz52_2 mm52; exact m_no mm52 j52_5 rfl
    | succ k52 ih52 =>
      intro sc52 y52_5 hIc52 hFc52 j52_5 nz52_2 mm52
      refine gg_w (M := 1 + k52 * 363601 + 363601) gws ?_
      have ct67 : ∀ (k67 : Nat) (sc67 : GS) (y67_6 : Int32), Inv sc67 → Fr fm_370_109_167_168 s sc67 → (In y52_5 0 31) → (In y67_6 0 400) → ((x2).toInt ≠ 0) → 400 - (y67_6).toInt < (k67 : Int) → GG Z (d - 1) 370 post (gx xp) (1 + k52 * 363601 + 1 + k67 * 900) 67 (fun j => xlook j [(0, .ref (A 109)), (1, .int x1), (2, .int x2), (3, .ref (A 167)), (4, .ref (A 168)), (5, .int y52_5), (6, .int y67_6)]) [] (WW Z A sc67 ++ ex) 0 0 := by
        intro k67
        induction k67 with
        | zero => intro sc67 y67_6 hIc67 hFc67 j67_5 j67_6 nz67_2 mm67; exact m_no mm67 j67_6 rfl
        | succ k67 ih67 =>
          intro sc67 y67_6 hIc67 hFc67 j67_5 j67_6 nz67_2 mm67
          refine gg_w (M := 1 + k52 * 363601 + 1 + k67 * 900 + 900) gws ?_
          refine g_iload 69 (gd rfl) rfl rfl ?_
          refine g_aload_n 70 (gd rfl) rfl rfl ?_
          refine g_getI 73 (gd rfl) rfl rfl rfl (fun z70 e70 => ?_)
          have q70 : u_109_19 = z70 := (fr_F e_109_19 hFc67 rfl).trans e70.symm
          subst q70
          refine g_sipush 160 76 (gd rfl) rfl rfl ?_
          refine g_iadd 77 (gd rfl) rfl (fun z76 e76 => ?_)
          have i76 := in_add 160 320 e76 ro_109_19 (in_c 160 rfl) rfl rfl
          refine g_cmp_ge 80 197 (gd rfl) rfl rfl (fun c77 => ?_) (fun c77 => ?_)
          · skip
            have i77 := r_le2 160 400 c77 i76 j67_6 rfl
            refine g_iinc 200 (gd rfl) rfl rfl (Nat.le_of_ble_eq_true rfl) (fun z197 e197 => ?_)
            have i197 := in_add 1 32 e197 j67_5 (in_c 1 rfl) rfl rfl
            refine g_goto 52 (gd rfl) rfl ?_
            exact gg_w (by first | exact Nat.le_add_right _ _ | exact gw2 | exact gw3 | exact gwe rfl | exact gwf rfl | exact gwg rfl | exact gwh rfl | omega) (gg_f (gf_cons rfl (gf_cons rfl (gf_cons rfl (gf_cons rfl (gf_cons rfl (gf_cons rfl gf_nil)))))) (ih52 sc67 z197 hIc67 hFc67 (in_w 0 32 i197 rfl) nz67_2 (m_up mm52 (t_add e197 j67_5 (in_c 1 rfl) rfl) (in_w 1 1 (in_c 1 rfl) rfl))))
          · skip
            have i77 := r_lt1 0 319 c77 j67_6 i76 rfl
            refine g_iload_n 81 (gd rfl) rfl rfl ?_
            refine g_if_eq 84 94 (gd rfl) rfl rfl (fun c81 => ?_) (fun c81 => ?_)
            · skip
              exact zn_eq c81 h2 rfl
            · skip
              refine g_aload_n 85 (gd rfl) rfl rfl ?_
              refine g_getA (q2 := 114) 88 (gd rfl) rfl rfl rfl rfl ?_
              refine g_iload 90 (gd rfl) rfl rfl ?_
              refine g_iaload 91 (gd rfl) rfl (n := 480) rfl (in_ix i77 rfl) (fun z90 e90 => ?_)
              have i90 := inv_I hIc67 (n := 480) (t := 0) 0 31 rfl (in_ix i77 rfl) rfl e90
              refine g_goto 101 (gd rfl) rfl ?_
              refine g_istore 103 (gd rfl) rfl (Nat.le_of_ble_eq_true rfl) ?_
              refine g_iload_n 104 (gd rfl) rfl rfl ?_
              refine g_if_eq 107 117 (gd rfl) rfl rfl (fun c104 => ?_) (fun c104 => ?_)
              · skip
                exact zn_eq c104 h2 rfl
              · skip
                refine g_aload_n 108 (gd rfl) rfl rfl ?_
                refine g_getA (q2 := 113) 111 (gd rfl) rfl rfl rfl rfl ?_
                refine g_iload 113 (gd rfl) rfl rfl ?_
                refine g_iaload 114 (gd rfl) rfl (n := 480) rfl (in_ix i77 rfl) (fun z113 e113 => ?_)
                have i113 := inv_I hIc67 (n := 480) (t := 0) 0 31 rfl (in_ix i77 rfl) rfl e113
                refine g_goto 124 (gd rfl) rfl ?_
                refine g_istore 126 (gd rfl) rfl (Nat.le_of_ble_eq_true rfl) ?_
                refine g_aload_n 127 (gd rfl) rfl rfl ?_
                refine g_getA (q2 := 112) 130 (gd rfl) rfl rfl rfl rfl ?_
                refine g_iload 132 (gd rfl) rfl rfl ?_
                refine g_baload 133 (gd rfl) rfl (n := 480) rfl (in_ix i77 rfl) (fun z132 e132 => ?_)
                have i132 := inv_I hIc67 (n := 480) (t := 3) 0 1 rfl (in_ix i77 rfl) rfl e132
                refine g_if_eq 136 191 (gd rfl) rfl rfl (fun c133 => ?_) (fun c133 => ?_)
                · skip
                  have i133 := z_eq 0 0 c133 i132 rfl
                  refine g_iinc 194 (gd rfl) rfl rfl (Nat.le_of_ble_eq_true rfl) (fun z191 e191 => ?_)
                  have i191 := in_add 1 320 e191 i77 (in_c 1 rfl) rfl rfl
                  refine g_goto 67 (gd rfl) rfl ?_
                  exact gg_w (by first | exact Nat.le_add_right _ _ | exact gw2 | exact gw3 | exact gwe rfl | exact gwf rfl | exact gwg rfl | exact gwh rfl | omega) (gg_f (gf_cons rfl (gf_cons rfl (gf_cons rfl (gf_cons rfl (gf_cons rfl (gf_cons rfl (gf_cons rfl gf_nil))))))) (ih67 sc67 z191 hIc67 hFc67 (in_w 0 31 j67_5 rfl) (in_w 0 400 i191 rfl) c104 (m_up mm67 (t_add e191 i77 (in_c 1 rfl) rfl) (in_w 1 1 (in_c 1 rfl) rfl))))
                · skip
                  have i133 := z_ne 1 1 c133 i132 rfl
                  refine g_aload_n 137 (gd rfl) rfl rfl ?_
                  refine g_iload 139 (gd rfl) rfl rfl ?_
                  refine g_iaload 140 (gd rfl) rfl (n := 32) rfl (in_ix i90 rfl) (fun z139 e139 => ?_)
                  refine g_iload 142 (gd rfl) rfl rfl ?_
                  refine g_cmp_ne 145 191 (gd rfl) rfl rfl (fun c142 => ?_) (fun c142 => ?_)
                  · skip
                    refine g_iinc 194 (gd rfl) rfl rfl (Nat.le_of_ble_eq_true rfl) (fun z191 e191 => ?_)
                    have i191 := in_add 1 320 e191 i77 (in_c 1 rfl) rfl rfl
                    refine g_goto 67 (gd rfl) rfl ?_
                    exact gg_w (by first | exact Nat.le_add_right _ _ | exact gw2 | exact gw3 | exact gwe rfl | exact gwf rfl | exact gwg rfl | exact gwh rfl | omega) (gg_f (gf_cons rfl (gf_cons rfl (gf_cons rfl (gf_cons rfl (gf_cons rfl (gf_cons rfl (gf_cons rfl gf_nil))))))) (ih67 sc67 z191 hIc67 hFc67 (in_w 0 31 j67_5 rfl) (in_w 0 400 i191 rfl) c104 (m_up mm67 (t_add e191 i77 (in_c 1 rfl) rfl) (in_w 1 1 (in_c 1 rfl) rfl))))
                  · skip
                    have i142 := r_eq1 0 31 c142 (i_rng z139) j67_5 rfl
                    refine g_aload_n 146 (gd rfl) rfl rfl ?_
                    refine g_iload 148 (gd rfl) rfl rfl ?_
                    refine g_iaload 149 (gd rfl) rfl (n := 32) rfl (in_ix i113 rfl) (fun z148 e148 => ?_)
                    refine g_if_lt 152 163 (gd rfl) rfl rfl (fun c149 => ?_) (fun c149 => ?_)
                    · skip
                      have i149 := z_lt (-2147483648) (-1) c149 (i_rng z148) rfl
                      refine g_aload_n 164 (gd rfl) rfl rfl ?_
                      refine g_iload 166 (gd rfl) rfl rfl ?_
                      refine g_iload 168 (gd rfl) rfl rfl ?_
                      refine g_iconst 1 169 (gd rfl) rfl rfl ?_
                      refine g_iadd 170 (gd rfl) rfl (fun z169 e169 => ?_)
                      have i169 := in_add 1 32 e169 j67_5 (in_c 1 rfl) rfl rfl
                      refine g_iastore 171 (gd rfl) rfl (n := 32) rfl (in_ix i113 rfl) ?_
                      have hI170 := inv_sI (q := 167) (j := z113.toNatClampNeg) hIc67 rfl (in_w (-2147483648) 2147483647 i169 rfl)
                      refine g_aload 173 (gd rfl) rfl rfl ?_
                      refine g_iload 175 (gd rfl) rfl rfl ?_
                      refine g_aload 177 (gd rfl) rfl rfl ?_
                      refine g_iload 179 (gd rfl) rfl rfl ?_
                      refine g_laload 180 (gd rfl) rfl (n := 32) rfl (in_ix i113 rfl) (fun z179 e179 => ?_)
                      refine g_aload 182 (gd rfl) rfl rfl ?_
                      refine g_iload 184 (gd rfl) rfl rfl ?_
                      refine g_laload 185 (gd rfl) rfl (n := 32) rfl (in_ix i90 rfl) (fun z184 e184 => ?_)
                      refine g_ladd 186 (gd rfl) rfl (fun z185 e185 => ?_)
                      refine g_ldc2_w 1000000007 189 (gd rfl) rfl rfl ?_
                      refine g_lrem 190 (gd rfl) rfl (by decide) (fun z189 e189 => ?_)
                      have i189 := l_rem (-1000000006) 1000000006 e189 rfl
                      refine g_lastore 191 (gd rfl) rfl (n := 32) rfl (in_ix i113 rfl) ?_
                      have hI190 := inv_sL (q := 168) (j := z113.toNatClampNeg) (x := z189) hI170 rfl (l_rng z189)
                      refine g_iinc 194 (gd rfl) rfl rfl (Nat.le_of_ble_eq_true rfl) (fun z191 e191 => ?_)
                      have i191 := in_add 1 320 e191 i77 (in_c 1 rfl) rfl rfl
                      refine g_goto 67 (gd rfl) rfl ?_
                      exact gg_w (by first | exact Nat.le_add_right _ _ | exact gw2 | exact gw3 | exact gwe rfl | exact gwf rfl | exact gwg rfl | exact gwh rfl | omega) (gg_f (gf_cons rfl (gf_cons rfl (gf_cons rfl (gf_cons rfl (gf_cons rfl (gf_cons rfl (gf_cons rfl gf_nil))))))) (ih67 (sL (sI sc67 167 z113.toNatClampNeg z169) 168 z113.toNatClampNeg z189) z191 hI190 (fr_sL rfl (fr_sI rfl hFc67)) (in_w 0 31 j67_5 rfl) (in_w 0 400 i191 rfl) c104 (m_up mm67 (t_add e191 i77 (in_c 1 rfl) rfl) (in_w 1 1 (in_c 1 rfl) rfl))))
                    · skip
                      have i149 := z_ge 0 2147483647 c149 (i_rng z148) rfl
                      refine g_aload_n 153 (gd rfl) rfl rfl ?_
                      refine g_iload 155 (gd rfl) rfl rfl ?_
                      refine g_iaload 156 (gd rfl) rfl (n := 32) rfl (in_ix i113 rfl) (fun z155 e155 => ?_)
                      have q155 : z148 = z155 := (e148).trans e155.symm
                      subst q155
                      refine g_iload 158 (gd rfl) rfl rfl ?_
                      refine g_iconst 1 159 (gd rfl) rfl rfl ?_
                      refine g_iadd 160 (gd rfl) rfl (fun z159 e159 => ?_)
                      have i159 := in_add 1 32 e159 j67_5 (in_c 1 rfl) rfl rfl
                      refine g_cmp_ne 163 191 (gd rfl) rfl rfl (fun c160 => ?_) (fun c160 => ?_)
                      · skip
                        refine g_iinc 194 (gd rfl) rfl rfl (Nat.le_of_ble_eq_true rfl) (fun z191 e191 => ?_)
                        have i191 := in_add 1 320 e191 i77 (in_c 1 rfl) rfl rfl
                        refine g_goto 67 (gd rfl) rfl ?_
                        exact gg_w (by first | exact Nat.le_add_right _ _ | exact gw2 | exact gw3 | exact gwe rfl | exact gwf rfl | exact gwg rfl | exact gwh rfl | omega) (gg_f (gf_cons rfl (gf_cons rfl (gf_cons rfl (gf_cons rfl (gf_cons rfl (gf_cons rfl (gf_cons rfl gf_nil))))))) (ih67 sc67 z191 hIc67 hFc67 (in_w 0 31 j67_5 rfl) (in_w 0 400 i191 rfl) c104 (m_up mm67 (t_add e191 i77 (in_c 1 rfl) rfl) (in_w 1 1 (in_c 1 rfl) rfl))))
                      · skip
                        have i160 := r_eq1 1 32 c160 i149 i159 rfl
                        refine g_aload_n 164 (gd rfl) rfl rfl ?_
                        refine g_iload 166 (gd rfl) rfl rfl ?_
                        refine g_iload 168 (gd rfl) rfl rfl ?_
                        refine g_iconst 1 169 (gd rfl) rfl rfl ?_
                        refine g_iadd 170 (gd rfl) rfl (fun z169 e169 => ?_)
                        have i169 := in_add 1 32 e169 j67_5 (in_c 1 rfl) rfl rfl
                        refine g_iastore 171 (gd rfl) rfl (n := 32) rfl (in_ix i113 rfl) ?_
                        have hI170 := inv_sI (q := 167) (j := z113.toNatClampNeg) hIc67 rfl (in_w (-2147483648) 2147483647 i169 rfl)
                        refine g_aload 173 (gd rfl) rfl rfl ?_
                        refine g_iload 175 (gd rfl) rfl rfl ?_
                        refine g_aload 177 (gd rfl) rfl rfl ?_
                        refine g_iload 179 (gd rfl) rfl rfl ?_
                        refine g_laload 180 (gd rfl) rfl (n := 32) rfl (in_ix i113 rfl) (fun z179 e179 => ?_)
                        refine g_aload 182 (gd rfl) rfl rfl ?_
                        refine g_iload 184 (gd rfl) rfl rfl ?_
                        refine g_laload 185 (gd rfl) rfl (n := 32) rfl (in_ix i90 rfl) (fun z184 e184 => ?_)
                        refine g_ladd 186 (gd rfl) rfl (fun z185 e185 => ?_)
                        refine g_ldc2_w 1000000007 189 (gd rfl) rfl rfl ?_
                        refine g_lrem 190 (gd rfl) rfl (by decide) (fun z189 e189 => ?_)
                        have i189 := l_rem (-1000000006) 1000000006 e189 rfl
                        refine g_lastore 191 (gd rfl) rfl (n := 32) rfl (in_ix i113 rfl) ?_
                        have hI190 := inv_sL (q := 168) (j := z113.toNatClampNeg) (x := z189) hI170 rfl (l_rng z189)
                        refine g_iinc 194 (gd rfl) rfl rfl (Nat.le_of_ble_eq_true rfl) (fun z191 e191 => ?_)
                        have i191 := in_add 1 320 e191 i77 (in_c 1 rfl) rfl rfl
                        refine g_goto 67 (gd rfl) rfl ?_
                        exact gg_w (by first | exact Nat.le_add_right _ _ | exact gw2 | exact gw3 | exact gwe rfl | exact gwf rfl | exact gwg rfl | exact gwh rfl | omega) (gg_f (gf_cons rfl (gf_cons rfl (gf_cons rfl (gf_cons rfl (gf_cons rfl (gf_cons rfl (gf_cons rfl gf_nil))))))) (ih67 (sL (sI sc67 167 z113.toNatClampNeg z169) 168 z113.toNatClampNeg z189) z191 hI190 (fr_sL rfl (fr_sI rfl hFc67)) (in_w 0 31 j67_5 rfl) (in_w 0 400 i191 rfl) c104 (m_up mm67 (t_add e191 i77 (in_c 1 rfl) rfl) (in_w 1 1 (in_c 1 rfl) rfl))))
      refine g_iload 54 (gd rfl) rfl rfl ?_
      refine g_aload_n 55 (gd rfl) rfl rfl ?_
      refine g_getI 58 (gd rfl) rfl rfl rfl (fun z55 e55 => ?_)
      have q55 : u_109_20 = z55 := (fr_F e_109_20 hFc52 rfl).trans e55.symm
      subst q55
      refine g_cmp_ge 61 203 (gd rfl) rfl rfl (fun c58 => ?_) (fun c58 => ?_)
      · skip
        exact g_return (gd rfl) rfl (hP _ _ ⟨sc52, hIc52, hFc52, rfl, rfl⟩)
      · skip
        have i58 := r_lt1 0 31 c58 j52_5 ro_109_20 rfl
        have i58a := r_lt2 1 32 c58 j52_5 ro_109_20 rfl
        refine g_aload_n 62 (gd rfl) rfl rfl ?_
        refine g_getI 65 (gd rfl) rfl rfl rfl (fun z62 e62 => ?_)
        have q62 : u_109_19 = z62 := (fr_F e_109_19 hFc52 rfl).trans e62.symm
        subst q62
        refine g_istore 67 (gd rfl) rfl (Nat.le_of_ble_eq_true rfl) ?_
        exact gg_w (by first | exact Nat.le_add_right _ _ | exact gw2 | exact gw3 | exact gwe rfl | exact gwf rfl | exact gwg rfl | exact gwh rfl | omega) (gg_f (gf_cons rfl (gf_cons rfl (gf_cons rfl (gf_cons rfl (gf_cons rfl (gf_cons rfl (gf_cons rfl gf_nil))))))) (ct67 401 sc52 u_109_19 hIc52 hFc52 (in_w 0 31 i58 rfl) (in_w 0 400 ro_109_19 rfl) nz52_2 (m_in 401 (in_w 0 400 ro_109_19 rfl) rfl)))
  have ct3 : ∀ (k3 : Nat) (sc3 : GS) (y3_5 : Int32), Inv sc3 → Fr fm_370_109_167_168 s sc3 → (In y3_5 0 32) → ((x2).toInt ≠ 0) → 32 - (y3_5).toInt < (k3 : Int) → GG Z (d - 1) 370 post (gx xp) (11998835 + k3 * 900) 3 (fun j => xlook j [(0, .ref (A 109)), (1, .int x1), (2, .int x2), (3, .ref (A 167)), (4, .ref (A 168)), (5, .int y3_5)]) [] (WW Z A sc3 ++ ex) 0 0 := by
    intro k3
    induction k3 with
    | zero => intro sc3 y3_5 hIc3 hFc3 j3_5 nz3_2 mm3; exact m_no mm3 j3_5 rfl
    | succ k3 ih3 =>
      intro sc3 y3_5 hIc3 hFc3 j3_5 nz3_2 mm3
      refine gg_w (M := 11998835 + k3 * 900 + 900) gws ?_
      refine g_iload 5 (gd rfl) rfl rfl ?_
      refine g_aload_n 6 (gd rfl) rfl rfl ?_
      refine g_getI 9 (gd rfl) rfl rfl rfl (fun z6 e6 => ?_)
      have q6 : u_109_20 = z6 := (fr_F e_109_20 hFc3 rfl).trans e6.symm
      subst q6
      refine g_cmp_ge 12 49 (gd rfl) rfl rfl (fun c9 => ?_) (fun c9 => ?_)
      · skip
        refine g_iconst 0 50 (gd rfl) rfl rfl ?_
        refine g_istore 52 (gd rfl) rfl (Nat.le_of_ble_eq_true rfl) ?_
        exact gg_w (by first | exact Nat.le_add_right _ _ | exact gw2 | exact gw3 | exact gwe rfl | exact gwf rfl | exact gwg rfl | exact gwh rfl | omega) (gg_f (gf_cons rfl (gf_cons rfl (gf_cons rfl (gf_cons rfl (gf_cons rfl (gf_cons rfl gf_nil)))))) (ct52 33 sc3 (Int32.ofInt 0) hIc3 hFc3 (in_w 0 32 (in_c 0 rfl) rfl) nz3_2 (m_in 33 (in_w 0 32 (in_c 0 rfl) rfl) rfl)))
      · skip
        have i9 := r_lt1 0 31 c9 j3_5 ro_109_20 rfl
        have i9a := r_lt2 1 32 c9 j3_5 ro_109_20 rfl
        refine g_aload_n 13 (gd rfl) rfl rfl ?_
        refine g_iload 15 (gd rfl) rfl rfl ?_
        refine g_iload 17 (gd rfl) rfl rfl ?_
        refine g_iload_n 18 (gd rfl) rfl rfl ?_
        refine g_cmp_ne 21 25 (gd rfl) rfl rfl (fun c18 => ?_) (fun c18 => ?_)
        · skip
          refine g_iconst (-1) 26 (gd rfl) rfl rfl ?_
          refine g_iastore 27 (gd rfl) rfl (n := 32) rfl (in_ix i9 rfl) ?_
          have hI26 := inv_sI (q := 167) (j := y3_5.toNatClampNeg) hIc3 rfl (in_w (-2147483648) 2147483647 (in_c (-1) rfl) rfl)
          refine g_aload 29 (gd rfl) rfl rfl ?_
          refine g_iload 31 (gd rfl) rfl rfl ?_
          refine g_iload 33 (gd rfl) rfl rfl ?_
          refine g_iload_n 34 (gd rfl) rfl rfl ?_
          refine g_cmp_ne 37 41 (gd rfl) rfl rfl (fun c34 => ?_) (fun c34 => ?_)
          · skip
            refine g_lconst 0 42 (gd rfl) rfl rfl ?_
            refine g_lastore 43 (gd rfl) rfl (n := 32) rfl (in_ix i9 rfl) ?_
            have hI42 := inv_sL (q := 168) (j := y3_5.toNatClampNeg) (x := (Int64.ofInt 0)) hI26 rfl (l_rng (Int64.ofInt 0))
            refine g_iinc 46 (gd rfl) rfl rfl (Nat.le_of_ble_eq_true rfl) (fun z43 e43 => ?_)
            have i43 := in_add 1 32 e43 i9 (in_c 1 rfl) rfl rfl
            refine g_goto 3 (gd rfl) rfl ?_
            exact gg_w (by first | exact Nat.le_add_right _ _ | exact gw2 | exact gw3 | exact gwe rfl | exact gwf rfl | exact gwg rfl | exact gwh rfl | omega) (gg_f (gf_cons rfl (gf_cons rfl (gf_cons rfl (gf_cons rfl (gf_cons rfl (gf_cons rfl gf_nil)))))) (ih3 (sL (sI sc3 167 y3_5.toNatClampNeg (Int32.ofInt (-1))) 168 y3_5.toNatClampNeg (Int64.ofInt 0)) z43 hI42 (fr_sL rfl (fr_sI rfl hFc3)) (in_w 0 32 i43 rfl) nz3_2 (m_up mm3 (t_add e43 i9 (in_c 1 rfl) rfl) (in_w 1 1 (in_c 1 rfl) rfl))))
          · skip
            refine g_lconst 1 38 (gd rfl) rfl rfl ?_
            refine g_goto 42 (gd rfl) rfl ?_
            refine g_lastore 43 (gd rfl) rfl (n := 32) rfl (in_ix i9 rfl) ?_
            have hI42 := inv_sL (q := 168) (j := y3_5.toNatClampNeg) (x := (Int64.ofInt 1)) hI26 rfl (l_rng (Int64.ofInt 1))
            refine g_iinc 46 (gd rfl) rfl rfl (Nat.le_of_ble_eq_true rfl) (fun z43 e43 => ?_)
            have i43 := in_add 1 32 e43 i9 (in_c 1 rfl) rfl rfl
            refine g_goto 3 (gd rfl) rfl ?_
            exact gg_w (by first | exact Nat.le_add_right _ _ | exact gw2 | exact gw3 | exact gwe rfl | exact gwf rfl | exact gwg rfl | exact gwh rfl | omega) (gg_f (gf_cons rfl (gf_cons rfl (gf_cons rfl (gf_cons rfl (gf_cons rfl (gf_cons rfl gf_nil)))))) (ih3 (sL (sI sc3 167 y3_5.toNatClampNeg (Int32.ofInt (-1))) 168 y3_5.toNatClampNeg (Int64.ofInt 1)) z43 hI42 (fr_sL rfl (fr_sI rfl hFc3)) (in_w 0 32 i43 rfl) nz3_2 (m_up mm3 (t_add e43 i9 (in_c 1 rfl) rfl) (in_w 1 1 (in_c 1 rfl) rfl))))
        · skip
          refine g_iconst 0 22 (gd rfl) rfl rfl ?_
          refine g_goto 26 (gd rfl) rfl ?_
          refine g_iastore 27 (gd rfl) rfl (n := 32) rfl (in_ix i9 rfl) ?_
          have hI26 := inv_sI (q := 167) (j := y3_5.toNatClampNeg) hIc3 rfl (in_w (-2147483648) 2147483647 (in_c 0 rfl) rfl)
          refine g_aload 29 (gd rfl) rfl rfl ?_
          refine g_iload 31 (gd rfl) rfl rfl ?_
          refine g_iload 33 (gd rfl) rfl rfl ?_
          refine g_iload_n 34 (gd rfl) rfl rfl ?_
          refine g_cmp_ne 37 41 (gd rfl) rfl rfl (fun c34 => ?_) (fun c34 => ?_)
          · skip
            refine g_lconst 0 42 (gd rfl) rfl rfl ?_
            refine g_lastore 43 (gd rfl) rfl (n := 32) rfl (in_ix i9 rfl) ?_
            have hI42 := inv_sL (q := 168) (j := y3_5.toNatClampNeg) (x := (Int64.ofInt 0)) hI26 rfl (l_rng (Int64.ofInt 0))
            refine g_iinc 46 (gd rfl) rfl rfl (Nat.le_of_ble_eq_true rfl) (fun z43 e43 => ?_)
            have i43 := in_add 1 32 e43 i9 (in_c 1 rfl) rfl rfl
            refine g_goto 3 (gd rfl) rfl ?_
            exact gg_w (by first | exact Nat.le_add_right _ _ | exact gw2 | exact gw3 | exact gwe rfl | exact gwf rfl | exact gwg rfl | exact gwh rfl | omega) (gg_f (gf_cons rfl (gf_cons rfl (gf_cons rfl (gf_cons rfl (gf_cons rfl (gf_cons rfl gf_nil)))))) (ih3 (sL (sI sc3 167 y3_5.toNatClampNeg (Int32.ofInt 0)) 168 y3_5.toNatClampNeg (Int64.ofInt 0)) z43 hI42 (fr_sL rfl (fr_sI rfl hFc3)) (in_w 0 32 i43 rfl) nz3_2 (m_up mm3 (t_add e43 i9 (in_c 1 rfl) rfl) (in_w 1 1 (in_c 1 rfl) rfl))))
          · skip
            refine g_lconst 1 38 (gd rfl) rfl rfl ?_
            refine g_goto 42 (gd rfl) rfl ?_
            refine g_lastore 43 (gd rfl) rfl (n := 32) rfl (in_ix i9 rfl) ?_
            have hI42 := inv_sL (q := 168) (j := y3_5.toNatClampNeg) (x := (Int64.ofInt 1)) hI26 rfl (l_rng (Int64.ofInt 1))
            refine g_iinc 46 (gd rfl) rfl rfl (Nat.le_of_ble_eq_true rfl) (fun z43 e43 => ?_)
            have i43 := in_add 1 32 e43 i9 (in_c 1 rfl) rfl rfl
            refine g_goto 3 (gd rfl) rfl ?_
            exact gg_w (by first | exact Nat.le_add_right _ _ | exact gw2 | exact gw3 | exact gwe rfl | exact gwf rfl | exact gwg rfl | exact gwh rfl | omega) (gg_f (gf_cons rfl (gf_cons rfl (gf_cons rfl (gf_cons rfl (gf_cons rfl (gf_cons rfl gf_nil)))))) (ih3 (sL (sI sc3 167 y3_5.toNatClampNeg (Int32.ofInt 0)) 168 y3_5.toNatClampNeg (Int64.ofInt 1)) z43 hI42 (fr_sL rfl (fr_sI rfl hFc3)) (in_w 0 32 i43 rfl) nz3_2 (m_up mm3 (t_add e43 i9 (in_c 1 rfl) rfl) (in_w 1 1 (in_c 1 rfl) rfl))))
  refine g_enter2 (k := 370) (N := 12029435) (by first | exact dq1 hd rfl | exact dq0 hd rfl | exact dq2 hd rfl | exact dq3 hd rfl | omega) rfl (Nat.le_of_ble_eq_true rfl) ?_
  refine g_iconst 0 1 (gd rfl) rfl rfl ?_
  refine g_istore 3 (gd rfl) rfl (Nat.le_of_ble_eq_true rfl) ?_
  exact gg_w (by first | exact Nat.le_of_ble_eq_true rfl | omega) (gg_f (gf_cons rfl (gf_cons rfl (gf_cons rfl (gf_cons rfl (gf_cons rfl (gf_cons rfl gf_nil)))))) (ct3 33 s (Int32.ofInt 0) hI fr_rf (in_w 0 32 (in_c 0 rfl) rfl) (nz_r h2 rfl) (m_in 33 (in_w 0 32 (in_c 0 rfl) rfl) rfl)))

def fm_371 : FM := ([165, 167], [166, 168], [(109, 0)], [])
/-- GraphHouseModel.shortest -/
theorem k_371 {Z : AmZ} {A : Nat → Nat} {s : GS} {ex : va_W} {d : Nat} {X : AmX} {x1 : Int32} {x2 : Int32} {x3 : Int32} {x4 : Int32} (hd : 4 ≤ d) (hI : Inv s)  : GC Z d 371 [.ref (A 109), .int x1, .int x2, .int x3, .int x4] (WW Z A s ++ ex) 0 0 (fun v u => ∃ t : GS, Inv t ∧ Fr fm_371 s t ∧ ∃ z : Int32, v = some (.int z) ∧ u = WW Z A t ++ ex ∧ In z (-2147483648) 2147483647) X := by
  intro post xp hP hX
  obtain ⟨u_109_20, e_109_20⟩ : ∃ w, w = s.2.2.1 109 20 := ⟨_, rfl⟩
  have ro_109_20 := inv_F hI 0 32 rfl e_109_20
  have ct151 : ∀ (sc151 : GS) , Inv sc151 → Fr fm_371 s sc151 → (In x1 0 31) → (In x2 0 31) → (In x3 2 2) → (In x4 0 31) → ((x3).toInt ≠ 0) → GG Z (d - 1) 371 post (gx xp) (901) 151 (fun j => xlook j [(0, .ref (A 109)), (1, .int x1), (2, .int x2), (3, .int x3), (4, .int x4)]) [] (WW Z A sc151 ++ ex) 0 0 := by
    intro sc151  hIc151 hFc151 j151_1 j151_2 j151_3 j151_4 nz151_3
    refine g_iconst 0 152 (gd rfl) rfl rfl ?_
    refine g_istore 154 (gd rfl) rfl (Nat.le_of_ble_eq_true rfl) ?_
    refine g_iload 156 (gd rfl) rfl rfl ?_
    refine g_if_eq 159 182 (gd rfl) rfl rfl (fun c156 => ?_) (fun c156 => ?_)
    · skip
      refine g_iconst 0 183 (gd rfl) rfl rfl ?_
      exact g_ireturn (gd rfl) rfl rfl (hP _ _ ⟨sc151, hIc151, hFc151, (Int32.ofInt 0), rfl, rfl, in_w (-2147483648) 2147483647 (in_c 0 rfl) rfl⟩)
    · skip
      exact zn_ne c156 (in_c 0 rfl) rfl
  refine g_enter2 (k := 371) (N := 1801) (by first | exact dq1 hd rfl | exact dq0 hd rfl | exact dq2 hd rfl | exact dq3 hd rfl | omega) rfl (Nat.le_of_ble_eq_true rfl) ?_
  refine g_aload_n 1 (gd rfl) rfl rfl ?_
  refine g_aload_n 2 (gd rfl) rfl rfl ?_
  refine g_iload_n 3 (gd rfl) rfl rfl ?_
  refine g_callv (X := _) (As := [.int x1]) (r := [.ref (A 109)]) (b := A 109) (q := 109) 6 (gd rfl) rfl rfl rfl rfl rfl (ww_o rfl) (Nat.le_of_ble_eq_true rfl) (mc := 0) (ms := 0) (Nat.zero_le _) (Nat.zero_le _) (P := fun v u => _) ?_ (fun e u h => h) (fun v u h => h)
  intro po3 xx3 hp3 hx3
  refine g_enter2 (k := 272) (N := 300) (by first | exact dq1 hd rfl | exact dq0 hd rfl | exact dq2 hd rfl | exact dq3 hd rfl | omega) rfl (Nat.le_of_ble_eq_true rfl) ?_
  refine g_iload_n 1 (gd rfl) rfl rfl ?_
  refine g_if_lt 4 16 (gd rfl) rfl rfl (fun c3x1 => ?_) (fun c3x1 => ?_)
  · skip
    have i3x1 := z_lt (-2147483648) (-1) c3x1 (i_rng x1) rfl
    refine g_iconst 0 17 (gd rfl) rfl rfl ?_
    refine g_ireturn (gd rfl) rfl (nb01 (in_w 0 1 (in_c 0 rfl) rfl)) (hp3 _ _ ?_)
    show GG _ _ _ _ _ _ _ _ [.int (Int32.ofInt 0), .ref (A 109)] _ _ _
    refine g_if_eq 9 42 (gd rfl) rfl rfl (fun c6 => ?_) (fun c6 => ?_)
    · skip
      refine g_iconst 0 43 (gd rfl) rfl rfl ?_
      refine g_callv (X := _) (As := [.int (Int32.ofInt 0)]) (r := []) (b := A 109) (q := 109) 46 (gd rfl) rfl rfl rfl rfl rfl (ww_o rfl) (Nat.le_of_ble_eq_true rfl) (mc := 0) (ms := 0) (Nat.zero_le _) (Nat.zero_le _) (P := fun v u => _) ?_ (fun e u h => h) (fun v u h => h)
      intro po43 xx43 hp43 hx43
      refine g_enter2 (k := 271) (N := 300) (by first | exact dq1 hd rfl | exact dq0 hd rfl | exact dq2 hd rfl | exact dq3 hd rfl | omega) rfl (Nat.le_of_ble_eq_true rfl) ?_
      refine g_aload_n 1 (gd rfl) rfl rfl ?_
      refine g_iload_n 2 (gd rfl) rfl rfl ?_
      refine g_iconst 1 3 (gd rfl) rfl rfl ?_
      refine g_callv (X := _) (As := [.int (Int32.ofInt 0), .int (Int32.ofInt 1)]) (r := []) (b := A 109) (q := 109) 6 (gd rfl) rfl rfl rfl rfl rfl (ww_o rfl) (Nat.le_of_ble_eq_true rfl) (mc := 0) (ms := 0) (Nat.zero_le _) (Nat.zero_le _) (P := fun v u => _) ?_ (fun e u h => h) (fun v u h => h)
      intro po43x3 xx43x3 hp43x3 hx43x3
      refine g_enter2 (k := 270) (N := 300) (by first | exact dq1 hd rfl | exact dq0 hd rfl | exact dq2 hd rfl | exact dq3 hd rfl | omega) rfl (Nat.le_of_ble_eq_true rfl) ?_
      refine g_aload_n 1 (gd rfl) rfl rfl ?_
      refine g_iload_n 2 (gd rfl) rfl rfl ?_
      refine g_if_ne 5 9 (gd rfl) rfl rfl (fun c43x3x2 => ?_) (fun c43x3x2 => ?_)
      · skip
        exact zn_ne c43x3x2 (in_c 0 rfl) rfl
      · skip
        refine g_iconst 1 6 (gd rfl) rfl rfl ?_
        refine g_goto 18 (gd rfl) rfl ?_
        refine g_putI 21 (gd rfl) rfl rfl rfl rfl ?_
        have hI43x3x18 := inv_sF (q := 109) (j := 0) hI rfl (in_w 0 2 (in_c 1 rfl) rfl)
        refine g_aload_n 22 (gd rfl) rfl rfl ?_
        refine g_getI 25 (gd rfl) rfl rfl rfl (fun z43x3x22 e43x3x22 => ?_)
        have q43x3x22 : (Int32.ofInt 1) = z43x3x22 := (sF_get).trans e43x3x22.symm
        subst q43x3x22
        refine g_if_le 28 32 (gd rfl) rfl rfl (fun c43x3x25 => ?_) (fun c43x3x25 => ?_)
        · skip
          exact zn_le c43x3x25 (in_c 1 rfl) rfl
        · skip
          refine g_iconst 1 29 (gd rfl) rfl rfl ?_
          refine g_goto 33 (gd rfl) rfl ?_
          refine g_ireturn (gd rfl) rfl (nb01 (in_w 0 1 (in_c 1 rfl) rfl)) (hp43x3 _ _ ?_)
          show GG _ _ _ _ _ _ _ _ [.int (Int32.ofInt 1)] _ _ _
          refine g_ireturn (gd rfl) rfl (nb01 (in_w 0 1 (in_c 1 rfl) rfl)) (hp43 _ _ ?_)
          show GG _ _ _ _ _ _ _ _ [.int (Int32.ofInt 1)] _ _ _
          refine g_if_eq 49 51 (gd rfl) rfl rfl (fun c46 => ?_) (fun c46 => ?_)
          · skip
            exact zn_eq c46 (in_c 1 rfl) rfl
          · skip
            refine g_iconst 0 50 (gd rfl) rfl rfl ?_
            exact g_ireturn (gd rfl) rfl rfl (hP _ _ ⟨(sF s 109 0 (Int32.ofInt 1)), hI43x3x18, (fr_sF rfl fr_rf), (Int32.ofInt 0), rfl, rfl, in_w (-2147483648) 2147483647 (in_c 0 rfl) rfl⟩)
    · skip
      exact zn_ne c6 (in_c 0 rfl) rfl
  · skip
    have i3x1 := z_ge 0 2147483647 c3x1 (i_rng x1) rfl
    refine g_iload_n 5 (gd rfl) rfl rfl ?_
    refine g_aload_n 6 (gd rfl) rfl rfl ?_
    refine g_getI 9 (gd rfl) rfl rfl rfl (fun z3x6 e3x6 => ?_)
    have q3x6 : u_109_20 = z3x6 := (e_109_20).trans e3x6.symm
    subst q3x6
    refine g_cmp_ge 12 16 (gd rfl) rfl rfl (fun c3x9 => ?_) (fun c3x9 => ?_)
    · skip
      refine g_iconst 0 17 (gd rfl) rfl rfl ?_
      refine g_ireturn (gd rfl) rfl (nb01 (in_w 0 1 (in_c 0 rfl) rfl)) (hp3 _ _ ?_)
      show GG _ _ _ _ _ _ _ _ [.int (Int32.ofInt 0), .ref (A 109)] _ _ _
      refine g_if_eq 9 42 (gd rfl) rfl rfl (fun c6 => ?_) (fun c6 => ?_)
      · skip
        refine g_iconst 0 43 (gd rfl) rfl rfl ?_
        refine g_callv (X := _) (As := [.int (Int32.ofInt 0)]) (r := []) (b := A 109) (q := 109) 46 (gd rfl) rfl rfl rfl rfl rfl (ww_o rfl) (Nat.le_of_ble_eq_true rfl) (mc := 0) (ms := 0) (Nat.zero_le _) (Nat.zero_le _) (P := fun v u => _) ?_ (fun e u h => h) (fun v u h => h)
        intro po43 xx43 hp43 hx43
        refine g_enter2 (k := 271) (N := 300) (by first | exact dq1 hd rfl | exact dq0 hd rfl | exact dq2 hd rfl | exact dq3 hd rfl | omega) rfl (Nat.le_of_ble_eq_true rfl) ?_
        refine g_aload_n 1 (gd rfl) rfl rfl ?_
        refine g_iload_n 2 (gd rfl) rfl rfl ?_
        refine g_iconst 1 3 (gd rfl) rfl rfl ?_
        refine g_callv (X := _) (As := [.int (Int32.ofInt 0), .int (Int32.ofInt 1)]) (r := []) (b := A 109) (q := 109) 6 (gd rfl) rfl rfl rfl rfl rfl (ww_o rfl) (Nat.le_of_ble_eq_true rfl) (mc := 0) (ms := 0) (Nat.zero_le _) (Nat.zero_le _) (P := fun v u => _) ?_ (fun e u h => h) (fun v u h => h)
        intro po43x3 xx43x3 hp43x3 hx43x3
        refine g_enter2 (k := 270) (N := 300) (by first | exact dq1 hd rfl | exact dq0 hd rfl | exact dq2 hd rfl | exact dq3 hd rfl | omega) rfl (Nat.le_of_ble_eq_true rfl) ?_
        refine g_aload_n 1 (gd rfl) rfl rfl ?_
        refine g_iload_n 2 (gd rfl) rfl rfl ?_
        refine g_if_ne 5 9 (gd rfl) rfl rfl (fun c43x3x2 => ?_) (fun c43x3x2 => ?_)
        · skip
          exact zn_ne c43x3x2 (in_c 0 rfl) rfl
        · skip
          refine g_iconst 1 6 (gd rfl) rfl rfl ?_
          refine g_goto 18 (gd rfl) rfl ?_
          refine g_putI 21 (gd rfl) rfl rfl rfl rfl ?_
          have hI43x3x18 := inv_sF (q := 109) (j := 0) hI rfl (in_w 0 2 (in_c 1 rfl) rfl)
          refine g_aload_n 22 (gd rfl) rfl rfl ?_
          refine g_getI 25 (gd rfl) rfl rfl rfl (fun z43x3x22 e43x3x22 => ?_)
          have q43x3x22 : (Int32.ofInt 1) = z43x3x22 := (sF_get).trans e43x3x22.symm
          subst q43x3x22
          refine g_if_le 28 32 (gd rfl) rfl rfl (fun c43x3x25 => ?_) (fun c43x3x25 => ?_)
          · skip
            exact zn_le c43x3x25 (in_c 1 rfl) rfl
          · skip
            refine g_iconst 1 29 (gd rfl) rfl rfl ?_
            refine g_goto 33 (gd rfl) rfl ?_
            refine g_ireturn (gd rfl) rfl (nb01 (in_w 0 1 (in_c 1 rfl) rfl)) (hp43x3 _ _ ?_)
            show GG _ _ _ _ _ _ _ _ [.int (Int32.ofInt 1)] _ _ _
            refine g_ireturn (gd rfl) rfl (nb01 (in_w 0 1 (in_c 1 rfl) rfl)) (hp43 _ _ ?_)
            show GG _ _ _ _ _ _ _ _ [.int (Int32.ofInt 1)] _ _ _
            refine g_if_eq 49 51 (gd rfl) rfl rfl (fun c46 => ?_) (fun c46 => ?_)
            · skip
              exact zn_eq c46 (in_c 1 rfl) rfl
            · skip
              refine g_iconst 0 50 (gd rfl) rfl rfl ?_
              exact g_ireturn (gd rfl) rfl rfl (hP _ _ ⟨(sF s 109 0 (Int32.ofInt 1)), hI43x3x18, (fr_sF rfl fr_rf), (Int32.ofInt 0), rfl, rfl, in_w (-2147483648) 2147483647 (in_c 0 rfl) rfl⟩)
      · skip
        exact zn_ne c6 (in_c 0 rfl) rfl
    · skip
      have i3x9 := r_lt1 0 31 c3x9 i3x1 ro_109_20 rfl
      have i3x9a := r_lt2 1 32 c3x9 i3x1 ro_109_20 rfl
      refine g_iconst 1 13 (gd rfl) rfl rfl ?_
      refine g_goto 17 (gd rfl) rfl ?_
      refine g_ireturn (gd rfl) rfl (nb01 (in_w 0 1 (in_c 1 rfl) rfl)) (hp3 _ _ ?_)
      show GG _ _ _ _ _ _ _ _ [.int (Int32.ofInt 1), .ref (A 109)] _ _ _
      refine g_if_eq 9 42 (gd rfl) rfl rfl (fun c6 => ?_) (fun c6 => ?_)
      · skip
        exact zn_eq c6 (in_c 1 rfl) rfl
      · skip
        refine g_aload_n 10 (gd rfl) rfl rfl ?_
        refine g_iload_n 11 (gd rfl) rfl rfl ?_
        refine g_callv (X := _) (As := [.int x2]) (r := [.ref (A 109)]) (b := A 109) (q := 109) 14 (gd rfl) rfl rfl rfl rfl rfl (ww_o rfl) (Nat.le_of_ble_eq_true rfl) (mc := 0) (ms := 0) (Nat.zero_le _) (Nat.zero_le _) (P := fun v u => _) ?_ (fun e u h => h) (fun v u h => h)
        intro po11 xx11 hp11 hx11
        refine g_enter2 (k := 272) (N := 300) (by first | exact dq1 hd rfl | exact dq0 hd rfl | exact dq2 hd rfl | exact dq3 hd rfl | omega) rfl (Nat.le_of_ble_eq_true rfl) ?_
        refine g_iload_n 1 (gd rfl) rfl rfl ?_
        refine g_if_lt 4 16 (gd rfl) rfl rfl (fun c11x1 => ?_) (fun c11x1 => ?_)
        · skip
          have i11x1 := z_lt (-2147483648) (-1) c11x1 (i_rng x2) rfl
          refine g_iconst 0 17 (gd rfl) rfl rfl ?_
          refine g_ireturn (gd rfl) rfl (nb01 (in_w 0 1 (in_c 0 rfl) rfl)) (hp11 _ _ ?_)
          show GG _ _ _ _ _ _ _ _ [.int (Int32.ofInt 0), .ref (A 109)] _ _ _
          refine g_if_eq 17 42 (gd rfl) rfl rfl (fun c14 => ?_) (fun c14 => ?_)
          · skip
            refine g_iconst 0 43 (gd rfl) rfl rfl ?_
            refine g_callv (X := _) (As := [.int (Int32.ofInt 0)]) (r := []) (b := A 109) (q := 109) 46 (gd rfl) rfl rfl rfl rfl rfl (ww_o rfl) (Nat.le_of_ble_eq_true rfl) (mc := 0) (ms := 0) (Nat.zero_le _) (Nat.zero_le _) (P := fun v u => _) ?_ (fun e u h => h) (fun v u h => h)
            intro po43 xx43 hp43 hx43
            refine g_enter2 (k := 271) (N := 300) (by first | exact dq1 hd rfl | exact dq0 hd rfl | exact dq2 hd rfl | exact dq3 hd rfl | omega) rfl (Nat.le_of_ble_eq_true rfl) ?_
            refine g_aload_n 1 (gd rfl) rfl rfl ?_
            refine g_iload_n 2 (gd rfl) rfl rfl ?_
            refine g_iconst 1 3 (gd rfl) rfl rfl ?_
            refine g_callv (X := _) (As := [.int (Int32.ofInt 0), .int (Int32.ofInt 1)]) (r := []) (b := A 109) (q := 109) 6 (gd rfl) rfl rfl rfl rfl rfl (ww_o rfl) (Nat.le_of_ble_eq_true rfl) (mc := 0) (ms := 0) (Nat.zero_le _) (Nat.zero_le _) (P := fun v u => _) ?_ (fun e u h => h) (fun v u h => h)
            intro po43x3 xx43x3 hp43x3 hx43x3
            refine g_enter2 (k := 270) (N := 300) (by first | exact dq1 hd rfl | exact dq0 hd rfl | exact dq2 hd rfl | exact dq3 hd rfl | omega) rfl (Nat.le_of_ble_eq_true rfl) ?_
            refine g_aload_n 1 (gd rfl) rfl rfl ?_
            refine g_iload_n 2 (gd rfl) rfl rfl ?_
            refine g_if_ne 5 9 (gd rfl) rfl rfl (fun c43x3x2 => ?_) (fun c43x3x2 => ?_)
            · skip
              exact zn_ne c43x3x2 (in_c 0 rfl) rfl
            · skip
              refine g_iconst 1 6 (gd rfl) rfl rfl ?_
              refine g_goto 18 (gd rfl) rfl ?_
              refine g_putI 21 (gd rfl) rfl rfl rfl rfl ?_
              have hI43x3x18 := inv_sF (q := 109) (j := 0) hI rfl (in_w 0 2 (in_c 1 rfl) rfl)
              refine g_aload_n 22 (gd rfl) rfl rfl ?_
              refine g_getI 25 (gd rfl) rfl rfl rfl (fun z43x3x22 e43x3x22 => ?_)
              have q43x3x22 : (Int32.ofInt 1) = z43x3x22 := (sF_get).trans e43x3x22.symm
              subst q43x3x22
              refine g_if_le 28 32 (gd rfl) rfl rfl (fun c43x3x25 => ?_) (fun c43x3x25 => ?_)
              · skip
                exact zn_le c43x3x25 (in_c 1 rfl) rfl
              · skip
                refine g_iconst 1 29 (gd rfl) rfl rfl ?_
                refine g_goto 33 (gd rfl) rfl ?_
                refine g_ireturn (gd rfl) rfl (nb01 (in_w 0 1 (in_c 1 rfl) rfl)) (hp43x3 _ _ ?_)
                show GG _ _ _ _ _ _ _ _ [.int (Int32.ofInt 1)] _ _ _
                refine g_ireturn (gd rfl) rfl (nb01 (in_w 0 1 (in_c 1 rfl) rfl)) (hp43 _ _ ?_)
                show GG _ _ _ _ _ _ _ _ [.int (Int32.ofInt 1)] _ _ _
                refine g_if_eq 49 51 (gd rfl) rfl rfl (fun c46 => ?_) (fun c46 => ?_)
                · skip
                  exact zn_eq c46 (in_c 1 rfl) rfl
                · skip
                  refine g_iconst 0 50 (gd rfl) rfl rfl ?_
                  exact g_ireturn (gd rfl) rfl rfl (hP _ _ ⟨(sF s 109 0 (Int32.ofInt 1)), hI43x3x18, (fr_sF rfl fr_rf), (Int32.ofInt 0), rfl, rfl, in_w (-2147483648) 2147483647 (in_c 0 rfl) rfl⟩)
          · skip
            exact zn_ne c14 (in_c 0 rfl) rfl
        · skip
          have i11x1 := z_ge 0 2147483647 c11x1 (i_rng x2) rfl
          refine g_iload_n 5 (gd rfl) rfl rfl ?_
          refine g_aload_n 6 (gd rfl) rfl rfl ?_
          refine g_getI 9 (gd rfl) rfl rfl rfl (fun z11x6 e11x6 => ?_)
          have q11x6 : u_109_20 = z11x6 := (e_109_20).trans e11x6.symm
          subst q11x6
          refine g_cmp_ge 12 16 (gd rfl) rfl rfl (fun c11x9 => ?_) (fun c11x9 => ?_)
          · skip
            have i11x9 := r_le2 1 2147483647 c11x9 i3x9a i11x1 rfl
            refine g_iconst 0 17 (gd rfl) rfl rfl ?_
            refine g_ireturn (gd rfl) rfl (nb01 (in_w 0 1 (in_c 0 rfl) rfl)) (hp11 _ _ ?_)
            show GG _ _ _ _ _ _ _ _ [.int (Int32.ofInt 0), .ref (A 109)] _ _ _
            refine g_if_eq 17 42 (gd rfl) rfl rfl (fun c14 => ?_) (fun c14 => ?_)
            · skip
              refine g_iconst 0 43 (gd rfl) rfl rfl ?_
              refine g_callv (X := _) (As := [.int (Int32.ofInt 0)]) (r := []) (b := A 109) (q := 109) 46 (gd rfl) rfl rfl rfl rfl rfl (ww_o rfl) (Nat.le_of_ble_eq_true rfl) (mc := 0) (ms := 0) (Nat.zero_le _) (Nat.zero_le _) (P := fun v u => _) ?_ (fun e u h => h) (fun v u h => h)
              intro po43 xx43 hp43 hx43
              refine g_enter2 (k := 271) (N := 300) (by first | exact dq1 hd rfl | exact dq0 hd rfl | exact dq2 hd rfl | exact dq3 hd rfl | omega) rfl (Nat.le_of_ble_eq_true rfl) ?_
              refine g_aload_n 1 (gd rfl) rfl rfl ?_
              refine g_iload_n 2 (gd rfl) rfl rfl ?_
              refine g_iconst 1 3 (gd rfl) rfl rfl ?_
              refine g_callv (X := _) (As := [.int (Int32.ofInt 0), .int (Int32.ofInt 1)]) (r := []) (b := A 109) (q := 109) 6 (gd rfl) rfl rfl rfl rfl rfl (ww_o rfl) (Nat.le_of_ble_eq_true rfl) (mc := 0) (ms := 0) (Nat.zero_le _) (Nat.zero_le _) (P := fun v u => _) ?_ (fun e u h => h) (fun v u h => h)
              intro po43x3 xx43x3 hp43x3 hx43x3
              refine g_enter2 (k := 270) (N := 300) (by first | exact dq1 hd rfl | exact dq0 hd rfl | exact dq2 hd rfl | exact dq3 hd rfl | omega) rfl (Nat.le_of_ble_eq_true rfl) ?_
              refine g_aload_n 1 (gd rfl) rfl rfl ?_
              refine g_iload_n 2 (gd rfl) rfl rfl ?_
              refine g_if_ne 5 9 (gd rfl) rfl rfl (fun c43x3x2 => ?_) (fun c43x3x2 => ?_)
              · skip
                exact zn_ne c43x3x2 (in_c 0 rfl) rfl
              · skip
                refine g_iconst 1 6 (gd rfl) rfl rfl ?_
                refine g_goto 18 (gd rfl) rfl ?_
                refine g_putI 21 (gd rfl) rfl rfl rfl rfl ?_
                have hI43x3x18 := inv_sF (q := 109) (j := 0) hI rfl (in_w 0 2 (in_c 1 rfl) rfl)
                refine g_aload_n 22 (gd rfl) rfl rfl ?_
                refine g_getI 25 (gd rfl) rfl rfl rfl (fun z43x3x22 e43x3x22 => ?_)
                have q43x3x22 : (Int32.ofInt 1) = z43x3x22 := (sF_get).trans e43x3x22.symm
                subst q43x3x22
                refine g_if_le 28 32 (gd rfl) rfl rfl (fun c43x3x25 => ?_) (fun c43x3x25 => ?_)
                · skip
                  exact zn_le c43x3x25 (in_c 1 rfl) rfl
                · skip
                  refine g_iconst 1 29 (gd rfl) rfl rfl ?_
                  refine g_goto 33 (gd rfl) rfl ?_
                  refine g_ireturn (gd rfl) rfl (nb01 (in_w 0 1 (in_c 1 rfl) rfl)) (hp43x3 _ _ ?_)
                  show GG _ _ _ _ _ _ _ _ [.int (Int32.ofInt 1)] _ _ _
                  refine g_ireturn (gd rfl) rfl (nb01 (in_w 0 1 (in_c 1 rfl) rfl)) (hp43 _ _ ?_)
                  show GG _ _ _ _ _ _ _ _ [.int (Int32.ofInt 1)] _ _ _
                  refine g_if_eq 49 51 (gd rfl) rfl rfl (fun c46 => ?_) (fun c46 => ?_)
                  · skip
                    exact zn_eq c46 (in_c 1 rfl) rfl
                  · skip
                    refine g_iconst 0 50 (gd rfl) rfl rfl ?_
                    exact g_ireturn (gd rfl) rfl rfl (hP _ _ ⟨(sF s 109 0 (Int32.ofInt 1)), hI43x3x18, (fr_sF rfl fr_rf), (Int32.ofInt 0), rfl, rfl, in_w (-2147483648) 2147483647 (in_c 0 rfl) rfl⟩)
            · skip
              exact zn_ne c14 (in_c 0 rfl) rfl
          · skip
            have i11x9 := r_lt1 0 31 c11x9 i11x1 i3x9a rfl
            refine g_iconst 1 13 (gd rfl) rfl rfl ?_
            refine g_goto 17 (gd rfl) rfl ?_
            refine g_ireturn (gd rfl) rfl (nb01 (in_w 0 1 (in_c 1 rfl) rfl)) (hp11 _ _ ?_)
            show GG _ _ _ _ _ _ _ _ [.int (Int32.ofInt 1), .ref (A 109)] _ _ _
            refine g_if_eq 17 42 (gd rfl) rfl rfl (fun c14 => ?_) (fun c14 => ?_)
            · skip
              exact zn_eq c14 (in_c 1 rfl) rfl
            · skip
              refine g_iload_n 18 (gd rfl) rfl rfl ?_
              refine g_i2l 19 (gd rfl) rfl (fun z18 e18 => ?_)
              have i18 := l_i e18 (i_rng x3)
              refine g_lconst 0 20 (gd rfl) rfl rfl ?_
              refine g_ldc2_w 2 23 (gd rfl) rfl rfl ?_
              refine g_calls (As := [.long z18, .long (Int64.ofInt 0), .long (Int64.ofInt 2)]) (r := [.ref (A 109)]) 26 (gd rfl) rfl rfl rfl rfl rfl (Nat.le_of_ble_eq_true rfl) (mc := 0) (ms := 0) (Nat.zero_le _) (Nat.zero_le _) (P := fun v u => _) ?_ (fun v u h => h)
              intro po23 xx23 hp23 hx23
              refine g_enter2 (k := 269) (N := 300) (by first | exact dq1 hd rfl | exact dq0 hd rfl | exact dq2 hd rfl | exact dq3 hd rfl | omega) rfl (Nat.le_of_ble_eq_true rfl) ?_
              refine g_lload_n 1 (gd rfl) rfl rfl ?_
              refine g_lload_n 2 (gd rfl) rfl rfl ?_
              refine g_lcmp 3 (gd rfl) rfl (fun z23x2 e23x2 => ?_)
              have i23x2 := lc_in e23x2
              refine g_if_lt 6 17 (gd rfl) rfl rfl (fun c23x3 => ?_) (fun c23x3 => ?_)
              · skip
                have i23x3 := z_lt (-1) (-1) c23x3 i23x2 rfl
                have c23x3a := lc_lt e23x2 c23x3
                have i23x3a := lr_lt1 (-2147483648) (-1) c23x3a i18 (l_c 0 rfl) rfl
                have i23x3b := l_b e18 i23x3a
                refine g_iconst 0 18 (gd rfl) rfl rfl ?_
                refine g_ireturn (gd rfl) rfl (nb01 (in_w 0 1 (in_c 0 rfl) rfl)) (hp23 _ _ ?_)
                show GG _ _ _ _ _ _ _ _ [.int (Int32.ofInt 0), .ref (A 109)] _ _ _
                refine g_if_eq 29 42 (gd rfl) rfl rfl (fun c26 => ?_) (fun c26 => ?_)
                · skip
                  refine g_iconst 0 43 (gd rfl) rfl rfl ?_
                  refine g_callv (X := _) (As := [.int (Int32.ofInt 0)]) (r := []) (b := A 109) (q := 109) 46 (gd rfl) rfl rfl rfl rfl rfl (ww_o rfl) (Nat.le_of_ble_eq_true rfl) (mc := 0) (ms := 0) (Nat.zero_le _) (Nat.zero_le _) (P := fun v u => _) ?_ (fun e u h => h) (fun v u h => h)
                  intro po43 xx43 hp43 hx43
                  refine g_enter2 (k := 271) (N := 300) (by first | exact dq1 hd rfl | exact dq0 hd rfl | exact dq2 hd rfl | exact dq3 hd rfl | omega) rfl (Nat.le_of_ble_eq_true rfl) ?_
                  refine g_aload_n 1 (gd rfl) rfl rfl ?_
                  refine g_iload_n 2 (gd rfl) rfl rfl ?_
                  refine g_iconst 1 3 (gd rfl) rfl rfl ?_
                  refine g_callv (X := _) (As := [.int (Int32.ofInt 0), .int (Int32.ofInt 1)]) (r := []) (b := A 109) (q := 109) 6 (gd rfl) rfl rfl rfl rfl rfl (ww_o rfl) (Nat.le_of_ble_eq_true rfl) (mc := 0) (ms := 0) (Nat.zero_le _) (Nat.zero_le _) (P := fun v u => _) ?_ (fun e u h => h) (fun v u h => h)
                  intro po43x3 xx43x3 hp43x3 hx43x3
                  refine g_enter2 (k := 270) (N := 300) (by first | exact dq1 hd rfl | exact dq0 hd rfl | exact dq2 hd rfl | exact dq3 hd rfl | omega) rfl (Nat.le_of_ble_eq_true rfl) ?_
                  refine g_aload_n 1 (gd rfl) rfl rfl ?_
                  refine g_iload_n 2 (gd rfl) rfl rfl ?_
                  refine g_if_ne 5 9 (gd rfl) rfl rfl (fun c43x3x2 => ?_) (fun c43x3x2 => ?_)
                  · skip
                    exact zn_ne c43x3x2 (in_c 0 rfl) rfl
                  · skip
                    refine g_iconst 1 6 (gd rfl) rfl rfl ?_
                    refine g_goto 18 (gd rfl) rfl ?_
                    refine g_putI 21 (gd rfl) rfl rfl rfl rfl ?_
                    have hI43x3x18 := inv_sF (q := 109) (j := 0) hI rfl (in_w 0 2 (in_c 1 rfl) rfl)
                    refine g_aload_n 22 (gd rfl) rfl rfl ?_
                    refine g_getI 25 (gd rfl) rfl rfl rfl (fun z43x3x22 e43x3x22 => ?_)
                    have q43x3x22 : (Int32.ofInt 1) = z43x3x22 := (sF_get).trans e43x3x22.symm
                    subst q43x3x22
                    refine g_if_le 28 32 (gd rfl) rfl rfl (fun c43x3x25 => ?_) (fun c43x3x25 => ?_)
                    · skip
                      exact zn_le c43x3x25 (in_c 1 rfl) rfl
                    · skip
                      refine g_iconst 1 29 (gd rfl) rfl rfl ?_
                      refine g_goto 33 (gd rfl) rfl ?_
                      refine g_ireturn (gd rfl) rfl (nb01 (in_w 0 1 (in_c 1 rfl) rfl)) (hp43x3 _ _ ?_)
                      show GG _ _ _ _ _ _ _ _ [.int (Int32.ofInt 1)] _ _ _
                      refine g_ireturn (gd rfl) rfl (nb01 (in_w 0 1 (in_c 1 rfl) rfl)) (hp43 _ _ ?_)
                      show GG _ _ _ _ _ _ _ _ [.int (Int32.ofInt 1)] _ _ _
                      refine g_if_eq 49 51 (gd rfl) rfl rfl (fun c46 => ?_) (fun c46 => ?_)
                      · skip
                        exact zn_eq c46 (in_c 1 rfl) rfl
                      · skip
                        refine g_iconst 0 50 (gd rfl) rfl rfl ?_
                        exact g_ireturn (gd rfl) rfl rfl (hP _ _ ⟨(sF s 109 0 (Int32.ofInt 1)), hI43x3x18, (fr_sF rfl fr_rf), (Int32.ofInt 0), rfl, rfl, in_w (-2147483648) 2147483647 (in_c 0 rfl) rfl⟩)
                · skip
                  exact zn_ne c26 (in_c 0 rfl) rfl
              · skip
                have i23x3 := z_ge 0 1 c23x3 i23x2 rfl
                have c23x3a := lc_ge e23x2 c23x3
                have i23x3a := lr_le2 0 2147483647 c23x3a (l_c 0 rfl) i18 rfl
                have i23x3b := l_b e18 i23x3a
                refine g_lload_n 7 (gd rfl) rfl rfl ?_
                refine g_lload 9 (gd rfl) rfl rfl ?_
                refine g_lcmp 10 (gd rfl) rfl (fun z23x9 e23x9 => ?_)
                have i23x9 := lc_in e23x9
                refine g_if_gt 13 17 (gd rfl) rfl rfl (fun c23x10 => ?_) (fun c23x10 => ?_)
                · skip
                  have i23x10 := z_gt 1 1 c23x10 i23x9 rfl
                  have c23x10a := lc_gt e23x9 c23x10
                  have i23x10a := lr_lt2 3 2147483647 c23x10a (l_c 2 rfl) i23x3a rfl
                  have i23x10b := l_b e18 i23x10a
                  refine g_iconst 0 18 (gd rfl) rfl rfl ?_
                  refine g_ireturn (gd rfl) rfl (nb01 (in_w 0 1 (in_c 0 rfl) rfl)) (hp23 _ _ ?_)
                  show GG _ _ _ _ _ _ _ _ [.int (Int32.ofInt 0), .ref (A 109)] _ _ _
                  refine g_if_eq 29 42 (gd rfl) rfl rfl (fun c26 => ?_) (fun c26 => ?_)
                  · skip
                    refine g_iconst 0 43 (gd rfl) rfl rfl ?_
                    refine g_callv (X := _) (As := [.int (Int32.ofInt 0)]) (r := []) (b := A 109) (q := 109) 46 (gd rfl) rfl rfl rfl rfl rfl (ww_o rfl) (Nat.le_of_ble_eq_true rfl) (mc := 0) (ms := 0) (Nat.zero_le _) (Nat.zero_le _) (P := fun v u => _) ?_ (fun e u h => h) (fun v u h => h)
                    intro po43 xx43 hp43 hx43
                    refine g_enter2 (k := 271) (N := 300) (by first | exact dq1 hd rfl | exact dq0 hd rfl | exact dq2 hd rfl | exact dq3 hd rfl | omega) rfl (Nat.le_of_ble_eq_true rfl) ?_
                    refine g_aload_n 1 (gd rfl) rfl rfl ?_
                    refine g_iload_n 2 (gd rfl) rfl rfl ?_
                    refine g_iconst 1 3 (gd rfl) rfl rfl ?_
                    refine g_callv (X := _) (As := [.int (Int32.ofInt 0), .int (Int32.ofInt 1)]) (r := []) (b := A 109) (q := 109) 6 (gd rfl) rfl rfl rfl rfl rfl (ww_o rfl) (Nat.le_of_ble_eq_true rfl) (mc := 0) (ms := 0) (Nat.zero_le _) (Nat.zero_le _) (P := fun v u => _) ?_ (fun e u h => h) (fun v u h => h)
                    intro po43x3 xx43x3 hp43x3 hx43x3
                    refine g_enter2 (k := 270) (N := 300) (by first | exact dq1 hd rfl | exact dq0 hd rfl | exact dq2 hd rfl | exact dq3 hd rfl | omega) rfl (Nat.le_of_ble_eq_true rfl) ?_
                    refine g_aload_n 1 (gd rfl) rfl rfl ?_
                    refine g_iload_n 2 (gd rfl) rfl rfl ?_
                    refine g_if_ne 5 9 (gd rfl) rfl rfl (fun c43x3x2 => ?_) (fun c43x3x2 => ?_)
                    · skip
                      exact zn_ne c43x3x2 (in_c 0 rfl) rfl
                    · skip
                      refine g_iconst 1 6 (gd rfl) rfl rfl ?_
                      refine g_goto 18 (gd rfl) rfl ?_
                      refine g_putI 21 (gd rfl) rfl rfl rfl rfl ?_
                      have hI43x3x18 := inv_sF (q := 109) (j := 0) hI rfl (in_w 0 2 (in_c 1 rfl) rfl)
                      refine g_aload_n 22 (gd rfl) rfl rfl ?_
                      refine g_getI 25 (gd rfl) rfl rfl rfl (fun z43x3x22 e43x3x22 => ?_)
                      have q43x3x22 : (Int32.ofInt 1) = z43x3x22 := (sF_get).trans e43x3x22.symm
                      subst q43x3x22
                      refine g_if_le 28 32 (gd rfl) rfl rfl (fun c43x3x25 => ?_) (fun c43x3x25 => ?_)
                      · skip
                        exact zn_le c43x3x25 (in_c 1 rfl) rfl
                      · skip
                        refine g_iconst 1 29 (gd rfl) rfl rfl ?_
                        refine g_goto 33 (gd rfl) rfl ?_
                        refine g_ireturn (gd rfl) rfl (nb01 (in_w 0 1 (in_c 1 rfl) rfl)) (hp43x3 _ _ ?_)
                        show GG _ _ _ _ _ _ _ _ [.int (Int32.ofInt 1)] _ _ _
                        refine g_ireturn (gd rfl) rfl (nb01 (in_w 0 1 (in_c 1 rfl) rfl)) (hp43 _ _ ?_)
                        show GG _ _ _ _ _ _ _ _ [.int (Int32.ofInt 1)] _ _ _
                        refine g_if_eq 49 51 (gd rfl) rfl rfl (fun c46 => ?_) (fun c46 => ?_)
                        · skip
                          exact zn_eq c46 (in_c 1 rfl) rfl
                        · skip
                          refine g_iconst 0 50 (gd rfl) rfl rfl ?_
                          exact g_ireturn (gd rfl) rfl rfl (hP _ _ ⟨(sF s 109 0 (Int32.ofInt 1)), hI43x3x18, (fr_sF rfl fr_rf), (Int32.ofInt 0), rfl, rfl, in_w (-2147483648) 2147483647 (in_c 0 rfl) rfl⟩)
                  · skip
                    exact zn_ne c26 (in_c 0 rfl) rfl
                · skip
                  have i23x10 := z_le (-1) 0 c23x10 i23x9 rfl
                  have c23x10a := lc_le e23x9 c23x10
                  have i23x10a := lr_le1 0 2 c23x10a i23x3a (l_c 2 rfl) rfl
                  have i23x10b := l_b e18 i23x10a
                  refine g_iconst 1 14 (gd rfl) rfl rfl ?_
                  refine g_goto 18 (gd rfl) rfl ?_
                  refine g_ireturn (gd rfl) rfl (nb01 (in_w 0 1 (in_c 1 rfl) rfl)) (hp23 _ _ ?_)
                  show GG _ _ _ _ _ _ _ _ [.int (Int32.ofInt 1), .ref (A 109)] _ _ _
                  refine g_if_eq 29 42 (gd rfl) rfl rfl (fun c26 => ?_) (fun c26 => ?_)
                  · skip
                    exact zn_eq c26 (in_c 1 rfl) rfl
                  · skip
                    refine g_aload_n 30 (gd rfl) rfl rfl ?_
                    refine g_iload 32 (gd rfl) rfl rfl ?_
                    refine g_callv (X := _) (As := [.int x4]) (r := [.ref (A 109)]) (b := A 109) (q := 109) 35 (gd rfl) rfl rfl rfl rfl rfl (ww_o rfl) (Nat.le_of_ble_eq_true rfl) (mc := 0) (ms := 0) (Nat.zero_le _) (Nat.zero_le _) (P := fun v u => _) ?_ (fun e u h => h) (fun v u h => h)
                    intro po32 xx32 hp32 hx32
                    refine g_enter2 (k := 272) (N := 300) (by first | exact dq1 hd rfl | exact dq0 hd rfl | exact dq2 hd rfl | exact dq3 hd rfl | omega) rfl (Nat.le_of_ble_eq_true rfl) ?_
                    refine g_iload_n 1 (gd rfl) rfl rfl ?_
                    refine g_if_lt 4 16 (gd rfl) rfl rfl (fun c32x1 => ?_) (fun c32x1 => ?_)
                    · skip
                      have i32x1 := z_lt (-2147483648) (-1) c32x1 (i_rng x4) rfl
                      refine g_iconst 0 17 (gd rfl) rfl rfl ?_
                      refine g_ireturn (gd rfl) rfl (nb01 (in_w 0 1 (in_c 0 rfl) rfl)) (hp32 _ _ ?_)
                      show GG _ _ _ _ _ _ _ _ [.int (Int32.ofInt 0), .ref (A 109)] _ _ _
                      refine g_if_eq 38 42 (gd rfl) rfl rfl (fun c35 => ?_) (fun c35 => ?_)
                      · skip
                        refine g_iconst 0 43 (gd rfl) rfl rfl ?_
                        refine g_callv (X := _) (As := [.int (Int32.ofInt 0)]) (r := []) (b := A 109) (q := 109) 46 (gd rfl) rfl rfl rfl rfl rfl (ww_o rfl) (Nat.le_of_ble_eq_true rfl) (mc := 0) (ms := 0) (Nat.zero_le _) (Nat.zero_le _) (P := fun v u => _) ?_ (fun e u h => h) (fun v u h => h)
                        intro po43 xx43 hp43 hx43
                        refine g_enter2 (k := 271) (N := 300) (by first | exact dq1 hd rfl | exact dq0 hd rfl | exact dq2 hd rfl | exact dq3 hd rfl | omega) rfl (Nat.le_of_ble_eq_true rfl) ?_
                        refine g_aload_n 1 (gd rfl) rfl rfl ?_
                        refine g_iload_n 2 (gd rfl) rfl rfl ?_
                        refine g_iconst 1 3 (gd rfl) rfl rfl ?_
                        refine g_callv (X := _) (As := [.int (Int32.ofInt 0), .int (Int32.ofInt 1)]) (r := []) (b := A 109) (q := 109) 6 (gd rfl) rfl rfl rfl rfl rfl (ww_o rfl) (Nat.le_of_ble_eq_true rfl) (mc := 0) (ms := 0) (Nat.zero_le _) (Nat.zero_le _) (P := fun v u => _) ?_ (fun e u h => h) (fun v u h => h)
                        intro po43x3 xx43x3 hp43x3 hx43x3
                        refine g_enter2 (k := 270) (N := 300) (by first | exact dq1 hd rfl | exact dq0 hd rfl | exact dq2 hd rfl | exact dq3 hd rfl | omega) rfl (Nat.le_of_ble_eq_true rfl) ?_
                        refine g_aload_n 1 (gd rfl) rfl rfl ?_
                        refine g_iload_n 2 (gd rfl) rfl rfl ?_
                        refine g_if_ne 5 9 (gd rfl) rfl rfl (fun c43x3x2 => ?_) (fun c43x3x2 => ?_)
                        · skip
                          exact zn_ne c43x3x2 (in_c 0 rfl) rfl
                        · skip
                          refine g_iconst 1 6 (gd rfl) rfl rfl ?_
                          refine g_goto 18 (gd rfl) rfl ?_
                          refine g_putI 21 (gd rfl) rfl rfl rfl rfl ?_
                          have hI43x3x18 := inv_sF (q := 109) (j := 0) hI rfl (in_w 0 2 (in_c 1 rfl) rfl)
                          refine g_aload_n 22 (gd rfl) rfl rfl ?_
                          refine g_getI 25 (gd rfl) rfl rfl rfl (fun z43x3x22 e43x3x22 => ?_)
                          have q43x3x22 : (Int32.ofInt 1) = z43x3x22 := (sF_get).trans e43x3x22.symm
                          subst q43x3x22
                          refine g_if_le 28 32 (gd rfl) rfl rfl (fun c43x3x25 => ?_) (fun c43x3x25 => ?_)
                          · skip
                            exact zn_le c43x3x25 (in_c 1 rfl) rfl
                          · skip
                            refine g_iconst 1 29 (gd rfl) rfl rfl ?_
                            refine g_goto 33 (gd rfl) rfl ?_
                            refine g_ireturn (gd rfl) rfl (nb01 (in_w 0 1 (in_c 1 rfl) rfl)) (hp43x3 _ _ ?_)
                            show GG _ _ _ _ _ _ _ _ [.int (Int32.ofInt 1)] _ _ _
                            refine g_ireturn (gd rfl) rfl (nb01 (in_w 0 1 (in_c 1 rfl) rfl)) (hp43 _ _ ?_)
                            show GG _ _ _ _ _ _ _ _ [.int (Int32.ofInt 1)] _ _ _
                            refine g_if_eq 49 51 (gd rfl) rfl rfl (fun c46 => ?_) (fun c46 => ?_)
                            · skip
                              exact zn_eq c46 (in_c 1 rfl) rfl
                            · skip
                              refine g_iconst 0 50 (gd rfl) rfl rfl ?_
                              exact g_ireturn (gd rfl) rfl rfl (hP _ _ ⟨(sF s 109 0 (Int32.ofInt 1)), hI43x3x18, (fr_sF rfl fr_rf), (Int32.ofInt 0), rfl, rfl, in_w (-2147483648) 2147483647 (in_c 0 rfl) rfl⟩)
                      · skip
                        exact zn_ne c35 (in_c 0 rfl) rfl
                    · skip
                      have i32x1 := z_ge 0 2147483647 c32x1 (i_rng x4) rfl
                      refine g_iload_n 5 (gd rfl) rfl rfl ?_
                      refine g_aload_n 6 (gd rfl) rfl rfl ?_
                      refine g_getI 9 (gd rfl) rfl rfl rfl (fun z32x6 e32x6 => ?_)
                      have q32x6 : u_109_20 = z32x6 := (e_109_20).trans e32x6.symm
                      subst q32x6
                      refine g_cmp_ge 12 16 (gd rfl) rfl rfl (fun c32x9 => ?_) (fun c32x9 => ?_)
                      · skip
                        have i32x9 := r_le2 1 2147483647 c32x9 i3x9a i32x1 rfl
                        refine g_iconst 0 17 (gd rfl) rfl rfl ?_
                        refine g_ireturn (gd rfl) rfl (nb01 (in_w 0 1 (in_c 0 rfl) rfl)) (hp32 _ _ ?_)
                        show GG _ _ _ _ _ _ _ _ [.int (Int32.ofInt 0), .ref (A 109)] _ _ _
                        refine g_if_eq 38 42 (gd rfl) rfl rfl (fun c35 => ?_) (fun c35 => ?_)
                        · skip
                          refine g_iconst 0 43 (gd rfl) rfl rfl ?_
                          refine g_callv (X := _) (As := [.int (Int32.ofInt 0)]) (r := []) (b := A 109) (q := 109) 46 (gd rfl) rfl rfl rfl rfl rfl (ww_o rfl) (Nat.le_of_ble_eq_true rfl) (mc := 0) (ms := 0) (Nat.zero_le _) (Nat.zero_le _) (P := fun v u => _) ?_ (fun e u h => h) (fun v u h => h)
                          intro po43 xx43 hp43 hx43
                          refine g_enter2 (k := 271) (N := 300) (by first | exact dq1 hd rfl | exact dq0 hd rfl | exact dq2 hd rfl | exact dq3 hd rfl | omega) rfl (Nat.le_of_ble_eq_true rfl) ?_
                          refine g_aload_n 1 (gd rfl) rfl rfl ?_
                          refine g_iload_n 2 (gd rfl) rfl rfl ?_
                          refine g_iconst 1 3 (gd rfl) rfl rfl ?_
                          refine g_callv (X := _) (As := [.int (Int32.ofInt 0), .int (Int32.ofInt 1)]) (r := []) (b := A 109) (q := 109) 6 (gd rfl) rfl rfl rfl rfl rfl (ww_o rfl) (Nat.le_of_ble_eq_true rfl) (mc := 0) (ms := 0) (Nat.zero_le _) (Nat.zero_le _) (P := fun v u => _) ?_ (fun e u h => h) (fun v u h => h)
                          intro po43x3 xx43x3 hp43x3 hx43x3
                          refine g_enter2 (k := 270) (N := 300) (by first | exact dq1 hd rfl | exact dq0 hd rfl | exact dq2 hd rfl | exact dq3 hd rfl | omega) rfl (Nat.le_of_ble_eq_true rfl) ?_
                          refine g_aload_n 1 (gd rfl) rfl rfl ?_
                          refine g_iload_n 2 (gd rfl) rfl rfl ?_
                          refine g_if_ne 5 9 (gd rfl) rfl rfl (fun c43x3x2 => ?_) (fun c43x3x2 => ?_)
                          · skip
                            exact zn_ne c43x3x2 (in_c 0 rfl) rfl
                          · skip
                            refine g_iconst 1 6 (gd rfl) rfl rfl ?_
                            refine g_goto 18 (gd rfl) rfl ?_
                            refine g_putI 21 (gd rfl) rfl rfl rfl rfl ?_
                            have hI43x3x18 := inv_sF (q := 109) (j := 0) hI rfl (in_w 0 2 (in_c 1 rfl) rfl)
                            refine g_aload_n 22 (gd rfl) rfl rfl ?_
                            refine g_getI 25 (gd rfl) rfl rfl rfl (fun z43x3x22 e43x3x22 => ?_)
                            have q43x3x22 : (Int32.ofInt 1) = z43x3x22 := (sF_get).trans e43x3x22.symm
                            subst q43x3x22
                            refine g_if_le 28 32 (gd rfl) rfl rfl (fun c43x3x25 => ?_) (fun c43x3x25 => ?_)
                            · skip
                              exact zn_le c43x3x25 (in_c 1 rfl) rfl
                            · skip
                              refine g_iconst 1 29 (gd rfl) rfl rfl ?_
                              refine g_goto 33 (gd rfl) rfl ?_
                              refine g_ireturn (gd rfl) rfl (nb01 (in_w 0 1 (in_c 1 rfl) rfl)) (hp43x3 _ _ ?_)
                              show GG _ _ _ _ _ _ _ _ [.int (Int32.ofInt 1)] _ _ _
                              refine g_ireturn (gd rfl) rfl (nb01 (in_w 0 1 (in_c 1 rfl) rfl)) (hp43 _ _ ?_)
                              show GG _ _ _ _ _ _ _ _ [.int (Int32.ofInt 1)] _ _ _
                              refine g_if_eq 49 51 (gd rfl) rfl rfl (fun c46 => ?_) (fun c46 => ?_)
                              · skip
                                exact zn_eq c46 (in_c 1 rfl) rfl
                              · skip
                                refine g_iconst 0 50 (gd rfl) rfl rfl ?_
                                exact g_ireturn (gd rfl) rfl rfl (hP _ _ ⟨(sF s 109 0 (Int32.ofInt 1)), hI43x3x18, (fr_sF rfl fr_rf), (Int32.ofInt 0), rfl, rfl, in_w (-2147483648) 2147483647 (in_c 0 rfl) rfl⟩)
                        · skip
                          exact zn_ne c35 (in_c 0 rfl) rfl
                      · skip
                        have i32x9 := r_lt1 0 31 c32x9 i32x1 i3x9a rfl
                        refine g_iconst 1 13 (gd rfl) rfl rfl ?_
                        refine g_goto 17 (gd rfl) rfl ?_
                        refine g_ireturn (gd rfl) rfl (nb01 (in_w 0 1 (in_c 1 rfl) rfl)) (hp32 _ _ ?_)
                        show GG _ _ _ _ _ _ _ _ [.int (Int32.ofInt 1), .ref (A 109)] _ _ _
                        refine g_if_eq 38 42 (gd rfl) rfl rfl (fun c35 => ?_) (fun c35 => ?_)
                        · skip
                          exact zn_eq c35 (in_c 1 rfl) rfl
                        · skip
                          refine g_iconst 1 39 (gd rfl) rfl rfl ?_
                          refine g_goto 43 (gd rfl) rfl ?_
                          refine g_callv (X := _) (As := [.int (Int32.ofInt 1)]) (r := []) (b := A 109) (q := 109) 46 (gd rfl) rfl rfl rfl rfl rfl (ww_o rfl) (Nat.le_of_ble_eq_true rfl) (mc := 0) (ms := 0) (Nat.zero_le _) (Nat.zero_le _) (P := fun v u => _) ?_ (fun e u h => h) (fun v u h => h)
                          intro po43 xx43 hp43 hx43
                          refine g_enter2 (k := 271) (N := 300) (by first | exact dq1 hd rfl | exact dq0 hd rfl | exact dq2 hd rfl | exact dq3 hd rfl | omega) rfl (Nat.le_of_ble_eq_true rfl) ?_
                          refine g_aload_n 1 (gd rfl) rfl rfl ?_
                          refine g_iload_n 2 (gd rfl) rfl rfl ?_
                          refine g_iconst 1 3 (gd rfl) rfl rfl ?_
                          refine g_callv (X := _) (As := [.int (Int32.ofInt 1), .int (Int32.ofInt 1)]) (r := []) (b := A 109) (q := 109) 6 (gd rfl) rfl rfl rfl rfl rfl (ww_o rfl) (Nat.le_of_ble_eq_true rfl) (mc := 0) (ms := 0) (Nat.zero_le _) (Nat.zero_le _) (P := fun v u => _) ?_ (fun e u h => h) (fun v u h => h)
                          intro po43x3 xx43x3 hp43x3 hx43x3
                          refine g_enter2 (k := 270) (N := 300) (by first | exact dq1 hd rfl | exact dq0 hd rfl | exact dq2 hd rfl | exact dq3 hd rfl | omega) rfl (Nat.le_of_ble_eq_true rfl) ?_
                          refine g_aload_n 1 (gd rfl) rfl rfl ?_
                          refine g_iload_n 2 (gd rfl) rfl rfl ?_
                          refine g_if_ne 5 9 (gd rfl) rfl rfl (fun c43x3x2 => ?_) (fun c43x3x2 => ?_)
                          · skip
                            refine g_iload_n 10 (gd rfl) rfl rfl ?_
                            refine g_if_ne 13 17 (gd rfl) rfl rfl (fun c43x3x10 => ?_) (fun c43x3x10 => ?_)
                            · skip
                              refine g_iconst 0 18 (gd rfl) rfl rfl ?_
                              refine g_putI 21 (gd rfl) rfl rfl rfl rfl ?_
                              have hI43x3x18 := inv_sF (q := 109) (j := 0) hI rfl (in_w 0 2 (in_c 0 rfl) rfl)
                              refine g_aload_n 22 (gd rfl) rfl rfl ?_
                              refine g_getI 25 (gd rfl) rfl rfl rfl (fun z43x3x22 e43x3x22 => ?_)
                              have q43x3x22 : (Int32.ofInt 0) = z43x3x22 := (sF_get).trans e43x3x22.symm
                              subst q43x3x22
                              refine g_if_le 28 32 (gd rfl) rfl rfl (fun c43x3x25 => ?_) (fun c43x3x25 => ?_)
                              · skip
                                refine g_iconst 0 33 (gd rfl) rfl rfl ?_
                                refine g_ireturn (gd rfl) rfl (nb01 (in_w 0 1 (in_c 0 rfl) rfl)) (hp43x3 _ _ ?_)
                                show GG _ _ _ _ _ _ _ _ [.int (Int32.ofInt 0)] _ _ _
                                refine g_ireturn (gd rfl) rfl (nb01 (in_w 0 1 (in_c 0 rfl) rfl)) (hp43 _ _ ?_)
                                show GG _ _ _ _ _ _ _ _ [.int (Int32.ofInt 0)] _ _ _
                                refine g_if_eq 49 51 (gd rfl) rfl rfl (fun c46 => ?_) (fun c46 => ?_)
                                · skip
                                  refine g_aload_n 52 (gd rfl) rfl rfl ?_
                                  refine g_iload_n 53 (gd rfl) rfl rfl ?_
                                  refine g_iconst 0 54 (gd rfl) rfl rfl ?_
                                  refine g_aload_n 55 (gd rfl) rfl rfl ?_
                                  refine g_getA (q2 := 165) 58 (gd rfl) rfl rfl rfl rfl ?_
                                  refine g_aload_n 59 (gd rfl) rfl rfl ?_
                                  refine g_getA (q2 := 166) 62 (gd rfl) rfl rfl rfl rfl ?_
                                  refine g_callv (X := _) (As := [.int x1, .int (Int32.ofInt 0), .ref (A 165), .ref (A 166)]) (r := []) (b := A 109) (q := 109) 65 (gd rfl) rfl rfl rfl rfl rfl (ww_o rfl) (Nat.le_of_ble_eq_true rfl) (Nat.zero_le _) (Nat.zero_le _) (k_370_109_165_166 (by first | exact dq1 hd rfl | exact dq0 hd rfl | exact dq2 hd rfl | exact dq3 hd rfl | omega) hI43x3x18 (in_w 0 31 i3x9 rfl) (in_w 0 0 (in_c 0 rfl) rfl)) (fun e u h => h) (fun v u h => ?_)
                                  obtain ⟨s62, hI62, hF62, rfl, rfl⟩ := h
                                  show GG _ _ _ _ _ _ _ _ [] _ _ _
                                  refine g_aload_n 66 (gd rfl) rfl rfl ?_
                                  refine g_iload_n 67 (gd rfl) rfl rfl ?_
                                  refine g_iconst 1 68 (gd rfl) rfl rfl ?_
                                  refine g_aload_n 69 (gd rfl) rfl rfl ?_
                                  refine g_getA (q2 := 167) 72 (gd rfl) rfl rfl rfl rfl ?_
                                  refine g_aload_n 73 (gd rfl) rfl rfl ?_
                                  refine g_getA (q2 := 168) 76 (gd rfl) rfl rfl rfl rfl ?_
                                  refine g_callv (X := _) (As := [.int x2, .int (Int32.ofInt 1), .ref (A 167), .ref (A 168)]) (r := []) (b := A 109) (q := 109) 79 (gd rfl) rfl rfl rfl rfl rfl (ww_o rfl) (Nat.le_of_ble_eq_true rfl) (Nat.zero_le _) (Nat.zero_le _) (k_370_109_167_168 (by first | exact dq1 hd rfl | exact dq0 hd rfl | exact dq2 hd rfl | exact dq3 hd rfl | omega) hI62 (in_w 0 31 i11x9 rfl) (in_w 1 1 (in_c 1 rfl) rfl)) (fun e u h => h) (fun v u h => ?_)
                                  obtain ⟨s76, hI76, hF76, rfl, rfl⟩ := h
                                  show GG _ _ _ _ _ _ _ _ [] _ _ _
                                  refine g_iload_n 80 (gd rfl) rfl rfl ?_
                                  refine g_if_ne 83 90 (gd rfl) rfl rfl (fun c80 => ?_) (fun c80 => ?_)
                                  · skip
                                    have i80 := z_ne 1 2 c80 i23x10b rfl
                                    refine g_iload_n 91 (gd rfl) rfl rfl ?_
                                    refine g_iconst 1 92 (gd rfl) rfl rfl ?_
                                    refine g_cmp_ne 95 103 (gd rfl) rfl rfl (fun c92 => ?_) (fun c92 => ?_)
                                    · skip
                                      have i92 := r_ne1 2 2 c92 i80 (in_c 1 rfl) rfl
                                      refine g_aload_n 104 (gd rfl) rfl rfl ?_
                                      refine g_getA (q2 := 165) 107 (gd rfl) rfl rfl rfl rfl ?_
                                      refine g_iload 109 (gd rfl) rfl rfl ?_
                                      refine g_iaload 110 (gd rfl) rfl (n := 32) rfl (in_ix i32x9 rfl) (fun z109 e109 => ?_)
                                      refine g_if_lt 113 151 (gd rfl) rfl rfl (fun c110 => ?_) (fun c110 => ?_)
                                      · skip
                                        have i110 := z_lt (-2147483648) (-1) c110 (i_rng z109) rfl
                                        exact gg_w (by first | exact Nat.le_of_ble_eq_true rfl | omega) (gg_f (gf_cons rfl (gf_cons rfl (gf_cons rfl (gf_cons rfl (gf_cons rfl gf_nil))))) (ct151 s76  hI76 (fr_tr rfl (fr_tr rfl (fr_sF rfl fr_rf) hF62) hF76) (in_w 0 31 i3x9 rfl) (in_w 0 31 i11x9 rfl) (in_w 2 2 i92 rfl) (in_w 0 31 i32x9 rfl) c80))
                                      · skip
                                        have i110 := z_ge 0 2147483647 c110 (i_rng z109) rfl
                                        refine g_aload_n 114 (gd rfl) rfl rfl ?_
                                        refine g_getA (q2 := 167) 117 (gd rfl) rfl rfl rfl rfl ?_
                                        refine g_iload 119 (gd rfl) rfl rfl ?_
                                        refine g_iaload 120 (gd rfl) rfl (n := 32) rfl (in_ix i32x9 rfl) (fun z119 e119 => ?_)
                                        refine g_if_lt 123 151 (gd rfl) rfl rfl (fun c120 => ?_) (fun c120 => ?_)
                                        · skip
                                          have i120 := z_lt (-2147483648) (-1) c120 (i_rng z119) rfl
                                          exact gg_w (by first | exact Nat.le_of_ble_eq_true rfl | omega) (gg_f (gf_cons rfl (gf_cons rfl (gf_cons rfl (gf_cons rfl (gf_cons rfl gf_nil))))) (ct151 s76  hI76 (fr_tr rfl (fr_tr rfl (fr_sF rfl fr_rf) hF62) hF76) (in_w 0 31 i3x9 rfl) (in_w 0 31 i11x9 rfl) (in_w 2 2 i92 rfl) (in_w 0 31 i32x9 rfl) c80))
                                        · skip
                                          have i120 := z_ge 0 2147483647 c120 (i_rng z119) rfl
                                          refine g_aload_n 124 (gd rfl) rfl rfl ?_
                                          refine g_getA (q2 := 165) 127 (gd rfl) rfl rfl rfl rfl ?_
                                          refine g_iload 129 (gd rfl) rfl rfl ?_
                                          refine g_iaload 130 (gd rfl) rfl (n := 32) rfl (in_ix i32x9 rfl) (fun z129 e129 => ?_)
                                          have q129 : z109 = z129 := (e109).trans e129.symm
                                          subst q129
                                          refine g_aload_n 131 (gd rfl) rfl rfl ?_
                                          refine g_getA (q2 := 167) 134 (gd rfl) rfl rfl rfl rfl ?_
                                          refine g_iload 136 (gd rfl) rfl rfl ?_
                                          refine g_iaload 137 (gd rfl) rfl (n := 32) rfl (in_ix i32x9 rfl) (fun z136 e136 => ?_)
                                          have q136 : z119 = z136 := (e119).trans e136.symm
                                          subst q136
                                          refine g_iadd 138 (gd rfl) rfl (fun z137 e137 => ?_)
                                          refine g_aload_n 139 (gd rfl) rfl rfl ?_
                                          refine g_getA (q2 := 165) 142 (gd rfl) rfl rfl rfl rfl ?_
                                          refine g_iload_n 143 (gd rfl) rfl rfl ?_
                                          refine g_iaload 144 (gd rfl) rfl (n := 32) rfl (in_ix i11x9 rfl) (fun z143 e143 => ?_)
                                          refine g_cmp_ne 147 151 (gd rfl) rfl rfl (fun c144 => ?_) (fun c144 => ?_)
                                          · skip
                                            exact gg_w (by first | exact Nat.le_of_ble_eq_true rfl | omega) (gg_f (gf_cons rfl (gf_cons rfl (gf_cons rfl (gf_cons rfl (gf_cons rfl gf_nil))))) (ct151 s76  hI76 (fr_tr rfl (fr_tr rfl (fr_sF rfl fr_rf) hF62) hF76) (in_w 0 31 i3x9 rfl) (in_w 0 31 i11x9 rfl) (in_w 2 2 i92 rfl) (in_w 0 31 i32x9 rfl) c80))
                                          · skip
                                            refine g_iconst 1 148 (gd rfl) rfl rfl ?_
                                            refine g_goto 152 (gd rfl) rfl ?_
                                            refine g_istore 154 (gd rfl) rfl (Nat.le_of_ble_eq_true rfl) ?_
                                            refine g_iload 156 (gd rfl) rfl rfl ?_
                                            refine g_if_eq 159 182 (gd rfl) rfl rfl (fun c156 => ?_) (fun c156 => ?_)
                                            · skip
                                              exact zn_eq c156 (in_c 1 rfl) rfl
                                            · skip
                                              refine g_aload_n 160 (gd rfl) rfl rfl ?_
                                              refine g_getA (q2 := 166) 163 (gd rfl) rfl rfl rfl rfl ?_
                                              refine g_iload 165 (gd rfl) rfl rfl ?_
                                              refine g_laload 166 (gd rfl) rfl (n := 32) rfl (in_ix i32x9 rfl) (fun z165 e165 => ?_)
                                              refine g_aload_n 167 (gd rfl) rfl rfl ?_
                                              refine g_getA (q2 := 168) 170 (gd rfl) rfl rfl rfl rfl ?_
                                              refine g_iload 172 (gd rfl) rfl rfl ?_
                                              refine g_laload 173 (gd rfl) rfl (n := 32) rfl (in_ix i32x9 rfl) (fun z172 e172 => ?_)
                                              refine g_lmul 174 (gd rfl) rfl (fun z173 e173 => ?_)
                                              refine g_ldc2_w 1000000007 177 (gd rfl) rfl rfl ?_
                                              refine g_lrem 178 (gd rfl) rfl (by decide) (fun z177 e177 => ?_)
                                              have i177 := l_rem (-1000000006) 1000000006 e177 rfl
                                              refine g_l2i 179 (gd rfl) rfl (fun z178 e178 => ?_)
                                              refine g_goto 183 (gd rfl) rfl ?_
                                              exact g_ireturn (gd rfl) rfl rfl (hP _ _ ⟨s76, hI76, (fr_tr rfl (fr_tr rfl (fr_sF rfl fr_rf) hF62) hF76), z178, rfl, rfl, in_w (-2147483648) 2147483647 (i_rng z178) rfl⟩)
                                    · skip
                                      have i92 := r_eq1 1 1 c92 i80 (in_c 1 rfl) rfl
                                      refine g_aload_n 96 (gd rfl) rfl rfl ?_
                                      refine g_getA (q2 := 166) 99 (gd rfl) rfl rfl rfl rfl ?_
                                      refine g_iload_n 100 (gd rfl) rfl rfl ?_
                                      refine g_laload 101 (gd rfl) rfl (n := 32) rfl (in_ix i11x9 rfl) (fun z100 e100 => ?_)
                                      refine g_l2i 102 (gd rfl) rfl (fun z101 e101 => ?_)
                                      exact g_ireturn (gd rfl) rfl rfl (hP _ _ ⟨s76, hI76, (fr_tr rfl (fr_tr rfl (fr_sF rfl fr_rf) hF62) hF76), z101, rfl, rfl, in_w (-2147483648) 2147483647 (i_rng z101) rfl⟩)
                                  · skip
                                    have i80 := z_eq 0 0 c80 i23x10b rfl
                                    refine g_aload_n 84 (gd rfl) rfl rfl ?_
                                    refine g_getA (q2 := 165) 87 (gd rfl) rfl rfl rfl rfl ?_
                                    refine g_iload_n 88 (gd rfl) rfl rfl ?_
                                    refine g_iaload 89 (gd rfl) rfl (n := 32) rfl (in_ix i11x9 rfl) (fun z88 e88 => ?_)
                                    exact g_ireturn (gd rfl) rfl rfl (hP _ _ ⟨s76, hI76, (fr_tr rfl (fr_tr rfl (fr_sF rfl fr_rf) hF62) hF76), z88, rfl, rfl, in_w (-2147483648) 2147483647 (i_rng z88) rfl⟩)
                                · skip
                                  exact zn_ne c46 (in_c 0 rfl) rfl
                              · skip
                                exact zn_gt c43x3x25 (in_c 0 rfl) rfl
                            · skip
                              exact zn_eq c43x3x10 (in_c 1 rfl) rfl
                          · skip
                            exact zn_eq c43x3x2 (in_c 1 rfl) rfl

/-- GraphHouseModel.gainIn -/
theorem k_373 {Z : AmZ} {A : Nat → Nat} {s : GS} {ex : va_W} {d : Nat} {X : AmX} {x1 : Int32} {x2 : Int32} (hd : 3 ≤ d) (hI : Inv s) (h1 : In x1 0 31) : GC Z d 373 [.ref (A 109), .int x1, .int x2] (WW Z A s ++ ex) 0 0 (fun v u => ∃ z : Int64, v = some (.long z) ∧ u = WW Z A s ++ ex) X := by
  intro post xp hP hX
  obtain ⟨u_109_20, e_109_20⟩ : ∃ w, w = s.2.2.1 109 20 := ⟨_, rfl⟩
  have ro_109_20 := inv_F hI 0 32 rfl e_109_20
  obtain ⟨u_109_80, e_109_80⟩ : ∃ w, w = s.2.2.1 109 80 := ⟨_, rfl⟩
  have ro_109_80 := inv_F hI 0 160 rfl e_109_80
  have ct5 : ∀ (k5 : Nat) (y5_3 : Int64) (y5_5 : Int32), (In y5_5 0 32) → 32 - (y5_5).toInt < (k5 : Int) → GG Z (d - 1) 373 post (gx xp) (1 + k5 * 900) 5 (fun j => xlook j [(0, .ref (A 109)), (1, .int x1), (2, .int x2), (3, .long y5_3), (5, .int y5_5)]) [] (WW Z A s ++ ex) 0 0 := by
    intro k5
    induction k5 with
    | zero => intro y5_3 y5_5 j5_5 mm5; exact m_no mm5 j5_5 rfl
    | succ k5 ih5 =>
      intro y5_3 y5_5 j5_5 mm5
      refine gg_w (M := 1 + k5 * 900 + 900) gws ?_
      refine g_iload 7 (gd rfl) rfl rfl ?_
      refine g_aload_n 8 (gd rfl) rfl rfl ?_
      refine g_getI 11 (gd rfl) rfl rfl rfl (fun z8 e8 => ?_)
      have q8 : u_109_20 = z8 := (e_109_20).trans e8.symm
      subst q8
      refine g_cmp_ge 14 51 (gd rfl) rfl rfl (fun c11 => ?_) (fun c11 => ?_)
      · skip
        refine g_lload_n 52 (gd rfl) rfl rfl ?_
        exact g_lreturn (gd rfl) rfl (hP _ _ ⟨y5_3, rfl, rfl⟩)
      · skip
        have i11 := r_lt1 0 31 c11 j5_5 ro_109_20 rfl
        have i11a := r_lt2 1 32 c11 j5_5 ro_109_20 rfl
        refine g_lload_n 15 (gd rfl) rfl rfl ?_
        refine g_iload 17 (gd rfl) rfl rfl ?_
        refine g_iload_n 18 (gd rfl) rfl rfl ?_
        refine g_cmp_eq 21 42 (gd rfl) rfl rfl (fun c18 => ?_) (fun c18 => ?_)
        · skip
          refine g_lconst 0 43 (gd rfl) rfl rfl ?_
          refine g_ladd 44 (gd rfl) rfl (fun z43 e43 => ?_)
          refine g_lstore_n 45 (gd rfl) rfl (Nat.le_of_ble_eq_true rfl) ?_
          refine g_iinc 48 (gd rfl) rfl rfl (Nat.le_of_ble_eq_true rfl) (fun z45 e45 => ?_)
          have i45 := in_add 1 32 e45 i11 (in_c 1 rfl) rfl rfl
          refine g_goto 5 (gd rfl) rfl ?_
          exact gg_w (by first | exact Nat.le_add_right _ _ | exact gw2 | exact gw3 | exact gwe rfl | exact gwf rfl | exact gwg rfl | exact gwh rfl | omega) (gg_f (gf_cons rfl (gf_cons rfl (gf_cons rfl (gf_cons rfl (gf_cons rfl gf_nil))))) (ih5  z43 z45  (in_w 0 32 i45 rfl) (m_up mm5 (t_add e45 i11 (in_c 1 rfl) rfl) (in_w 1 1 (in_c 1 rfl) rfl))))
        · skip
          refine g_aload_n 22 (gd rfl) rfl rfl ?_
          refine g_getA (q2 := 169) 25 (gd rfl) rfl rfl rfl rfl ?_
          refine g_iload 27 (gd rfl) rfl rfl ?_
          refine g_iaload 28 (gd rfl) rfl (n := 32) rfl (in_ix i11 rfl) (fun z27 e27 => ?_)
          refine g_iload_n 29 (gd rfl) rfl rfl ?_
          refine g_cmp_ne 32 42 (gd rfl) rfl rfl (fun c29 => ?_) (fun c29 => ?_)
          · skip
            refine g_lconst 0 43 (gd rfl) rfl rfl ?_
            refine g_ladd 44 (gd rfl) rfl (fun z43 e43 => ?_)
            refine g_lstore_n 45 (gd rfl) rfl (Nat.le_of_ble_eq_true rfl) ?_
            refine g_iinc 48 (gd rfl) rfl rfl (Nat.le_of_ble_eq_true rfl) (fun z45 e45 => ?_)
            have i45 := in_add 1 32 e45 i11 (in_c 1 rfl) rfl rfl
            refine g_goto 5 (gd rfl) rfl ?_
            exact gg_w (by first | exact Nat.le_add_right _ _ | exact gw2 | exact gw3 | exact gwe rfl | exact gwf rfl | exact gwg rfl | exact gwh rfl | omega) (gg_f (gf_cons rfl (gf_cons rfl (gf_cons rfl (gf_cons rfl (gf_cons rfl gf_nil))))) (ih5  z43 z45  (in_w 0 32 i45 rfl) (m_up mm5 (t_add e45 i11 (in_c 1 rfl) rfl) (in_w 1 1 (in_c 1 rfl) rfl))))
          · skip
            refine g_aload_n 33 (gd rfl) rfl rfl ?_
            refine g_iload_n 34 (gd rfl) rfl rfl ?_
            refine g_iload 36 (gd rfl) rfl rfl ?_
            refine g_callv (X := _) (As := [.int x1, .int y5_5]) (r := [.long y5_3]) (b := A 109) (q := 109) 39 (gd rfl) rfl rfl rfl rfl rfl (ww_o rfl) (Nat.le_of_ble_eq_true rfl) (mc := 0) (ms := 0) (Nat.zero_le _) (Nat.zero_le _) (P := fun v u => _) ?_ (fun e u h => h) (fun v u h => h)
            intro po36 xx36 hp36 hx36
            refine g_enter2 (k := 372) (N := 300) (by first | exact dq1 hd rfl | exact dq0 hd rfl | exact dq2 hd rfl | exact dq3 hd rfl | omega) rfl (Nat.le_of_ble_eq_true rfl) ?_
            refine g_ldc2_w 2 3 (gd rfl) rfl rfl ?_
            refine g_aload_n 4 (gd rfl) rfl rfl ?_
            refine g_getI 7 (gd rfl) rfl rfl rfl (fun z36x4 e36x4 => ?_)
            have q36x4 : u_109_80 = z36x4 := (e_109_80).trans e36x4.symm
            subst q36x4
            refine g_i2l 8 (gd rfl) rfl (fun z36x7 e36x7 => ?_)
            have i36x7 := l_i e36x7 ro_109_80
            refine g_lmul 9 (gd rfl) rfl (fun z36x8 e36x8 => ?_)
            have i36x8 := l_mulc 2 0 320 (Or.inl e36x8) i36x7 rfl
            refine g_aload_n 10 (gd rfl) rfl rfl ?_
            refine g_getA (q2 := 171) 13 (gd rfl) rfl rfl rfl rfl ?_
            refine g_bipush 32 15 (gd rfl) rfl rfl ?_
            refine g_iload_n 16 (gd rfl) rfl rfl ?_
            refine g_imul 17 (gd rfl) rfl (fun z36x16 e36x16 => ?_)
            have i36x16 := in_mulc 32 0 992 (Or.inl e36x16) h1 rfl rfl
            refine g_iload_n 18 (gd rfl) rfl rfl ?_
            refine g_iadd 19 (gd rfl) rfl (fun z36x18 e36x18 => ?_)
            have i36x18 := in_add 0 1023 e36x18 i36x16 i11 rfl rfl
            refine g_iaload 20 (gd rfl) rfl (n := 1024) rfl (in_ix i36x18 rfl) (fun z36x19 e36x19 => ?_)
            refine g_i2l 21 (gd rfl) rfl (fun z36x20 e36x20 => ?_)
            have i36x20 := l_i e36x20 (i_rng z36x19)
            refine g_lmul 22 (gd rfl) rfl (fun z36x21 e36x21 => ?_)
            refine g_aload_n 23 (gd rfl) rfl rfl ?_
            refine g_getA (q2 := 170) 26 (gd rfl) rfl rfl rfl rfl ?_
            refine g_iload_n 27 (gd rfl) rfl rfl ?_
            refine g_iaload 28 (gd rfl) rfl (n := 32) rfl (in_ix h1 rfl) (fun z36x27 e36x27 => ?_)
            refine g_i2l 29 (gd rfl) rfl (fun z36x28 e36x28 => ?_)
            have i36x28 := l_i e36x28 (i_rng z36x27)
            refine g_aload_n 30 (gd rfl) rfl rfl ?_
            refine g_getA (q2 := 170) 33 (gd rfl) rfl rfl rfl rfl ?_
            refine g_iload_n 34 (gd rfl) rfl rfl ?_
            refine g_iaload 35 (gd rfl) rfl (n := 32) rfl (in_ix i11 rfl) (fun z36x34 e36x34 => ?_)
            refine g_i2l 36 (gd rfl) rfl (fun z36x35 e36x35 => ?_)
            have i36x35 := l_i e36x35 (i_rng z36x34)
            refine g_lmul 37 (gd rfl) rfl (fun z36x36 e36x36 => ?_)
            refine g_lsub 38 (gd rfl) rfl (fun z36x37 e36x37 => ?_)
            refine g_lreturn (gd rfl) rfl (hp36 _ _ ?_)
            show GG _ _ _ _ _ _ _ _ [.long z36x37, .long y5_3] _ _ _
            refine g_goto 43 (gd rfl) rfl ?_
            refine g_ladd 44 (gd rfl) rfl (fun z43 e43 => ?_)
            refine g_lstore_n 45 (gd rfl) rfl (Nat.le_of_ble_eq_true rfl) ?_
            refine g_iinc 48 (gd rfl) rfl rfl (Nat.le_of_ble_eq_true rfl) (fun z45 e45 => ?_)
            have i45 := in_add 1 32 e45 i11 (in_c 1 rfl) rfl rfl
            refine g_goto 5 (gd rfl) rfl ?_
            exact gg_w (by first | exact Nat.le_add_right _ _ | exact gw2 | exact gw3 | exact gwe rfl | exact gwf rfl | exact gwg rfl | exact gwh rfl | omega) (gg_f (gf_cons rfl (gf_cons rfl (gf_cons rfl (gf_cons rfl (gf_cons rfl gf_nil))))) (ih5  z43 z45  (in_w 0 32 i45 rfl) (m_up mm5 (t_add e45 i11 (in_c 1 rfl) rfl) (in_w 1 1 (in_c 1 rfl) rfl))))
  refine g_enter2 (k := 373) (N := 30601) (by first | exact dq1 hd rfl | exact dq0 hd rfl | exact dq2 hd rfl | exact dq3 hd rfl | omega) rfl (Nat.le_of_ble_eq_true rfl) ?_
  refine g_lconst 0 1 (gd rfl) rfl rfl ?_
  refine g_lstore_n 2 (gd rfl) rfl (Nat.le_of_ble_eq_true rfl) ?_
  refine g_iconst 0 3 (gd rfl) rfl rfl ?_
  refine g_istore 5 (gd rfl) rfl (Nat.le_of_ble_eq_true rfl) ?_
  exact gg_w (by first | exact Nat.le_of_ble_eq_true rfl | omega) (gg_f (gf_cons rfl (gf_cons rfl (gf_cons rfl (gf_cons rfl (gf_cons rfl gf_nil))))) (ct5 33  (Int64.ofInt 0) (Int32.ofInt 0)  (in_w 0 32 (in_c 0 rfl) rfl) (m_in 33 (in_w 0 32 (in_c 0 rfl) rfl) rfl)))

/-- GraphHouseModel.leastOf -/
theorem k_375 {Z : AmZ} {A : Nat → Nat} {s : GS} {ex : va_W} {d : Nat} {X : AmX} {x1 : Int32} {x2 : Int32} (hd : 1 ≤ d) (hI : Inv s) (h2 : In x2 (-1) 31) : GC Z d 375 [.ref (A 109), .int x1, .int x2] (WW Z A s ++ ex) 0 0 (fun v u => ∃ z : Int32, v = some (.int z) ∧ u = WW Z A s ++ ex ∧ In z 0 40 ∧ ((z).toInt < 40 → ∃ v : Nat, v < 32 ∧ s.1 169 v = x1)) X := by
  intro post xp hP hX
  obtain ⟨u_109_20, e_109_20⟩ : ∃ w, w = s.2.2.1 109 20 := ⟨_, rfl⟩
  have ro_109_20 := inv_F hI 0 32 rfl e_109_20
  have ct11 : ∀ (k11 : Nat) (y11_3 : Int32) (y11_4 : Int32), (In y11_3 0 40) → (In y11_4 (-1) 31) → ((y11_3).toInt < 40 → ∃ v : Nat, v < 32 ∧ s.1 169 v = x1) → (y11_4).toInt - (-1) < (k11 : Int) → GG Z (d - 1) 375 post (gx xp) (1 + k11 * 900) 11 (fun j => xlook j [(0, .ref (A 109)), (1, .int x1), (2, .int x2), (3, .int y11_3), (4, .int y11_4)]) [] (WW Z A s ++ ex) 0 0 := by
    intro k11
    induction k11 with
    | zero => intro y11_3 y11_4 j11_3 j11_4 g11_0 mm11; exact m_nod mm11 j11_4 rfl
    | succ k11 ih11 =>
      intro y11_3 y11_4 j11_3 j11_4 g11_0 mm11
      refine gg_w (M := 1 + k11 * 900 + 900) gws ?_
      refine g_iload 13 (gd rfl) rfl rfl ?_
      refine g_if_lt 16 46 (gd rfl) rfl rfl (fun c13 => ?_) (fun c13 => ?_)
      · skip
        have i13 := z_lt (-1) (-1) c13 j11_4 rfl
        refine g_iload_n 47 (gd rfl) rfl rfl ?_
        have n47 : (y11_3).toInt < 40 → ∃ v : Nat, v < 32 ∧ s.1 169 v = x1 := by exact g11_0
        exact g_ireturn (gd rfl) rfl rfl (hP _ _ ⟨y11_3, rfl, rfl, in_w 0 40 j11_3 rfl, n47⟩)
      · skip
        have i13 := z_ge 0 31 c13 j11_4 rfl
        refine g_aload_n 17 (gd rfl) rfl rfl ?_
        refine g_getA (q2 := 169) 20 (gd rfl) rfl rfl rfl rfl ?_
        refine g_iload 22 (gd rfl) rfl rfl ?_
        refine g_iaload 23 (gd rfl) rfl (n := 32) rfl (in_ix i13 rfl) (fun z22 e22 => ?_)
        refine g_iload_n 24 (gd rfl) rfl rfl ?_
        refine g_cmp_ne 27 38 (gd rfl) rfl rfl (fun c24 => ?_) (fun c24 => ?_)
        · skip
          refine g_iload_n 39 (gd rfl) rfl rfl ?_
          refine g_istore_n 40 (gd rfl) rfl (Nat.le_of_ble_eq_true rfl) ?_
          refine g_iinc 43 (gd rfl) rfl rfl (Nat.le_of_ble_eq_true rfl) (fun z40 e40 => ?_)
          have i40 := in_add (-1) 30 e40 i13 (in_c (-1) rfl) rfl rfl
          refine g_goto 11 (gd rfl) rfl ?_
          have n11 : (y11_3).toInt < 40 → ∃ v : Nat, v < 32 ∧ s.1 169 v = x1 := by first | exact g11_0 | (intro h; exact absurd h (by decide)) | (intro _; refine ⟨y11_4.toNatClampNeg, by show y11_4.toInt.toNat < 32; (first | have a0 := in_u h2 | (have a0 := h2; unfold In at a0)); (first | have a1 := in_u ro_109_20 | (have a1 := ro_109_20; unfold In at a1)); (first | have a2 := in_u i13 | (have a2 := i13; unfold In at a2)); (first | have a3 := in_u j11_3 | (have a3 := j11_3; unfold In at a3)); (first | have a4 := in_u i40 | (have a4 := i40; unfold In at a4)); have a5 := t_add e40 i13 (in_c (-1) rfl) rfl; (first | have a6 := in_u ((in_c (-1) rfl)) | (have a6 := (in_c (-1) rfl); unfold In at a6)); (first | exact zt_l (by decide) (by omega) | omega), ?_⟩; exact e22.symm.trans (Int32.toInt_inj.mp c24))
          exact gg_w (by first | exact Nat.le_add_right _ _ | exact gw2 | exact gw3 | exact gwe rfl | exact gwf rfl | exact gwg rfl | exact gwh rfl | omega) (gg_f (gf_cons rfl (gf_cons rfl (gf_cons rfl (gf_cons rfl (gf_cons rfl gf_nil))))) (ih11  y11_3 z40  (in_w 0 40 j11_3 rfl) (in_w (-1) 31 i40 rfl) n11 (m_dn mm11 (t_add e40 i13 (in_c (-1) rfl) rfl) (in_w (-1) (-1) (in_c (-1) rfl) rfl))))
        · skip
          refine g_iload 29 (gd rfl) rfl rfl ?_
          refine g_iload_n 30 (gd rfl) rfl rfl ?_
          refine g_cmp_eq 33 38 (gd rfl) rfl rfl (fun c30 => ?_) (fun c30 => ?_)
          · skip
            have i30 := r_eq2 0 31 c30 i13 h2 rfl
            refine g_iload_n 39 (gd rfl) rfl rfl ?_
            refine g_istore_n 40 (gd rfl) rfl (Nat.le_of_ble_eq_true rfl) ?_
            refine g_iinc 43 (gd rfl) rfl rfl (Nat.le_of_ble_eq_true rfl) (fun z40 e40 => ?_)
            have i40 := in_add (-1) 30 e40 i13 (in_c (-1) rfl) rfl rfl
            refine g_goto 11 (gd rfl) rfl ?_
            have n11 : (y11_3).toInt < 40 → ∃ v : Nat, v < 32 ∧ s.1 169 v = x1 := by first | exact g11_0 | (intro h; exact absurd h (by decide)) | (intro _; refine ⟨y11_4.toNatClampNeg, by show y11_4.toInt.toNat < 32; (first | have a0 := in_u i30 | (have a0 := i30; unfold In at a0)); (first | have a1 := in_u ro_109_20 | (have a1 := ro_109_20; unfold In at a1)); (first | have a2 := in_u i13 | (have a2 := i13; unfold In at a2)); (first | have a3 := in_u j11_3 | (have a3 := j11_3; unfold In at a3)); (first | have a4 := in_u i40 | (have a4 := i40; unfold In at a4)); have a5 := t_add e40 i13 (in_c (-1) rfl) rfl; (first | have a6 := in_u ((in_c (-1) rfl)) | (have a6 := (in_c (-1) rfl); unfold In at a6)); (first | exact zt_l (by decide) (by omega) | omega), ?_⟩; exact e22.symm.trans (Int32.toInt_inj.mp c24))
            exact gg_w (by first | exact Nat.le_add_right _ _ | exact gw2 | exact gw3 | exact gwe rfl | exact gwf rfl | exact gwg rfl | exact gwh rfl | omega) (gg_f (gf_cons rfl (gf_cons rfl (gf_cons rfl (gf_cons rfl (gf_cons rfl gf_nil))))) (ih11  y11_3 z40  (in_w 0 40 j11_3 rfl) (in_w (-1) 31 i40 rfl) n11 (m_dn mm11 (t_add e40 i13 (in_c (-1) rfl) rfl) (in_w (-1) (-1) (in_c (-1) rfl) rfl))))
          · skip
            refine g_iload 35 (gd rfl) rfl rfl ?_
            refine g_goto 39 (gd rfl) rfl ?_
            refine g_istore_n 40 (gd rfl) rfl (Nat.le_of_ble_eq_true rfl) ?_
            refine g_iinc 43 (gd rfl) rfl rfl (Nat.le_of_ble_eq_true rfl) (fun z40 e40 => ?_)
            have i40 := in_add (-1) 30 e40 i13 (in_c (-1) rfl) rfl rfl
            refine g_goto 11 (gd rfl) rfl ?_
            have n11 : (y11_4).toInt < 40 → ∃ v : Nat, v < 32 ∧ s.1 169 v = x1 := by first | exact g11_0 | (intro h; exact absurd h (by decide)) | (intro _; refine ⟨y11_4.toNatClampNeg, by show y11_4.toInt.toNat < 32; (first | have a0 := in_u h2 | (have a0 := h2; unfold In at a0)); (first | have a1 := in_u ro_109_20 | (have a1 := ro_109_20; unfold In at a1)); (first | have a2 := in_u i13 | (have a2 := i13; unfold In at a2)); (first | have a3 := in_u j11_3 | (have a3 := j11_3; unfold In at a3)); (first | have a4 := in_u i40 | (have a4 := i40; unfold In at a4)); have a5 := t_add e40 i13 (in_c (-1) rfl) rfl; (first | have a6 := in_u ((in_c (-1) rfl)) | (have a6 := (in_c (-1) rfl); unfold In at a6)); (first | exact zt_l (by decide) (by omega) | omega), ?_⟩; exact e22.symm.trans (Int32.toInt_inj.mp c24))
            exact gg_w (by first | exact Nat.le_add_right _ _ | exact gw2 | exact gw3 | exact gwe rfl | exact gwf rfl | exact gwg rfl | exact gwh rfl | omega) (gg_f (gf_cons rfl (gf_cons rfl (gf_cons rfl (gf_cons rfl (gf_cons rfl gf_nil))))) (ih11  y11_4 z40  (in_w 0 40 i13 rfl) (in_w (-1) 31 i40 rfl) n11 (m_dn mm11 (t_add e40 i13 (in_c (-1) rfl) rfl) (in_w (-1) (-1) (in_c (-1) rfl) rfl))))
  refine g_enter2 (k := 375) (N := 30601) (by first | exact dq1 hd rfl | exact dq0 hd rfl | exact dq2 hd rfl | exact dq3 hd rfl | omega) rfl (Nat.le_of_ble_eq_true rfl) ?_
  refine g_bipush 40 2 (gd rfl) rfl rfl ?_
  refine g_istore_n 3 (gd rfl) rfl (Nat.le_of_ble_eq_true rfl) ?_
  refine g_aload_n 4 (gd rfl) rfl rfl ?_
  refine g_getI 7 (gd rfl) rfl rfl rfl (fun z4 e4 => ?_)
  have q4 : u_109_20 = z4 := (e_109_20).trans e4.symm
  subst q4
  refine g_iconst 1 8 (gd rfl) rfl rfl ?_
  refine g_isub 9 (gd rfl) rfl (fun z8 e8 => ?_)
  have i8 := in_sub (-1) 31 e8 ro_109_20 (in_c 1 rfl) rfl rfl
  refine g_istore 11 (gd rfl) rfl (Nat.le_of_ble_eq_true rfl) ?_
  have n11 : ((Int32.ofInt 40)).toInt < 40 → ∃ v : Nat, v < 32 ∧ s.1 169 v = x1 := by first | exact g11_0 | (intro h; exact absurd h (by decide)) | (intro _; refine ⟨y11_4.toNatClampNeg, by show y11_4.toInt.toNat < 32; (first | have a0 := in_u ro_109_20 | (have a0 := ro_109_20; unfold In at a0)); (first | have a1 := in_u h2 | (have a1 := h2; unfold In at a1)); (first | have a2 := in_u i8 | (have a2 := i8; unfold In at a2)); have a3 := t_sub e8 ro_109_20 (in_c 1 rfl) rfl; (first | have a4 := in_u ((in_c 1 rfl)) | (have a4 := (in_c 1 rfl); unfold In at a4)); (first | have a5 := in_u ((in_c 40 rfl)) | (have a5 := (in_c 40 rfl); unfold In at a5)); (first | exact zt_l (by decide) (by omega) | omega), ?_⟩; exact e22.symm.trans (Int32.toInt_inj.mp c24))
  exact gg_w (by first | exact Nat.le_of_ble_eq_true rfl | omega) (gg_f (gf_cons rfl (gf_cons rfl (gf_cons rfl (gf_cons rfl (gf_cons rfl gf_nil))))) (ct11 33  (Int32.ofInt 40) z8  (in_w 0 40 (in_c 40 rfl) rfl) (in_w (-1) 31 i8 rfl) n11 (m_ind 33 (in_w (-1) 31 i8 rfl) rfl)))

/-- GraphHouseModel.freeGroup -/
theorem k_377 {Z : AmZ} {A : Nat → Nat} {s : GS} {ex : va_W} {d : Nat} {X : AmX}  (hd : 2 ≤ d) (hI : Inv s)  : GC Z d 377 [.ref (A 109)] (WW Z A s ++ ex) 0 0 (fun v u => ∃ z : Int32, v = some (.int z) ∧ u = WW Z A s ++ ex ∧ In z 0 32) X := by
  intro post xp hP hX
  have ct2 : ∀ (k2 : Nat) (y2_1 : Int32), (In y2_1 0 32) → ((y2_1).toInt ≤ (cgr (s.1 169) (y2_1).toInt : Int)) → 33 - (y2_1).toInt < (k2 : Int) → GG Z (d - 1) 377 post (gx xp) (1 + k2 * 900) 2 (fun j => xlook j [(0, .ref (A 109)), (1, .int y2_1)]) [] (WW Z A s ++ ex) 0 0 := by
    intro k2
    induction k2 with
    | zero => intro y2_1 j2_1 g2_0 mm2; exfalso; have a0 := j2_1; unfold In at a0; omega
    | succ k2 ih2 =>
      intro y2_1 j2_1 g2_0 mm2
      refine gg_w (M := 1 + k2 * 900 + 900) gws ?_
      refine g_aload_n 3 (gd rfl) rfl rfl ?_
      refine g_iload_n 4 (gd rfl) rfl rfl ?_
      refine g_iconst (-1) 5 (gd rfl) rfl rfl ?_
      refine g_callv (X := _) (As := [.int y2_1, .int (Int32.ofInt (-1))]) (r := []) (b := A 109) (q := 109) 8 (gd rfl) rfl rfl rfl rfl rfl (ww_o rfl) (Nat.le_of_ble_eq_true rfl) (Nat.zero_le _) (Nat.zero_le _) (k_375 (by first | exact dq1 hd rfl | exact dq0 hd rfl | exact dq2 hd rfl | exact dq3 hd rfl | omega) hI (in_w (-1) 31 (in_c (-1) rfl) rfl)) (fun e u h => h) (fun v u h => ?_)
      obtain ⟨z5, rfl, rfl, i5, p5⟩ := h
      show GG _ _ _ _ _ _ _ _ [.int z5] _ _ _
      refine g_bipush 40 10 (gd rfl) rfl rfl ?_
      refine g_cmp_ge 13 19 (gd rfl) rfl rfl (fun c10 => ?_) (fun c10 => ?_)
      · skip
        have i10 := r_le2 40 40 c10 (in_c 40 rfl) i5 rfl
        refine g_iload_n 20 (gd rfl) rfl rfl ?_
        exact g_ireturn (gd rfl) rfl rfl (hP _ _ ⟨y2_1, rfl, rfl, in_w 0 32 j2_1 rfl⟩)
      · skip
        have i10 := r_lt1 0 39 c10 i5 (in_c 40 rfl) rfl
        refine g_iinc 16 (gd rfl) rfl rfl (Nat.le_of_ble_eq_true rfl) (fun z13 e13 => ?_)
        have i13 := in_add 1 33 e13 j2_1 (in_c 1 rfl) rfl rfl
        have n2q : (z13).toInt ≤ (cgr (s.1 169) (z13).toInt : Int) := cgr_s (by have h := j2_1; unfold In at h; omega) (t_add e13 j2_1 (in_c 1 rfl) rfl) (p5 c10) g2_0
        refine g_goto 2 (gd rfl) rfl ?_
        have i2 : In z13 0 32 := by have hc := cgr_le (s.1 169) (z13).toInt; have hq := n2q; exact ⟨by (first | have a0 := in_u j2_1 | (have a0 := j2_1; unfold In at a0)); (first | have a1 := in_u i13 | (have a1 := i13; unfold In at a1)); have a2 := t_add e13 j2_1 (in_c 1 rfl) rfl; (first | have a3 := in_u ((in_c 1 rfl)) | (have a3 := (in_c 1 rfl); unfold In at a3)); omega, by omega⟩
        have n2 : (z13).toInt ≤ (cgr (s.1 169) (z13).toInt : Int) := by first | exact n2q | (show (Int32.ofInt 0).toInt ≤ _; have h0 : (Int32.ofInt 0).toInt = 0 := rfl; omega)
        have m2 : 33 - (z13).toInt < ((k2 : Nat) : Int) := by (first | have a0 := in_u j2_1 | (have a0 := j2_1; unfold In at a0)); (first | have a1 := in_u i2 | (have a1 := i2; unfold In at a1)); have a2 := t_add e13 j2_1 (in_c 1 rfl) rfl; (first | have a3 := in_u ((in_c 1 rfl)) | (have a3 := (in_c 1 rfl); unfold In at a3)); omega
        exact gg_w (by first | exact Nat.le_add_right _ _ | exact gw2 | exact gw3 | exact gwe rfl | exact gwf rfl | exact gwg rfl | exact gwh rfl | omega) (gg_f (gf_cons rfl (gf_cons rfl gf_nil)) (ih2   z13  i2 n2 m2))
  refine g_enter2 (k := 377) (N := 36901) (by first | exact dq1 hd rfl | exact dq0 hd rfl | exact dq2 hd rfl | exact dq3 hd rfl | omega) rfl (Nat.le_of_ble_eq_true rfl) ?_
  refine g_iconst 0 1 (gd rfl) rfl rfl ?_
  refine g_istore_n 2 (gd rfl) rfl (Nat.le_of_ble_eq_true rfl) ?_
  have n2 : ((Int32.ofInt 0)).toInt ≤ (cgr (s.1 169) ((Int32.ofInt 0)).toInt : Int) := by first | exact n2q | (show (Int32.ofInt 0).toInt ≤ _; have h0 : (Int32.ofInt 0).toInt = 0 := rfl; omega)
  have m2 : 33 - ((Int32.ofInt 0)).toInt < ((40 : Nat) : Int) := by (first | have a0 := in_u ((in_c 0 rfl)) | (have a0 := (in_c 0 rfl); unfold In at a0)); omega
  exact gg_w (by first | exact Nat.le_of_ble_eq_true rfl | omega) (gg_f (gf_cons rfl (gf_cons rfl gf_nil)) (ct2 40  (Int32.ofInt 0)  (in_w 0 32 (in_c 0 rfl) rfl) n2 m2))

def fm_380 : FM := ([138], [], [(109, 0)], [])
/-- GraphHouseModel.figures -/
theorem k_380 {Z : AmZ} {A : Nat → Nat} {s : GS} {ex : va_W} {d : Nat} {X : AmX} {x1 : Int32} (hd : 4 ≤ d) (hI : Inv s)  : GC Z d 380 [.ref (A 109), .int x1] (WW Z A s ++ ex) 0 0 (fun v u => ∃ t : GS, Inv t ∧ Fr fm_380 s t ∧ ∃ z : Int64, v = some (.long z) ∧ u = WW Z A t ++ ex) X := by
  intro post xp hP hX
  obtain ⟨u_109_20, e_109_20⟩ : ∃ w, w = s.2.2.1 109 20 := ⟨_, rfl⟩
  have ro_109_20 := inv_F hI 0 32 rfl e_109_20
  have ct25 : ∀ (k25 : Nat) (sc25 : GS) (y25_2 : Int64) (y25_4 : Int32), Inv sc25 → Fr fm_380 s sc25 → (In x1 0 1) → (In y25_4 0 32) → 32 - (y25_4).toInt < (k25 : Int) → GG Z (d - 1) 380 post (gx xp) (1 + k25 * 31501) 25 (fun j => xlook j [(0, .ref (A 109)), (1, .int x1), (2, .long y25_2), (4, .int y25_4)]) [] (WW Z A sc25 ++ ex) 0 0 := by
    intro k25
    induction k25 with
    | zero => intro sc25 y25_2 y25_4 hIc25 hFc25 j25_1 j25_4 mm25; exact m_no mm25 j25_4 rfl
    | succ k25 ih25 =>
      intro sc25 y25_2 y25_4 hIc25 hFc25 j25_1 j25_4 mm25
      refine gg_w (M := 1 + k25 * 31501 + 31501) gws ?_
      have ct40 : ∀ (k40 : Nat) (sc40 : GS) (y40_2 : Int64) (y40_5 : Int32), Inv sc40 → Fr fm_380 s sc40 → (In y25_4 0 31) → (In y40_5 1 32) → 32 - (y40_5).toInt < (k40 : Int) → GG Z (d - 1) 380 post (gx xp) (1 + k25 * 31501 + 1 + k40 * 900) 40 (fun j => xlook j [(0, .ref (A 109)), (1, .int x1), (2, .long y40_2), (4, .int y25_4), (5, .int y40_5)]) [] (WW Z A sc40 ++ ex) 0 0 := by
        intro k40
        induction k40 with
        | zero => intro sc40 y40_2 y40_5 hIc40 hFc40 j40_4 j40_5 mm40; exact m_no mm40 j40_5 rfl
        | succ k40 ih40 =>
          intro sc40 y40_2 y40_5 hIc40 hFc40 j40_4 j40_5 mm40
          refine gg_w (M := 1 + k25 * 31501 + 1 + k40 * 900 + 900) gws ?_
          refine g_iload 42 (gd rfl) rfl rfl ?_
          refine g_aload_n 43 (gd rfl) rfl rfl ?_
          refine g_getI 46 (gd rfl) rfl rfl rfl (fun z43 e43 => ?_)
          have q43 : u_109_20 = z43 := (fr_F e_109_20 hFc40 rfl).trans e43.symm
          subst q43
          refine g_cmp_ge 49 119 (gd rfl) rfl rfl (fun c46 => ?_) (fun c46 => ?_)
          · skip
            refine g_iinc 122 (gd rfl) rfl rfl (Nat.le_of_ble_eq_true rfl) (fun z119 e119 => ?_)
            have i119 := in_add 1 32 e119 j40_4 (in_c 1 rfl) rfl rfl
            refine g_goto 25 (gd rfl) rfl ?_
            exact gg_w (by first | exact Nat.le_add_right _ _ | exact gw2 | exact gw3 | exact gwe rfl | exact gwf rfl | exact gwg rfl | exact gwh rfl | omega) (gg_f (gf_cons rfl (gf_cons rfl (gf_cons rfl (gf_cons rfl gf_nil)))) (ih25 sc40 y40_2 z119 hIc40 hFc40 (in_w 0 1 j25_1 rfl) (in_w 0 32 i119 rfl) (m_up mm25 (t_add e119 j40_4 (in_c 1 rfl) rfl) (in_w 1 1 (in_c 1 rfl) rfl))))
          · skip
            have i46 := r_lt1 1 31 c46 j40_5 ro_109_20 rfl
            have i46a := r_lt2 2 32 c46 j40_5 ro_109_20 rfl
            refine g_aload_n 50 (gd rfl) rfl rfl ?_
            refine g_getA (q2 := 138) 53 (gd rfl) rfl rfl rfl rfl ?_
            refine g_iload 55 (gd rfl) rfl rfl ?_
            refine g_iaload 56 (gd rfl) rfl (n := 32) rfl (in_ix j40_4 rfl) (fun z55 e55 => ?_)
            refine g_aload_n 57 (gd rfl) rfl rfl ?_
            refine g_getA (q2 := 138) 60 (gd rfl) rfl rfl rfl rfl ?_
            refine g_iload 62 (gd rfl) rfl rfl ?_
            refine g_iaload 63 (gd rfl) rfl (n := 32) rfl (in_ix i46 rfl) (fun z62 e62 => ?_)
            refine g_iand 64 (gd rfl) rfl (fun z63 e63 => ?_)
            refine g_calls (As := [.int z63]) (r := []) 67 (gd rfl) rfl rfl rfl rfl rfl (Nat.le_of_ble_eq_true rfl) (Nat.zero_le _) (Nat.zero_le _) (k_336 (by first | exact dq1 hd rfl | exact dq0 hd rfl | exact dq2 hd rfl | exact dq3 hd rfl | omega) hIc40 ) (fun v u h => ?_)
            obtain ⟨z64, rfl, rfl, i64, p64⟩ := h
            show GG _ _ _ _ _ _ _ _ [.int z64] _ _ _
            refine g_i2l 68 (gd rfl) rfl (fun z67 e67 => ?_)
            have i67 := l_i e67 i64
            refine g_lstore 70 (gd rfl) rfl (Nat.le_of_ble_eq_true rfl) ?_
            refine g_lload_n 71 (gd rfl) rfl rfl ?_
            refine g_iload_n 72 (gd rfl) rfl rfl ?_
            refine g_iconst 1 73 (gd rfl) rfl rfl ?_
            refine g_cmp_ne 76 90 (gd rfl) rfl rfl (fun c73 => ?_) (fun c73 => ?_)
            · skip
              have i73 := r_ne1 0 0 c73 j25_1 (in_c 1 rfl) rfl
              refine g_aload_n 91 (gd rfl) rfl rfl ?_
              refine g_getA (q2 := 138) 94 (gd rfl) rfl rfl rfl rfl ?_
              refine g_iload 96 (gd rfl) rfl rfl ?_
              refine g_iaload 97 (gd rfl) rfl (n := 32) rfl (in_ix j40_4 rfl) (fun z96 e96 => ?_)
              have q96 : z55 = z96 := (e55).trans e96.symm
              subst q96
              refine g_iload 99 (gd rfl) rfl rfl ?_
              refine g_calls (As := [.int z55, .int y40_5]) (r := [.long y40_2]) 102 (gd rfl) rfl rfl rfl rfl rfl (Nat.le_of_ble_eq_true rfl) (mc := 0) (ms := 0) (Nat.zero_le _) (Nat.zero_le _) (P := fun v u => _) ?_ (fun v u h => h)
              intro po99 xx99 hp99 hx99
              refine g_enter2 (k := 311) (N := 300) (by first | exact dq1 hd rfl | exact dq0 hd rfl | exact dq2 hd rfl | exact dq3 hd rfl | omega) rfl (Nat.le_of_ble_eq_true rfl) ?_
              refine g_iload_n 1 (gd rfl) rfl rfl ?_
              refine g_iload_n 2 (gd rfl) rfl rfl ?_
              refine g_ishr 3 (gd rfl) rfl (fun z99x2 e99x2 => ?_)
              refine g_iconst 1 4 (gd rfl) rfl rfl ?_
              refine g_iand 5 (gd rfl) rfl (fun z99x4 e99x4 => ?_)
              have i99x4 := in_and2 e99x4 (in_c 1 rfl) rfl
              refine g_iconst 1 6 (gd rfl) rfl rfl ?_
              refine g_cmp_ne 9 13 (gd rfl) rfl rfl (fun c99x6 => ?_) (fun c99x6 => ?_)
              · skip
                have i99x6 := r_ne1 0 0 c99x6 i99x4 (in_c 1 rfl) rfl
                refine g_iconst 0 14 (gd rfl) rfl rfl ?_
                refine g_ireturn (gd rfl) rfl (nb01 (in_w 0 1 (in_c 0 rfl) rfl)) (hp99 _ _ ?_)
                show GG _ _ _ _ _ _ _ _ [.int (Int32.ofInt 0), .long y40_2] _ _ _
                refine g_if_eq 105 110 (gd rfl) rfl rfl (fun c102 => ?_) (fun c102 => ?_)
                · skip
                  refine g_lconst 0 111 (gd rfl) rfl rfl ?_
                  refine g_ladd 112 (gd rfl) rfl (fun z111 e111 => ?_)
                  refine g_lstore_n 113 (gd rfl) rfl (Nat.le_of_ble_eq_true rfl) ?_
                  refine g_iinc 116 (gd rfl) rfl rfl (Nat.le_of_ble_eq_true rfl) (fun z113 e113 => ?_)
                  have i113 := in_add 2 32 e113 i46 (in_c 1 rfl) rfl rfl
                  refine g_goto 40 (gd rfl) rfl ?_
                  exact gg_w (by first | exact Nat.le_add_right _ _ | exact gw2 | exact gw3 | exact gwe rfl | exact gwf rfl | exact gwg rfl | exact gwh rfl | omega) (gg_f (gf_cons rfl (gf_cons rfl (gf_cons rfl (gf_cons rfl (gf_cons rfl gf_nil))))) (ih40 sc40 z111 z113 hIc40 hFc40 (in_w 0 31 j40_4 rfl) (in_w 1 32 i113 rfl) (m_up mm40 (t_add e113 i46 (in_c 1 rfl) rfl) (in_w 1 1 (in_c 1 rfl) rfl))))
                · skip
                  exact zn_ne c102 (in_c 0 rfl) rfl
              · skip
                have i99x6 := r_eq1 1 1 c99x6 i99x4 (in_c 1 rfl) rfl
                refine g_iconst 1 10 (gd rfl) rfl rfl ?_
                refine g_goto 14 (gd rfl) rfl ?_
                refine g_ireturn (gd rfl) rfl (nb01 (in_w 0 1 (in_c 1 rfl) rfl)) (hp99 _ _ ?_)
                show GG _ _ _ _ _ _ _ _ [.int (Int32.ofInt 1), .long y40_2] _ _ _
                refine g_if_eq 105 110 (gd rfl) rfl rfl (fun c102 => ?_) (fun c102 => ?_)
                · skip
                  exact zn_eq c102 (in_c 1 rfl) rfl
                · skip
                  refine g_lload 107 (gd rfl) rfl rfl ?_
                  refine g_goto 111 (gd rfl) rfl ?_
                  refine g_ladd 112 (gd rfl) rfl (fun z111 e111 => ?_)
                  refine g_lstore_n 113 (gd rfl) rfl (Nat.le_of_ble_eq_true rfl) ?_
                  refine g_iinc 116 (gd rfl) rfl rfl (Nat.le_of_ble_eq_true rfl) (fun z113 e113 => ?_)
                  have i113 := in_add 2 32 e113 i46 (in_c 1 rfl) rfl rfl
                  refine g_goto 40 (gd rfl) rfl ?_
                  exact gg_w (by first | exact Nat.le_add_right _ _ | exact gw2 | exact gw3 | exact gwe rfl | exact gwf rfl | exact gwg rfl | exact gwh rfl | omega) (gg_f (gf_cons rfl (gf_cons rfl (gf_cons rfl (gf_cons rfl (gf_cons rfl gf_nil))))) (ih40 sc40 z111 z113 hIc40 hFc40 (in_w 0 31 j40_4 rfl) (in_w 1 32 i113 rfl) (m_up mm40 (t_add e113 i46 (in_c 1 rfl) rfl) (in_w 1 1 (in_c 1 rfl) rfl))))
            · skip
              have i73 := r_eq1 1 1 c73 j25_1 (in_c 1 rfl) rfl
              refine g_lload 78 (gd rfl) rfl rfl ?_
              refine g_lload 80 (gd rfl) rfl rfl ?_
              refine g_lconst 1 81 (gd rfl) rfl rfl ?_
              refine g_lsub 82 (gd rfl) rfl (fun z81 e81 => ?_)
              have i81 := l_sub (-1) 31 e81 i67 (l_c 1 rfl) rfl
              refine g_lmul 83 (gd rfl) rfl (fun z82 e82 => ?_)
              refine g_ldc2_w 2 86 (gd rfl) rfl rfl ?_
              refine g_ldiv 87 (gd rfl) rfl (by decide) (fun z86 e86 => ?_)
              refine g_goto 111 (gd rfl) rfl ?_
              refine g_ladd 112 (gd rfl) rfl (fun z111 e111 => ?_)
              refine g_lstore_n 113 (gd rfl) rfl (Nat.le_of_ble_eq_true rfl) ?_
              refine g_iinc 116 (gd rfl) rfl rfl (Nat.le_of_ble_eq_true rfl) (fun z113 e113 => ?_)
              have i113 := in_add 2 32 e113 i46 (in_c 1 rfl) rfl rfl
              refine g_goto 40 (gd rfl) rfl ?_
              exact gg_w (by first | exact Nat.le_add_right _ _ | exact gw2 | exact gw3 | exact gwe rfl | exact gwf rfl | exact gwg rfl | exact gwh rfl | omega) (gg_f (gf_cons rfl (gf_cons rfl (gf_cons rfl (gf_cons rfl (gf_cons rfl gf_nil))))) (ih40 sc40 z111 z113 hIc40 hFc40 (in_w 0 31 j40_4 rfl) (in_w 1 32 i113 rfl) (m_up mm40 (t_add e113 i46 (in_c 1 rfl) rfl) (in_w 1 1 (in_c 1 rfl) rfl))))
      refine g_iload 27 (gd rfl) rfl rfl ?_
      refine g_aload_n 28 (gd rfl) rfl rfl ?_
      refine g_getI 31 (gd rfl) rfl rfl rfl (fun z28 e28 => ?_)
      have q28 : u_109_20 = z28 := (fr_F e_109_20 hFc25 rfl).trans e28.symm
      subst q28
      refine g_cmp_ge 34 125 (gd rfl) rfl rfl (fun c31 => ?_) (fun c31 => ?_)
      · skip
        refine g_iload_n 126 (gd rfl) rfl rfl ?_
        refine g_if_ne 129 137 (gd rfl) rfl rfl (fun c126 => ?_) (fun c126 => ?_)
        · skip
          have i126 := z_ne 1 1 c126 j25_1 rfl
          refine g_lload_n 138 (gd rfl) rfl rfl ?_
          refine g_ldc2_w 2 141 (gd rfl) rfl rfl ?_
          refine g_ldiv 142 (gd rfl) rfl (by decide) (fun z141 e141 => ?_)
          exact g_lreturn (gd rfl) rfl (hP _ _ ⟨sc25, hIc25, hFc25, z141, rfl, rfl⟩)
        · skip
          have i126 := z_eq 0 0 c126 j25_1 rfl
          refine g_lload_n 130 (gd rfl) rfl rfl ?_
          refine g_ldc2_w 3 133 (gd rfl) rfl rfl ?_
          refine g_ldiv 134 (gd rfl) rfl (by decide) (fun z133 e133 => ?_)
          refine g_goto 142 (gd rfl) rfl ?_
          exact g_lreturn (gd rfl) rfl (hP _ _ ⟨sc25, hIc25, hFc25, z133, rfl, rfl⟩)
      · skip
        have i31 := r_lt1 0 31 c31 j25_4 ro_109_20 rfl
        have i31a := r_lt2 1 32 c31 j25_4 ro_109_20 rfl
        refine g_iload 36 (gd rfl) rfl rfl ?_
        refine g_iconst 1 37 (gd rfl) rfl rfl ?_
        refine g_iadd 38 (gd rfl) rfl (fun z37 e37 => ?_)
        have i37 := in_add 1 32 e37 i31 (in_c 1 rfl) rfl rfl
        refine g_istore 40 (gd rfl) rfl (Nat.le_of_ble_eq_true rfl) ?_
        exact gg_w (by first | exact Nat.le_add_right _ _ | exact gw2 | exact gw3 | exact gwe rfl | exact gwf rfl | exact gwg rfl | exact gwh rfl | omega) (gg_f (gf_cons rfl (gf_cons rfl (gf_cons rfl (gf_cons rfl (gf_cons rfl gf_nil))))) (ct40 32 sc25 y25_2 z37 hIc25 hFc25 (in_w 0 31 i31 rfl) (in_w 1 32 i37 rfl) (m_in 32 (in_w 1 32 i37 rfl) rfl)))
  refine g_enter2 (k := 380) (N := 1040434) (by first | exact dq1 hd rfl | exact dq0 hd rfl | exact dq2 hd rfl | exact dq3 hd rfl | omega) rfl (Nat.le_of_ble_eq_true rfl) ?_
  refine g_aload_n 1 (gd rfl) rfl rfl ?_
  refine g_iload_n 2 (gd rfl) rfl rfl ?_
  refine g_i2l 3 (gd rfl) rfl (fun z2 e2 => ?_)
  have i2 := l_i e2 (i_rng x1)
  refine g_lconst 0 4 (gd rfl) rfl rfl ?_
  refine g_lconst 1 5 (gd rfl) rfl rfl ?_
  refine g_calls (As := [.long z2, .long (Int64.ofInt 0), .long (Int64.ofInt 1)]) (r := [.ref (A 109)]) 8 (gd rfl) rfl rfl rfl rfl rfl (Nat.le_of_ble_eq_true rfl) (mc := 0) (ms := 0) (Nat.zero_le _) (Nat.zero_le _) (P := fun v u => _) ?_ (fun v u h => h)
  intro po5 xx5 hp5 hx5
  refine g_enter2 (k := 269) (N := 300) (by first | exact dq1 hd rfl | exact dq0 hd rfl | exact dq2 hd rfl | exact dq3 hd rfl | omega) rfl (Nat.le_of_ble_eq_true rfl) ?_
  refine g_lload_n 1 (gd rfl) rfl rfl ?_
  refine g_lload_n 2 (gd rfl) rfl rfl ?_
  refine g_lcmp 3 (gd rfl) rfl (fun z5x2 e5x2 => ?_)
  have i5x2 := lc_in e5x2
  refine g_if_lt 6 17 (gd rfl) rfl rfl (fun c5x3 => ?_) (fun c5x3 => ?_)
  · skip
    have i5x3 := z_lt (-1) (-1) c5x3 i5x2 rfl
    have c5x3a := lc_lt e5x2 c5x3
    have i5x3a := lr_lt1 (-2147483648) (-1) c5x3a i2 (l_c 0 rfl) rfl
    have i5x3b := l_b e2 i5x3a
    refine g_iconst 0 18 (gd rfl) rfl rfl ?_
    refine g_ireturn (gd rfl) rfl (nb01 (in_w 0 1 (in_c 0 rfl) rfl)) (hp5 _ _ ?_)
    show GG _ _ _ _ _ _ _ _ [.int (Int32.ofInt 0), .ref (A 109)] _ _ _
    refine g_callv (X := _) (As := [.int (Int32.ofInt 0)]) (r := []) (b := A 109) (q := 109) 11 (gd rfl) rfl rfl rfl rfl rfl (ww_o rfl) (Nat.le_of_ble_eq_true rfl) (mc := 0) (ms := 0) (Nat.zero_le _) (Nat.zero_le _) (P := fun v u => _) ?_ (fun e u h => h) (fun v u h => h)
    intro po8 xx8 hp8 hx8
    refine g_enter2 (k := 271) (N := 300) (by first | exact dq1 hd rfl | exact dq0 hd rfl | exact dq2 hd rfl | exact dq3 hd rfl | omega) rfl (Nat.le_of_ble_eq_true rfl) ?_
    refine g_aload_n 1 (gd rfl) rfl rfl ?_
    refine g_iload_n 2 (gd rfl) rfl rfl ?_
    refine g_iconst 1 3 (gd rfl) rfl rfl ?_
    refine g_callv (X := _) (As := [.int (Int32.ofInt 0), .int (Int32.ofInt 1)]) (r := []) (b := A 109) (q := 109) 6 (gd rfl) rfl rfl rfl rfl rfl (ww_o rfl) (Nat.le_of_ble_eq_true rfl) (mc := 0) (ms := 0) (Nat.zero_le _) (Nat.zero_le _) (P := fun v u => _) ?_ (fun e u h => h) (fun v u h => h)
    intro po8x3 xx8x3 hp8x3 hx8x3
    refine g_enter2 (k := 270) (N := 300) (by first | exact dq1 hd rfl | exact dq0 hd rfl | exact dq2 hd rfl | exact dq3 hd rfl | omega) rfl (Nat.le_of_ble_eq_true rfl) ?_
    refine g_aload_n 1 (gd rfl) rfl rfl ?_
    refine g_iload_n 2 (gd rfl) rfl rfl ?_
    refine g_if_ne 5 9 (gd rfl) rfl rfl (fun c8x3x2 => ?_) (fun c8x3x2 => ?_)
    · skip
      exact zn_ne c8x3x2 (in_c 0 rfl) rfl
    · skip
      refine g_iconst 1 6 (gd rfl) rfl rfl ?_
      refine g_goto 18 (gd rfl) rfl ?_
      refine g_putI 21 (gd rfl) rfl rfl rfl rfl ?_
      have hI8x3x18 := inv_sF (q := 109) (j := 0) hI rfl (in_w 0 2 (in_c 1 rfl) rfl)
      refine g_aload_n 22 (gd rfl) rfl rfl ?_
      refine g_getI 25 (gd rfl) rfl rfl rfl (fun z8x3x22 e8x3x22 => ?_)
      have q8x3x22 : (Int32.ofInt 1) = z8x3x22 := (sF_get).trans e8x3x22.symm
      subst q8x3x22
      refine g_if_le 28 32 (gd rfl) rfl rfl (fun c8x3x25 => ?_) (fun c8x3x25 => ?_)
      · skip
        exact zn_le c8x3x25 (in_c 1 rfl) rfl
      · skip
        refine g_iconst 1 29 (gd rfl) rfl rfl ?_
        refine g_goto 33 (gd rfl) rfl ?_
        refine g_ireturn (gd rfl) rfl (nb01 (in_w 0 1 (in_c 1 rfl) rfl)) (hp8x3 _ _ ?_)
        show GG _ _ _ _ _ _ _ _ [.int (Int32.ofInt 1)] _ _ _
        refine g_ireturn (gd rfl) rfl (nb01 (in_w 0 1 (in_c 1 rfl) rfl)) (hp8 _ _ ?_)
        show GG _ _ _ _ _ _ _ _ [.int (Int32.ofInt 1)] _ _ _
        refine g_if_eq 14 16 (gd rfl) rfl rfl (fun c11 => ?_) (fun c11 => ?_)
        · skip
          exact zn_eq c11 (in_c 1 rfl) rfl
        · skip
          refine g_lconst 0 15 (gd rfl) rfl rfl ?_
          exact g_lreturn (gd rfl) rfl (hP _ _ ⟨(sF s 109 0 (Int32.ofInt 1)), hI8x3x18, (fr_sF rfl fr_rf), (Int64.ofInt 0), rfl, rfl⟩)
  · skip
    have i5x3 := z_ge 0 1 c5x3 i5x2 rfl
    have c5x3a := lc_ge e5x2 c5x3
    have i5x3a := lr_le2 0 2147483647 c5x3a (l_c 0 rfl) i2 rfl
    have i5x3b := l_b e2 i5x3a
    refine g_lload_n 7 (gd rfl) rfl rfl ?_
    refine g_lload 9 (gd rfl) rfl rfl ?_
    refine g_lcmp 10 (gd rfl) rfl (fun z5x9 e5x9 => ?_)
    have i5x9 := lc_in e5x9
    refine g_if_gt 13 17 (gd rfl) rfl rfl (fun c5x10 => ?_) (fun c5x10 => ?_)
    · skip
      have i5x10 := z_gt 1 1 c5x10 i5x9 rfl
      have c5x10a := lc_gt e5x9 c5x10
      have i5x10a := lr_lt2 2 2147483647 c5x10a (l_c 1 rfl) i5x3a rfl
      have i5x10b := l_b e2 i5x10a
      refine g_iconst 0 18 (gd rfl) rfl rfl ?_
      refine g_ireturn (gd rfl) rfl (nb01 (in_w 0 1 (in_c 0 rfl) rfl)) (hp5 _ _ ?_)
      show GG _ _ _ _ _ _ _ _ [.int (Int32.ofInt 0), .ref (A 109)] _ _ _
      refine g_callv (X := _) (As := [.int (Int32.ofInt 0)]) (r := []) (b := A 109) (q := 109) 11 (gd rfl) rfl rfl rfl rfl rfl (ww_o rfl) (Nat.le_of_ble_eq_true rfl) (mc := 0) (ms := 0) (Nat.zero_le _) (Nat.zero_le _) (P := fun v u => _) ?_ (fun e u h => h) (fun v u h => h)
      intro po8 xx8 hp8 hx8
      refine g_enter2 (k := 271) (N := 300) (by first | exact dq1 hd rfl | exact dq0 hd rfl | exact dq2 hd rfl | exact dq3 hd rfl | omega) rfl (Nat.le_of_ble_eq_true rfl) ?_
      refine g_aload_n 1 (gd rfl) rfl rfl ?_
      refine g_iload_n 2 (gd rfl) rfl rfl ?_
      refine g_iconst 1 3 (gd rfl) rfl rfl ?_
      refine g_callv (X := _) (As := [.int (Int32.ofInt 0), .int (Int32.ofInt 1)]) (r := []) (b := A 109) (q := 109) 6 (gd rfl) rfl rfl rfl rfl rfl (ww_o rfl) (Nat.le_of_ble_eq_true rfl) (mc := 0) (ms := 0) (Nat.zero_le _) (Nat.zero_le _) (P := fun v u => _) ?_ (fun e u h => h) (fun v u h => h)
      intro po8x3 xx8x3 hp8x3 hx8x3
      refine g_enter2 (k := 270) (N := 300) (by first | exact dq1 hd rfl | exact dq0 hd rfl | exact dq2 hd rfl | exact dq3 hd rfl | omega) rfl (Nat.le_of_ble_eq_true rfl) ?_
      refine g_aload_n 1 (gd rfl) rfl rfl ?_
      refine g_iload_n 2 (gd rfl) rfl rfl ?_
      refine g_if_ne 5 9 (gd rfl) rfl rfl (fun c8x3x2 => ?_) (fun c8x3x2 => ?_)
      · skip
        exact zn_ne c8x3x2 (in_c 0 rfl) rfl
      · skip
        refine g_iconst 1 6 (gd rfl) rfl rfl ?_
        refine g_goto 18 (gd rfl) rfl ?_
        refine g_putI 21 (gd rfl) rfl rfl rfl rfl ?_
        have hI8x3x18 := inv_sF (q := 109) (j := 0) hI rfl (in_w 0 2 (in_c 1 rfl) rfl)
        refine g_aload_n 22 (gd rfl) rfl rfl ?_
        refine g_getI 25 (gd rfl) rfl rfl rfl (fun z8x3x22 e8x3x22 => ?_)
        have q8x3x22 : (Int32.ofInt 1) = z8x3x22 := (sF_get).trans e8x3x22.symm
        subst q8x3x22
        refine g_if_le 28 32 (gd rfl) rfl rfl (fun c8x3x25 => ?_) (fun c8x3x25 => ?_)
        · skip
          exact zn_le c8x3x25 (in_c 1 rfl) rfl
        · skip
          refine g_iconst 1 29 (gd rfl) rfl rfl ?_
          refine g_goto 33 (gd rfl) rfl ?_
          refine g_ireturn (gd rfl) rfl (nb01 (in_w 0 1 (in_c 1 rfl) rfl)) (hp8x3 _ _ ?_)
          show GG _ _ _ _ _ _ _ _ [.int (Int32.ofInt 1)] _ _ _
          refine g_ireturn (gd rfl) rfl (nb01 (in_w 0 1 (in_c 1 rfl) rfl)) (hp8 _ _ ?_)
          show GG _ _ _ _ _ _ _ _ [.int (Int32.ofInt 1)] _ _ _
          refine g_if_eq 14 16 (gd rfl) rfl rfl (fun c11 => ?_) (fun c11 => ?_)
          · skip
            exact zn_eq c11 (in_c 1 rfl) rfl
          · skip
            refine g_lconst 0 15 (gd rfl) rfl rfl ?_
            exact g_lreturn (gd rfl) rfl (hP _ _ ⟨(sF s 109 0 (Int32.ofInt 1)), hI8x3x18, (fr_sF rfl fr_rf), (Int64.ofInt 0), rfl, rfl⟩)
    · skip
      have i5x10 := z_le (-1) 0 c5x10 i5x9 rfl
      have c5x10a := lc_le e5x9 c5x10
      have i5x10a := lr_le1 0 1 c5x10a i5x3a (l_c 1 rfl) rfl
      have i5x10b := l_b e2 i5x10a
      refine g_iconst 1 14 (gd rfl) rfl rfl ?_
      refine g_goto 18 (gd rfl) rfl ?_
      refine g_ireturn (gd rfl) rfl (nb01 (in_w 0 1 (in_c 1 rfl) rfl)) (hp5 _ _ ?_)
      show GG _ _ _ _ _ _ _ _ [.int (Int32.ofInt 1), .ref (A 109)] _ _ _
      refine g_callv (X := _) (As := [.int (Int32.ofInt 1)]) (r := []) (b := A 109) (q := 109) 11 (gd rfl) rfl rfl rfl rfl rfl (ww_o rfl) (Nat.le_of_ble_eq_true rfl) (mc := 0) (ms := 0) (Nat.zero_le _) (Nat.zero_le _) (P := fun v u => _) ?_ (fun e u h => h) (fun v u h => h)
      intro po8 xx8 hp8 hx8
      refine g_enter2 (k := 271) (N := 300) (by first | exact dq1 hd rfl | exact dq0 hd rfl | exact dq2 hd rfl | exact dq3 hd rfl | omega) rfl (Nat.le_of_ble_eq_true rfl) ?_
      refine g_aload_n 1 (gd rfl) rfl rfl ?_
      refine g_iload_n 2 (gd rfl) rfl rfl ?_
      refine g_iconst 1 3 (gd rfl) rfl rfl ?_
      refine g_callv (X := _) (As := [.int (Int32.ofInt 1), .int (Int32.ofInt 1)]) (r := []) (b := A 109) (q := 109) 6 (gd rfl) rfl rfl rfl rfl rfl (ww_o rfl) (Nat.le_of_ble_eq_true rfl) (mc := 0) (ms := 0) (Nat.zero_le _) (Nat.zero_le _) (P := fun v u => _) ?_ (fun e u h => h) (fun v u h => h)
      intro po8x3 xx8x3 hp8x3 hx8x3
      refine g_enter2 (k := 270) (N := 300) (by first | exact dq1 hd rfl | exact dq0 hd rfl | exact dq2 hd rfl | exact dq3 hd rfl | omega) rfl (Nat.le_of_ble_eq_true rfl) ?_
      refine g_aload_n 1 (gd rfl) rfl rfl ?_
      refine g_iload_n 2 (gd rfl) rfl rfl ?_
      refine g_if_ne 5 9 (gd rfl) rfl rfl (fun c8x3x2 => ?_) (fun c8x3x2 => ?_)
      · skip
        refine g_iload_n 10 (gd rfl) rfl rfl ?_
        refine g_if_ne 13 17 (gd rfl) rfl rfl (fun c8x3x10 => ?_) (fun c8x3x10 => ?_)
        · skip
          refine g_iconst 0 18 (gd rfl) rfl rfl ?_
          refine g_putI 21 (gd rfl) rfl rfl rfl rfl ?_
          have hI8x3x18 := inv_sF (q := 109) (j := 0) hI rfl (in_w 0 2 (in_c 0 rfl) rfl)
          refine g_aload_n 22 (gd rfl) rfl rfl ?_
          refine g_getI 25 (gd rfl) rfl rfl rfl (fun z8x3x22 e8x3x22 => ?_)
          have q8x3x22 : (Int32.ofInt 0) = z8x3x22 := (sF_get).trans e8x3x22.symm
          subst q8x3x22
          refine g_if_le 28 32 (gd rfl) rfl rfl (fun c8x3x25 => ?_) (fun c8x3x25 => ?_)
          · skip
            refine g_iconst 0 33 (gd rfl) rfl rfl ?_
            refine g_ireturn (gd rfl) rfl (nb01 (in_w 0 1 (in_c 0 rfl) rfl)) (hp8x3 _ _ ?_)
            show GG _ _ _ _ _ _ _ _ [.int (Int32.ofInt 0)] _ _ _
            refine g_ireturn (gd rfl) rfl (nb01 (in_w 0 1 (in_c 0 rfl) rfl)) (hp8 _ _ ?_)
            show GG _ _ _ _ _ _ _ _ [.int (Int32.ofInt 0)] _ _ _
            refine g_if_eq 14 16 (gd rfl) rfl rfl (fun c11 => ?_) (fun c11 => ?_)
            · skip
              refine g_aload_n 17 (gd rfl) rfl rfl ?_
              refine g_callv (X := _) (As := []) (r := []) (b := A 109) (q := 109) 20 (gd rfl) rfl rfl rfl rfl rfl (ww_o rfl) (Nat.le_of_ble_eq_true rfl) (Nat.zero_le _) (Nat.zero_le _) (k_335 (by first | exact dq1 hd rfl | exact dq0 hd rfl | exact dq2 hd rfl | exact dq3 hd rfl | omega) hI8x3x18 ) (fun e u h => h) (fun v u h => ?_)
              obtain ⟨s17, hI17, hF17, rfl, rfl, p17⟩ := h
              show GG _ _ _ _ _ _ _ _ [] _ _ _
              refine g_lconst 0 21 (gd rfl) rfl rfl ?_
              refine g_lstore_n 22 (gd rfl) rfl (Nat.le_of_ble_eq_true rfl) ?_
              refine g_iconst 0 23 (gd rfl) rfl rfl ?_
              refine g_istore 25 (gd rfl) rfl (Nat.le_of_ble_eq_true rfl) ?_
              exact gg_w (by first | exact Nat.le_of_ble_eq_true rfl | omega) (gg_f (gf_cons rfl (gf_cons rfl (gf_cons rfl (gf_cons rfl gf_nil)))) (ct25 33 s17 (Int64.ofInt 0) (Int32.ofInt 0) hI17 (fr_tr rfl (fr_sF rfl fr_rf) hF17) (in_w 0 1 i5x10b rfl) (in_w 0 32 (in_c 0 rfl) rfl) (m_in 33 (in_w 0 32 (in_c 0 rfl) rfl) rfl)))
            · skip
              exact zn_ne c11 (in_c 0 rfl) rfl
          · skip
            exact zn_gt c8x3x25 (in_c 0 rfl) rfl
        · skip
          exact zn_eq c8x3x10 (in_c 1 rfl) rfl
      · skip
        exact zn_eq c8x3x2 (in_c 1 rfl) rfl

def fm_383 : FM := ([], [175], [], [])
def fm_384 : FM := ([180], [175, 181, 182], [(109, 97), (109, 98)], [])
def fm_385 : FM := ([176, 177, 180], [175, 178, 179, 181, 182], [(109, 97), (109, 98)], [])
def fm_390 : FM := ([132, 183], [], [], [])
end
