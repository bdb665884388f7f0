section
/-! methods, by vc.py -/
def fm_364 : FM := ([158, 159], [], [], [])
/-- GraphHouseModel.rings -/
theorem k_364 {Z : AmZ} {A : Nat → Nat} {s : GS} {ex : va_W} {d : Nat} {X : AmX} {x1 : Int32} {x2 : Int32} (hd : 1 ≤ d) (hI : Inv s) (h1 : In x1 1 32) (h2 : In x2 0 31) (q_0 : TP s (x1).toInt (x2).toInt) : GC Z d 364 [.ref (A 109), .int x1, .int x2] (WW Z A s ++ ex) 0 0 (fun v u => ∃ t : GS, Inv t ∧ Fr fm_364 s t ∧ ∃ z : Int32, v = some (.int z) ∧ u = WW Z A t ++ ex ∧ In z 0 32 ∧ ((z).toInt ≤ (x1).toInt) ∧ (∀ k : Nat, (k : Int) < (x1).toInt → 0 ≤ (t.1 158 k).toInt ∧ (t.1 158 k).toInt < (z).toInt)) X := by
  intro post xp hP hX
  have ct173 : ∀ (k173 : Nat) (sc173 : GS) (y173_3 : Int32) (y173_4 : Int32), Inv sc173 → Fr fm_364 s sc173 → (In y173_3 0 32) → (In y173_4 0 32) → (0 ≤ (y173_3).toInt) → ((y173_3).toInt + (cM (sc173.1 158) (x1).toNatClampNeg : Int) ≤ (x1).toInt) → (∀ k : Nat, (k : Int) < (x1).toInt → (sc173.1 158 k).toInt < (y173_3).toInt) → (∀ k : Nat, (k : Int) < (y173_4).toInt → 0 ≤ (sc173.1 158 k).toInt) → 32 - (y173_4).toInt < (k173 : Int) → GG Z (d - 1) 364 post (gx xp) (1 + k173 * 900) 173 (fun j => xlook j [(0, .ref (A 109)), (1, .int x1), (2, .int x2), (3, .int y173_3), (4, .int y173_4)]) [] (WW Z A sc173 ++ ex) 0 0 := by
    intro k173
    induction k173 with
    | zero => intro sc173 y173_3 y173_4 hIc173 hFc173 j173_3 j173_4 n173_0 g173_0 g173_1 g173_2 mm173; exact m_no mm173 j173_4 rfl
    | succ k173 ih173 =>
      intro sc173 y173_3 y173_4 hIc173 hFc173 j173_3 j173_4 n173_0 g173_0 g173_1 g173_2 mm173
      refine gg_w (M := 1 + k173 * 900 + 900) gws ?_
      refine g_iload 175 (gd rfl) rfl rfl ?_
      refine g_iload_n 176 (gd rfl) rfl rfl ?_
      refine g_cmp_ge 179 206 (gd rfl) rfl rfl (fun c176 => ?_) (fun c176 => ?_)
      · skip
        have i176 := r_le2 1 32 c176 h1 j173_4 rfl
        refine g_iload_n 207 (gd rfl) rfl rfl ?_
        have n207 : (y173_3).toInt ≤ (x1).toInt := by have hc := g173_0; have a0 := h2; unfold In at a0; have a1 := h1; unfold In at a1; have a2 := i176; unfold In at a2; have a3 := j173_3; unfold In at a3; omega
        have n207a : ∀ k : Nat, (k : Int) < (x1).toInt → 0 ≤ (sc173.1 158 k).toInt ∧ (sc173.1 158 k).toInt < (y173_3).toInt := by exact fun k hk => ⟨g173_2 k (by have a0 := h2; unfold In at a0; have a1 := h1; unfold In at a1; have a2 := i176; unfold In at a2; have a3 := j173_3; unfold In at a3; omega), g173_1 k hk⟩
        exact g_ireturn (gd rfl) rfl rfl (hP _ _ ⟨sc173, hIc173, hFc173, y173_3, rfl, rfl, in_w 0 32 j173_3 rfl, n207, n207a⟩)
      · skip
        have i176 := r_lt1 0 31 c176 j173_4 h1 rfl
        refine g_aload_n 180 (gd rfl) rfl rfl ?_
        refine g_getA (q2 := 158) 183 (gd rfl) rfl rfl rfl rfl ?_
        refine g_iload 185 (gd rfl) rfl rfl ?_
        refine g_iaload 186 (gd rfl) rfl (n := 32) rfl (in_ix i176 rfl) (fun z185 e185 => ?_)
        refine g_if_ge 189 200 (gd rfl) rfl rfl (fun c186 => ?_) (fun c186 => ?_)
        · skip
          have i186 := z_ge 0 2147483647 c186 (i_rng z185) rfl
          first | (have n173q : (y173_3).toInt + (cM (sc173.1 158) (x1).toNatClampNeg : Int) ≤ (x1).toInt := (by rw [sI_q]; have hu := up_cm (f := sc173.1 158) (y := y173_4) (b := y173_3) (n := x1.toNatClampNeg) (by rw [← e185]; exact c186) (by have a0 := h2; unfold In at a0; have a1 := h1; unfold In at a1; have a2 := i176; unfold In at a2; have a3 := j173_3; unfold In at a3; omega) (by show y173_4.toInt.toNat < x1.toInt.toNat; have a0 := h2; unfold In at a0; have a1 := h1; unfold In at a1; have a2 := i176; unfold In at a2; have a3 := j173_3; unfold In at a3; omega); have hc := g173_0; have a0 := h2; unfold In at a0; have a1 := h1; unfold In at a1; have a2 := i176; unfold In at a2; have a3 := j173_3; unfold In at a3; omega)) | skip
          refine g_iinc 203 (gd rfl) rfl rfl (Nat.le_of_ble_eq_true rfl) (fun z200 e200 => ?_)
          have i200 := in_add 1 32 e200 i176 (in_c 1 rfl) rfl rfl
          refine g_goto 173 (gd rfl) rfl ?_
          have n173 : 0 ≤ (y173_3).toInt := by first | exact n173_0 | (have a0 := h2; unfold In at a0; have a1 := h1; unfold In at a1; have a2 := i176; unfold In at a2; have a3 := j173_3; unfold In at a3; have a4 := i200; unfold In at a4; have a5 := t_add e200 i176 (in_c 1 rfl) rfl; have a6 := (in_c 1 rfl); unfold In at a6; omega)
          have n173a : (y173_3).toInt + (cM (sc173.1 158) (x1).toNatClampNeg : Int) ≤ (x1).toInt := by first | exact n173q | exact g173_0 | exact g32_0
          have n173b : ∀ k : Nat, (k : Int) < (x1).toInt → (sc173.1 158 k).toInt < (y173_3).toInt := by first | exact g173_1 | (first | exact g173_1 | exact g32_1 | (intro k hk; rw [sI_q]; exact up_lt (fun c => by have h := g173_1 k hk; have a0 := h2; unfold In at a0; have a1 := h1; unfold In at a1; have a2 := i176; unfold In at a2; have a3 := j173_3; unfold In at a3; have a4 := i200; unfold In at a4; have a5 := t_add e200 i176 (in_c 1 rfl) rfl; have a6 := (in_c 1 rfl); unfold In at a6; omega) (by have a0 := h2; unfold In at a0; have a1 := h1; unfold In at a1; have a2 := i176; unfold In at a2; have a3 := j173_3; unfold In at a3; have a4 := i200; unfold In at a4; have a5 := t_add e200 i176 (in_c 1 rfl) rfl; have a6 := (in_c 1 rfl); unfold In at a6; omega)))
          have n173c : ∀ k : Nat, (k : Int) < (z200).toInt → 0 ≤ (sc173.1 158 k).toInt := by first | (intro k hk; exfalso; have h0 : (Int32.ofInt 0).toInt = 0 := rfl; omega) | (intro k hk; have e4 : y173_4.toNatClampNeg = y173_4.toInt.toNat := rfl; first | (by_cases c : (k : Int) < y173_4.toInt; exact g173_2 k c; (rw [show k = y173_4.toNatClampNeg from (by have a0 := h2; unfold In at a0; have a1 := h1; unfold In at a1; have a2 := i176; unfold In at a2; have a3 := j173_3; unfold In at a3; have a4 := i200; unfold In at a4; have a5 := t_add e200 i176 (in_c 1 rfl) rfl; have a6 := (in_c 1 rfl); unfold In at a6; omega), ← e185]; exact c186)) | (rw [sI_q]; unfold upd; by_cases c : k = y173_4.toNatClampNeg; (rw [if_pos c]; have a0 := h2; unfold In at a0; have a1 := h1; unfold In at a1; have a2 := i176; unfold In at a2; have a3 := j173_3; unfold In at a3; have a4 := i200; unfold In at a4; have a5 := t_add e200 i176 (in_c 1 rfl) rfl; have a6 := (in_c 1 rfl); unfold In at a6; omega); (rw [if_neg c]; exact g173_2 k (by have a0 := h2; unfold In at a0; have a1 := h1; unfold In at a1; have a2 := i176; unfold In at a2; have a3 := j173_3; unfold In at a3; have a4 := i200; unfold In at a4; have a5 := t_add e200 i176 (in_c 1 rfl) rfl; have a6 := (in_c 1 rfl); unfold In at a6; omega))))
          exact gg_w (by first | exact Nat.le_add_right _ _ | exact gw2 | exact gw3 | exact gwe rfl | exact gwf rfl | exact gwg rfl | exact gwh rfl | omega) (gg_f (gf_cons rfl (gf_cons rfl (gf_cons rfl (gf_cons rfl (gf_cons rfl gf_nil))))) (ih173 sc173 y173_3 z200 hIc173 hFc173 (in_w 0 32 j173_3 rfl) (in_w 0 32 i200 rfl) n173 n173a n173b n173c (m_up mm173 (t_add e200 i176 (in_c 1 rfl) rfl) (in_w 1 1 (in_c 1 rfl) rfl))))
        · skip
          have i186 := z_lt (-2147483648) (-1) c186 (i_rng z185) rfl
          refine g_aload_n 190 (gd rfl) rfl rfl ?_
          refine g_getA (q2 := 158) 193 (gd rfl) rfl rfl rfl rfl ?_
          refine g_iload 195 (gd rfl) rfl rfl ?_
          refine g_iload_n 196 (gd rfl) rfl rfl ?_
          refine g_iastore 197 (gd rfl) rfl (n := 32) rfl (in_ix i176 rfl) ?_
          have hI196 := inv_sI (q := 158) (j := y173_4.toNatClampNeg) hIc173 rfl (in_w (-2147483648) 2147483647 j173_3 rfl)
          refine g_iinc 200 (gd rfl) rfl rfl (Nat.le_of_ble_eq_true rfl) (fun z197 e197 => ?_)
          have i197 := in_add 1 33 e197 j173_3 (in_c 1 rfl) rfl rfl
          first | (have n173q : (z197).toInt + (cM ((sI sc173 158 y173_4.toNatClampNeg y173_3).1 158) (x1).toNatClampNeg : Int) ≤ (x1).toInt := (by rw [sI_q]; have hu := up_cm (f := sc173.1 158) (y := y173_4) (b := y173_3) (n := x1.toNatClampNeg) (by rw [← e185]; exact c186) (by have a0 := h2; unfold In at a0; have a1 := h1; unfold In at a1; have a2 := i176; unfold In at a2; have a3 := j173_3; unfold In at a3; have a4 := i197; unfold In at a4; have a5 := t_add e197 j173_3 (in_c 1 rfl) rfl; have a6 := (in_c 1 rfl); unfold In at a6; omega) (by show y173_4.toInt.toNat < x1.toInt.toNat; have a0 := h2; unfold In at a0; have a1 := h1; unfold In at a1; have a2 := i176; unfold In at a2; have a3 := j173_3; unfold In at a3; have a4 := i197; unfold In at a4; have a5 := t_add e197 j173_3 (in_c 1 rfl) rfl; have a6 := (in_c 1 rfl); unfold In at a6; omega); have hc := g173_0; have a0 := h2; unfold In at a0; have a1 := h1; unfold In at a1; have a2 := i176; unfold In at a2; have a3 := j173_3; unfold In at a3; have a4 := i197; unfold In at a4; have a5 := t_add e197 j173_3 (in_c 1 rfl) rfl; have a6 := (in_c 1 rfl); unfold In at a6; omega)) | skip
          refine g_iinc 203 (gd rfl) rfl rfl (Nat.le_of_ble_eq_true rfl) (fun z200 e200 => ?_)
          have i200 := in_add 1 32 e200 i176 (in_c 1 rfl) rfl rfl
          refine g_goto 173 (gd rfl) rfl ?_
          have i173 : In z197 0 32 := by first | (exact ⟨by have a0 := h2; unfold In at a0; have a1 := h1; unfold In at a1; have a2 := i176; unfold In at a2; have a3 := j173_3; unfold In at a3; have a4 := i200; unfold In at a4; have a5 := t_add e200 i176 (in_c 1 rfl) rfl; have a6 := (in_c 1 rfl); unfold In at a6; have a7 := i197; unfold In at a7; have a8 := t_add e197 j173_3 (in_c 1 rfl) rfl; omega, by have a0 := h2; unfold In at a0; have a1 := h1; unfold In at a1; have a2 := i176; unfold In at a2; have a3 := j173_3; unfold In at a3; have a4 := i200; unfold In at a4; have a5 := t_add e200 i176 (in_c 1 rfl) rfl; have a6 := (in_c 1 rfl); unfold In at a6; have a7 := i197; unfold In at a7; have a8 := t_add e197 j173_3 (in_c 1 rfl) rfl; omega⟩) | (have hc := n173q; exact ⟨by have a0 := h2; unfold In at a0; have a1 := h1; unfold In at a1; have a2 := i176; unfold In at a2; have a3 := j173_3; unfold In at a3; have a4 := i200; unfold In at a4; have a5 := t_add e200 i176 (in_c 1 rfl) rfl; have a6 := (in_c 1 rfl); unfold In at a6; have a7 := i197; unfold In at a7; have a8 := t_add e197 j173_3 (in_c 1 rfl) rfl; omega, by have a0 := h2; unfold In at a0; have a1 := h1; unfold In at a1; have a2 := i176; unfold In at a2; have a3 := j173_3; unfold In at a3; have a4 := i200; unfold In at a4; have a5 := t_add e200 i176 (in_c 1 rfl) rfl; have a6 := (in_c 1 rfl); unfold In at a6; have a7 := i197; unfold In at a7; have a8 := t_add e197 j173_3 (in_c 1 rfl) rfl; omega⟩)
          have n173 : 0 ≤ (z197).toInt := by have a0 := h2; unfold In at a0; have a1 := h1; unfold In at a1; have a2 := i176; unfold In at a2; have a3 := j173_3; unfold In at a3; have a4 := i200; unfold In at a4; have a5 := t_add e200 i176 (in_c 1 rfl) rfl; have a6 := (in_c 1 rfl); unfold In at a6; have a7 := i173; unfold In at a7; have a8 := t_add e197 j173_3 (in_c 1 rfl) rfl; omega
          have n173a : (z197).toInt + (cM ((sI sc173 158 y173_4.toNatClampNeg y173_3).1 158) (x1).toNatClampNeg : Int) ≤ (x1).toInt := by first | exact n173q | exact g173_0 | exact g32_0
          have n173b : ∀ k : Nat, (k : Int) < (x1).toInt → ((sI sc173 158 y173_4.toNatClampNeg y173_3).1 158 k).toInt < (z197).toInt := by first | exact g173_1 | exact g32_1 | (intro k hk; rw [sI_q]; exact up_lt (fun c => by have h := g173_1 k hk; have a0 := h2; unfold In at a0; have a1 := h1; unfold In at a1; have a2 := i176; unfold In at a2; have a3 := j173_3; unfold In at a3; have a4 := i200; unfold In at a4; have a5 := t_add e200 i176 (in_c 1 rfl) rfl; have a6 := (in_c 1 rfl); unfold In at a6; have a7 := i173; unfold In at a7; have a8 := t_add e197 j173_3 (in_c 1 rfl) rfl; omega) (by have a0 := h2; unfold In at a0; have a1 := h1; unfold In at a1; have a2 := i176; unfold In at a2; have a3 := j173_3; unfold In at a3; have a4 := i200; unfold In at a4; have a5 := t_add e200 i176 (in_c 1 rfl) rfl; have a6 := (in_c 1 rfl); unfold In at a6; have a7 := i173; unfold In at a7; have a8 := t_add e197 j173_3 (in_c 1 rfl) rfl; omega))
          have n173c : ∀ k : Nat, (k : Int) < (z200).toInt → 0 ≤ ((sI sc173 158 y173_4.toNatClampNeg y173_3).1 158 k).toInt := by first | (intro k hk; exfalso; have h0 : (Int32.ofInt 0).toInt = 0 := rfl; omega) | (intro k hk; have e4 : y173_4.toNatClampNeg = y173_4.toInt.toNat := rfl; first | (by_cases c : (k : Int) < y173_4.toInt; exact g173_2 k c; (rw [show k = y173_4.toNatClampNeg from (by have a0 := h2; unfold In at a0; have a1 := h1; unfold In at a1; have a2 := i176; unfold In at a2; have a3 := j173_3; unfold In at a3; have a4 := i200; unfold In at a4; have a5 := t_add e200 i176 (in_c 1 rfl) rfl; have a6 := (in_c 1 rfl); unfold In at a6; have a7 := i173; unfold In at a7; have a8 := t_add e197 j173_3 (in_c 1 rfl) rfl; omega), ← e185]; exact c186)) | (rw [sI_q]; unfold upd; by_cases c : k = y173_4.toNatClampNeg; (rw [if_pos c]; have a0 := h2; unfold In at a0; have a1 := h1; unfold In at a1; have a2 := i176; unfold In at a2; have a3 := j173_3; unfold In at a3; have a4 := i200; unfold In at a4; have a5 := t_add e200 i176 (in_c 1 rfl) rfl; have a6 := (in_c 1 rfl); unfold In at a6; have a7 := i173; unfold In at a7; have a8 := t_add e197 j173_3 (in_c 1 rfl) rfl; omega); (rw [if_neg c]; exact g173_2 k (by have a0 := h2; unfold In at a0; have a1 := h1; unfold In at a1; have a2 := i176; unfold In at a2; have a3 := j173_3; unfold In at a3; have a4 := i200; unfold In at a4; have a5 := t_add e200 i176 (in_c 1 rfl) rfl; have a6 := (in_c 1 rfl); unfold In at a6; have a7 := i173; unfold In at a7; have a8 := t_add e197 j173_3 (in_c 1 rfl) rfl; omega))))
          exact gg_w (by first | exact Nat.le_add_right _ _ | exact gw2 | exact gw3 | exact gwe rfl | exact gwf rfl | exact gwg rfl | exact gwh rfl | omega) (gg_f (gf_cons rfl (gf_cons rfl (gf_cons rfl (gf_cons rfl (gf_cons rfl gf_nil))))) (ih173 (sI sc173 158 y173_4.toNatClampNeg y173_3) z197 z200 hI196 (fr_sI rfl hFc173) i173 (in_w 0 32 i200 rfl) n173 n173a n173b n173c (m_up mm173 (t_add e200 i176 (in_c 1 rfl) rfl) (in_w 1 1 (in_c 1 rfl) rfl))))
  have ct32 : ∀ (k32 : Nat) (sc32 : GS) (y32_3 : Int32) (y32_4 : Int32), Inv sc32 → Fr fm_364 s sc32 → (In y32_3 0 32) → (In y32_4 0 32) → (0 ≤ (y32_3).toInt) → ((y32_3).toInt + (cM (sc32.1 158) (x1).toNatClampNeg : Int) ≤ (x1).toInt) → (∀ k : Nat, (k : Int) < (x1).toInt → (sc32.1 158 k).toInt < (y32_3).toInt) → (∀ k : Nat, (k : Int) < (x1).toInt → (sc32.1 159 k).toInt < (y32_4).toInt) → 32 - (y32_4).toInt < (k32 : Int) → GG Z (d - 1) 364 post (gx xp) (29702 + k32 * 63902) 32 (fun j => xlook j [(0, .ref (A 109)), (1, .int x1), (2, .int x2), (3, .int y32_3), (4, .int y32_4)]) [] (WW Z A sc32 ++ ex) 0 0 := by
    intro k32
    induction k32 with
    | zero => intro sc32 y32_3 y32_4 hIc32 hFc32 j32_3 j32_4 n32_0 g32_0 g32_1 g32_2 mm32; exact m_no mm32 j32_4 rfl
    | succ k32 ih32 =>
      intro sc32 y32_3 y32_4 hIc32 hFc32 j32_3 j32_4 n32_0 g32_0 g32_1 g32_2 mm32
      refine gg_w (M := 29702 + k32 * 63902 + 63902) gws ?_
      have ct126 : ∀ (k126 : Nat) (sc126 : GS) (y126_5 : Int32) (y126_6 : Int32), Inv sc126 → Fr fm_364 s sc126 → (In y32_4 0 31) → (In y126_5 0 31) → (In y126_6 0 31) → ((y126_6).toInt < (x1).toInt) → (0 ≤ (y126_6).toInt) → (((y32_3).toInt + (cM (sc126.1 158) (x1).toNatClampNeg : Int) ≤ (x1).toInt ∧ (sc126.1 158 (y126_6).toNatClampNeg).toInt < 0) ∨ (y32_3).toInt + 1 + (cM (sc126.1 158) (x1).toNatClampNeg : Int) ≤ (x1).toInt) → (∀ k : Nat, (k : Int) < (x1).toInt → (sc126.1 158 k).toInt < (y32_3).toInt + 1) → (∀ k : Nat, (k : Int) < (x1).toInt → (sc126.1 159 k).toInt < (y32_4).toInt + 1) → (VD s (sc126.1 159) (x1).toInt (x2).toInt (y32_4).toInt) → ((sc126.1 159 (y126_6).toNatClampNeg).toInt = (y32_4).toInt) → cM (sc126.1 158) (x1).toNatClampNeg < k126 → GG Z (d - 1) 364 post (gx xp) (29702 + k32 * 63902 + 1 + k126 * 900) 126 (fun j => xlook j [(0, .ref (A 109)), (1, .int x1), (2, .int x2), (3, .int y32_3), (4, .int y32_4), (5, .int y126_5), (6, .int y126_6)]) [] (WW Z A sc126 ++ ex) 0 0 := by
        intro k126
        induction k126 with
        | zero => intro sc126 y126_5 y126_6 hIc126 hFc126 j126_4 j126_5 j126_6 n126_0 n126_1 g126_0 g126_1 g126_2 g126_3 g126_4 mm126; exact absurd mm126 (Nat.not_lt_zero _)
        | succ k126 ih126 =>
          intro sc126 y126_5 y126_6 hIc126 hFc126 j126_4 j126_5 j126_6 n126_0 n126_1 g126_0 g126_1 g126_2 g126_3 g126_4 mm126
          refine gg_w (M := 29702 + k32 * 63902 + 1 + k126 * 900 + 900) gws ?_
          refine g_aload_n 127 (gd rfl) rfl rfl ?_
          refine g_getA (q2 := 158) 130 (gd rfl) rfl rfl rfl rfl ?_
          refine g_iload 132 (gd rfl) rfl rfl ?_
          refine g_iaload 133 (gd rfl) rfl (n := 32) rfl (in_ix j126_6 rfl) (fun z132 e132 => ?_)
          refine g_if_ge 136 161 (gd rfl) rfl rfl (fun c133 => ?_) (fun c133 => ?_)
          · skip
            have i133 := z_ge 0 2147483647 c133 (i_rng z132) rfl
            have n126q : (y32_3).toInt + 1 + (cM (sc126.1 158) (x1).toNatClampNeg : Int) ≤ (x1).toInt := (by rcases g126_0 with hg | hg; (exfalso; rw [← e132] at hg; have hz := c133; omega); exact hg)
            refine g_iinc 164 (gd rfl) rfl rfl (Nat.le_of_ble_eq_true rfl) (fun z161 e161 => ?_)
            have i161 := in_add 1 33 e161 j32_3 (in_c 1 rfl) rfl rfl
            refine g_iinc 167 (gd rfl) rfl rfl (Nat.le_of_ble_eq_true rfl) (fun z164 e164 => ?_)
            have i164 := in_add 1 32 e164 j126_4 (in_c 1 rfl) rfl rfl
            refine g_goto 32 (gd rfl) rfl ?_
            have i32 : In z161 0 32 := by first | (exact ⟨by have a0 := j126_4; unfold In at a0; have a1 := j32_3; unfold In at a1; have a2 := h2; unfold In at a2; have a3 := h1; unfold In at a3; have a4 := j126_6; unfold In at a4; have a5 := j126_5; unfold In at a5; have a6 := i164; unfold In at a6; have a7 := t_add e164 j126_4 (in_c 1 rfl) rfl; have a8 := (in_c 1 rfl); unfold In at a8; have a9 := i161; unfold In at a9; have a10 := t_add e161 j32_3 (in_c 1 rfl) rfl; omega, by have a0 := j126_4; unfold In at a0; have a1 := j32_3; unfold In at a1; have a2 := h2; unfold In at a2; have a3 := h1; unfold In at a3; have a4 := j126_6; unfold In at a4; have a5 := j126_5; unfold In at a5; have a6 := i164; unfold In at a6; have a7 := t_add e164 j126_4 (in_c 1 rfl) rfl; have a8 := (in_c 1 rfl); unfold In at a8; have a9 := i161; unfold In at a9; have a10 := t_add e161 j32_3 (in_c 1 rfl) rfl; omega⟩) | (have hc := n126q; exact ⟨by have a0 := j126_4; unfold In at a0; have a1 := j32_3; unfold In at a1; have a2 := h2; unfold In at a2; have a3 := h1; unfold In at a3; have a4 := j126_6; unfold In at a4; have a5 := j126_5; unfold In at a5; have a6 := i164; unfold In at a6; have a7 := t_add e164 j126_4 (in_c 1 rfl) rfl; have a8 := (in_c 1 rfl); unfold In at a8; have a9 := i161; unfold In at a9; have a10 := t_add e161 j32_3 (in_c 1 rfl) rfl; omega, by have a0 := j126_4; unfold In at a0; have a1 := j32_3; unfold In at a1; have a2 := h2; unfold In at a2; have a3 := h1; unfold In at a3; have a4 := j126_6; unfold In at a4; have a5 := j126_5; unfold In at a5; have a6 := i164; unfold In at a6; have a7 := t_add e164 j126_4 (in_c 1 rfl) rfl; have a8 := (in_c 1 rfl); unfold In at a8; have a9 := i161; unfold In at a9; have a10 := t_add e161 j32_3 (in_c 1 rfl) rfl; omega⟩)
            have n32 : 0 ≤ (z161).toInt := by have a0 := j126_4; unfold In at a0; have a1 := j32_3; unfold In at a1; have a2 := h2; unfold In at a2; have a3 := h1; unfold In at a3; have a4 := j126_6; unfold In at a4; have a5 := j126_5; unfold In at a5; have a6 := i164; unfold In at a6; have a7 := t_add e164 j126_4 (in_c 1 rfl) rfl; have a8 := (in_c 1 rfl); unfold In at a8; have a9 := i32; unfold In at a9; have a10 := t_add e161 j32_3 (in_c 1 rfl) rfl; omega
            have n32a : (z161).toInt + (cM (sc126.1 158) (x1).toNatClampNeg : Int) ≤ (x1).toInt := by first | exact g42_0 | (rcases g126_0 with hg | hg; (exfalso; rw [← e132] at hg; have hz := c133; omega); have a0 := j126_4; unfold In at a0; have a1 := j32_3; unfold In at a1; have a2 := h2; unfold In at a2; have a3 := h1; unfold In at a3; have a4 := j126_6; unfold In at a4; have a5 := j126_5; unfold In at a5; have a6 := i164; unfold In at a6; have a7 := t_add e164 j126_4 (in_c 1 rfl) rfl; have a8 := (in_c 1 rfl); unfold In at a8; have a9 := i32; unfold In at a9; have a10 := t_add e161 j32_3 (in_c 1 rfl) rfl; omega) | (have hc := cM_le (sc126.1 158) (x1).toNatClampNeg; have h0 : (Int32.ofInt 0).toInt = 0 := rfl; have hmn : ((x1).toNatClampNeg : Int) = (x1).toInt := (by show (((x1).toInt.toNat : Nat) : Int) = _; have a0 := j126_4; unfold In at a0; have a1 := j32_3; unfold In at a1; have a2 := h2; unfold In at a2; have a3 := h1; unfold In at a3; have a4 := j126_6; unfold In at a4; have a5 := j126_5; unfold In at a5; have a6 := i164; unfold In at a6; have a7 := t_add e164 j126_4 (in_c 1 rfl) rfl; have a8 := (in_c 1 rfl); unfold In at a8; have a9 := i32; unfold In at a9; have a10 := t_add e161 j32_3 (in_c 1 rfl) rfl; omega); omega)
            have n32b : ∀ k : Nat, (k : Int) < (x1).toInt → (sc126.1 158 k).toInt < (z161).toInt := by first | exact g42_1 | (intro k hk; have h := g126_1 k hk; have a0 := j126_4; unfold In at a0; have a1 := j32_3; unfold In at a1; have a2 := h2; unfold In at a2; have a3 := h1; unfold In at a3; have a4 := j126_6; unfold In at a4; have a5 := j126_5; unfold In at a5; have a6 := i164; unfold In at a6; have a7 := t_add e164 j126_4 (in_c 1 rfl) rfl; have a8 := (in_c 1 rfl); unfold In at a8; have a9 := i32; unfold In at a9; have a10 := t_add e161 j32_3 (in_c 1 rfl) rfl; omega) | exact fun k hk => (g2_0 k (by have a0 := j126_4; unfold In at a0; have a1 := j32_3; unfold In at a1; have a2 := h2; unfold In at a2; have a3 := h1; unfold In at a3; have a4 := j126_6; unfold In at a4; have a5 := j126_5; unfold In at a5; have a6 := i164; unfold In at a6; have a7 := t_add e164 j126_4 (in_c 1 rfl) rfl; have a8 := (in_c 1 rfl); unfold In at a8; have a9 := i32; unfold In at a9; have a10 := t_add e161 j32_3 (in_c 1 rfl) rfl; omega)).1
            have n32c : ∀ k : Nat, (k : Int) < (x1).toInt → (sc126.1 159 k).toInt < (z164).toInt := by first | (intro k hk; have h := g42_2 k hk; have a0 := j126_4; unfold In at a0; have a1 := j32_3; unfold In at a1; have a2 := h2; unfold In at a2; have a3 := h1; unfold In at a3; have a4 := j126_6; unfold In at a4; have a5 := j126_5; unfold In at a5; have a6 := i164; unfold In at a6; have a7 := t_add e164 j126_4 (in_c 1 rfl) rfl; have a8 := (in_c 1 rfl); unfold In at a8; have a9 := i32; unfold In at a9; have a10 := t_add e161 j32_3 (in_c 1 rfl) rfl; omega) | (intro k hk; have h := g126_2 k hk; have a0 := j126_4; unfold In at a0; have a1 := j32_3; unfold In at a1; have a2 := h2; unfold In at a2; have a3 := h1; unfold In at a3; have a4 := j126_6; unfold In at a4; have a5 := j126_5; unfold In at a5; have a6 := i164; unfold In at a6; have a7 := t_add e164 j126_4 (in_c 1 rfl) rfl; have a8 := (in_c 1 rfl); unfold In at a8; have a9 := i32; unfold In at a9; have a10 := t_add e161 j32_3 (in_c 1 rfl) rfl; omega) | exact fun k hk => (g2_0 k (by have a0 := j126_4; unfold In at a0; have a1 := j32_3; unfold In at a1; have a2 := h2; unfold In at a2; have a3 := h1; unfold In at a3; have a4 := j126_6; unfold In at a4; have a5 := j126_5; unfold In at a5; have a6 := i164; unfold In at a6; have a7 := t_add e164 j126_4 (in_c 1 rfl) rfl; have a8 := (in_c 1 rfl); unfold In at a8; have a9 := i32; unfold In at a9; have a10 := t_add e161 j32_3 (in_c 1 rfl) rfl; omega)).2
            exact gg_w (by first | exact Nat.le_add_right _ _ | exact gw2 | exact gw3 | exact gwe rfl | exact gwf rfl | exact gwg rfl | exact gwh rfl | omega) (gg_f (gf_cons rfl (gf_cons rfl (gf_cons rfl (gf_cons rfl (gf_cons rfl gf_nil))))) (ih32 sc126 z161 z164 hIc126 hFc126 i32 (in_w 0 32 i164 rfl) n32 n32a n32b n32c (m_up mm32 (t_add e164 j126_4 (in_c 1 rfl) rfl) (in_w 1 1 (in_c 1 rfl) rfl))))
          · skip
            have i133 := z_lt (-2147483648) (-1) c133 (i_rng z132) rfl
            refine g_aload_n 137 (gd rfl) rfl rfl ?_
            refine g_getA (q2 := 158) 140 (gd rfl) rfl rfl rfl rfl ?_
            refine g_iload 142 (gd rfl) rfl rfl ?_
            refine g_iload_n 143 (gd rfl) rfl rfl ?_
            refine g_iastore 144 (gd rfl) rfl (n := 32) rfl (in_ix j126_6 rfl) ?_
            have hI143 := inv_sI (q := 158) (j := y126_6.toNatClampNeg) hIc126 rfl (in_w (-2147483648) 2147483647 j32_3 rfl)
            refine g_aload_n 145 (gd rfl) rfl rfl ?_
            refine g_getA (q2 := 153) 148 (gd rfl) rfl rfl rfl rfl ?_
            refine g_aload_n 149 (gd rfl) rfl rfl ?_
            refine g_getA (q2 := 157) 152 (gd rfl) rfl rfl rfl rfl ?_
            refine g_iload 154 (gd rfl) rfl rfl ?_
            refine g_iaload 155 (gd rfl) rfl (n := 32) rfl (in_ix j126_6 rfl) (fun z154 e154 => ?_)
            have i154 := inv_I hI143 (n := 32) (t := 0) (-1) 159 rfl (in_ix j126_6 rfl) rfl e154
            have i155 : In z154 0 159 := by have hq := (g126_3 y126_6.toNatClampNeg (by show ((y126_6.toInt.toNat : Nat) : Int) < _; have a0 := j126_4; unfold In at a0; have a1 := j32_3; unfold In at a1; have a2 := h2; unfold In at a2; have a3 := h1; unfold In at a3; have a4 := j126_6; unfold In at a4; have a5 := j126_5; unfold In at a5; omega) g126_4).1; have hne : y126_6.toInt ≠ x2.toInt := (by have e6 : y126_6.toNatClampNeg = y126_6.toInt.toNat := rfl; have a0 := j126_4; unfold In at a0; have a1 := j32_3; unfold In at a1; have a2 := h2; unfold In at a2; have a3 := h1; unfold In at a3; have a4 := j126_6; unfold In at a4; have a5 := j126_5; unfold In at a5; omega); have h := (tp_u (t := (sI sc126 158 y126_6.toNatClampNeg y32_3)) (y := y126_6) (b := z154) (f := y126_6) q_0 (by have a0 := j126_4; unfold In at a0; have a1 := j32_3; unfold In at a1; have a2 := h2; unfold In at a2; have a3 := h1; unfold In at a3; have a4 := j126_6; unfold In at a4; have a5 := j126_5; unfold In at a5; omega) (by have a0 := j126_4; unfold In at a0; have a1 := j32_3; unfold In at a1; have a2 := h2; unfold In at a2; have a3 := h1; unfold In at a3; have a4 := j126_6; unfold In at a4; have a5 := j126_5; unfold In at a5; omega) (by have a0 := j126_4; unfold In at a0; have a1 := j32_3; unfold In at a1; have a2 := h2; unfold In at a2; have a3 := h1; unfold In at a3; have a4 := j126_6; unfold In at a4; have a5 := j126_5; unfold In at a5; omega) e154 ((sI_p rfl).trans (hFc126.1 157 rfl))); exact ⟨h.1, i154.2⟩
            refine g_iaload 156 (gd rfl) rfl (n := 160) rfl (in_ix i155 rfl) (fun z155 e155 => ?_)
            have i155a := inv_I hI143 (n := 160) (t := 0) 0 31 rfl (in_ix i155 rfl) rfl e155
            have hq := g126_3 y126_6.toNatClampNeg (by show ((y126_6.toInt.toNat : Nat) : Int) < _; have a0 := j126_4; unfold In at a0; have a1 := j32_3; unfold In at a1; have a2 := h2; unfold In at a2; have a3 := h1; unfold In at a3; have a4 := j126_6; unfold In at a4; have a5 := j126_5; unfold In at a5; omega) g126_4; have hne : y126_6.toInt ≠ x2.toInt := (by have e6 : y126_6.toNatClampNeg = y126_6.toInt.toNat := rfl; have a0 := j126_4; unfold In at a0; have a1 := j32_3; unfold In at a1; have a2 := h2; unfold In at a2; have a3 := h1; unfold In at a3; have a4 := j126_6; unfold In at a4; have a5 := j126_5; unfold In at a5; omega); have hz88 := ((tp_u (t := (sI sc126 158 y126_6.toNatClampNeg y32_3)) (y := y126_6) (b := z154) (f := z155) q_0 (by have a0 := j126_4; unfold In at a0; have a1 := j32_3; unfold In at a1; have a2 := h2; unfold In at a2; have a3 := h1; unfold In at a3; have a4 := j126_6; unfold In at a4; have a5 := j126_5; unfold In at a5; omega) (by have a0 := j126_4; unfold In at a0; have a1 := j32_3; unfold In at a1; have a2 := h2; unfold In at a2; have a3 := h1; unfold In at a3; have a4 := j126_6; unfold In at a4; have a5 := j126_5; unfold In at a5; omega) (by have a0 := j126_4; unfold In at a0; have a1 := j32_3; unfold In at a1; have a2 := h2; unfold In at a2; have a3 := h1; unfold In at a3; have a4 := j126_6; unfold In at a4; have a5 := j126_5; unfold In at a5; omega) e154 ((sI_p rfl).trans (hFc126.1 157 rfl)))).2 e155 ((sI_p rfl).trans (hFc126.1 153 rfl)); have hz89 : (z155).toInt = (nx s y126_6.toNatClampNeg : Int) := hz88.2 i155a.1; have hy89 := hz88.1; have hx156 := hq.2; have hy156 : z155.toNatClampNeg = nx s y126_6.toNatClampNeg := (by have e6 : z155.toNatClampNeg = z155.toInt.toNat := rfl; omega)
            refine g_istore 158 (gd rfl) rfl (Nat.le_of_ble_eq_true rfl) ?_
            refine g_goto 126 (gd rfl) rfl ?_
            have n126 : (z155).toInt < (x1).toInt := by have a0 := j126_4; unfold In at a0; have a1 := j32_3; unfold In at a1; have a2 := h2; unfold In at a2; have a3 := h1; unfold In at a3; have a4 := j126_6; unfold In at a4; have a5 := j126_5; unfold In at a5; have a6 := i155a; unfold In at a6; omega
            have n126a : 0 ≤ (z155).toInt := by have a0 := j126_4; unfold In at a0; have a1 := j32_3; unfold In at a1; have a2 := h2; unfold In at a2; have a3 := h1; unfold In at a3; have a4 := j126_6; unfold In at a4; have a5 := j126_5; unfold In at a5; have a6 := i155a; unfold In at a6; omega
            have n126b : ((y32_3).toInt + (cM ((sI sc126 158 y126_6.toNatClampNeg y32_3).1 158) (x1).toNatClampNeg : Int) ≤ (x1).toInt ∧ ((sI sc126 158 y126_6.toNatClampNeg y32_3).1 158 (z155).toNatClampNeg).toInt < 0) ∨ (y32_3).toInt + 1 + (cM ((sI sc126 158 y126_6.toNatClampNeg y32_3).1 158) (x1).toNatClampNeg : Int) ≤ (x1).toInt := by first | (right; rw [sI_q]; have hu := up_cm (f := sc126.1 158) (y := y126_6) (b := y32_3) (n := x1.toNatClampNeg) (by rw [← e132]; exact c133) (by have a0 := j126_4; unfold In at a0; have a1 := j32_3; unfold In at a1; have a2 := h2; unfold In at a2; have a3 := h1; unfold In at a3; have a4 := j126_6; unfold In at a4; have a5 := j126_5; unfold In at a5; have a6 := i155a; unfold In at a6; omega) (by show y126_6.toInt.toNat < x1.toInt.toNat; have a0 := j126_4; unfold In at a0; have a1 := j32_3; unfold In at a1; have a2 := h2; unfold In at a2; have a3 := h1; unfold In at a3; have a4 := j126_6; unfold In at a4; have a5 := j126_5; unfold In at a5; have a6 := i155a; unfold In at a6; omega); rcases g126_0 with hg | hg; (have a0 := j126_4; unfold In at a0; have a1 := j32_3; unfold In at a1; have a2 := h2; unfold In at a2; have a3 := h1; unfold In at a3; have a4 := j126_6; unfold In at a4; have a5 := j126_5; unfold In at a5; have a6 := i155a; unfold In at a6; omega); (have a0 := j126_4; unfold In at a0; have a1 := j32_3; unfold In at a1; have a2 := h2; unfold In at a2; have a3 := h1; unfold In at a3; have a4 := j126_6; unfold In at a4; have a5 := j126_5; unfold In at a5; have a6 := i155a; unfold In at a6; omega)) | exact Or.inl ⟨g42_0, by rw [← e106]; exact c107⟩
            have n126c : ∀ k : Nat, (k : Int) < (x1).toInt → ((sI sc126 158 y126_6.toNatClampNeg y32_3).1 158 k).toInt < (y32_3).toInt + 1 := by first | (intro k hk; rw [sI_q]; exact up_lt (fun c => g126_1 k hk) (by have a0 := j126_4; unfold In at a0; have a1 := j32_3; unfold In at a1; have a2 := h2; unfold In at a2; have a3 := h1; unfold In at a3; have a4 := j126_6; unfold In at a4; have a5 := j126_5; unfold In at a5; have a6 := i155a; unfold In at a6; omega)) | (intro k hk; have h := g42_1 k hk; have a0 := j126_4; unfold In at a0; have a1 := j32_3; unfold In at a1; have a2 := h2; unfold In at a2; have a3 := h1; unfold In at a3; have a4 := j126_6; unfold In at a4; have a5 := j126_5; unfold In at a5; have a6 := i155a; unfold In at a6; omega)
            have n126d : ∀ k : Nat, (k : Int) < (x1).toInt → ((sI sc126 158 y126_6.toNatClampNeg y32_3).1 159 k).toInt < (y32_4).toInt + 1 := by first | (rw [sI_p rfl]; exact g126_2) | exact g42_2
            have n126e : VD s ((sI sc126 158 y126_6.toNatClampNeg y32_3).1 159) (x1).toInt (x2).toInt (y32_4).toInt := by first | (rw [sI_p rfl]; exact g126_3) | exact vc_e g42_3 (by have a0 := j126_4; unfold In at a0; have a1 := j32_3; unfold In at a1; have a2 := h2; unfold In at a2; have a3 := h1; unfold In at a3; have a4 := j126_6; unfold In at a4; have a5 := j126_5; unfold In at a5; have a6 := i155a; unfold In at a6; omega) (by rw [← e116]; exact c119)
            have n126f : ((sI sc126 158 y126_6.toNatClampNeg y32_3).1 159 (z155).toNatClampNeg).toInt = (y32_4).toInt := by first | (rw [sI_p rfl, hy156]; exact hx156) | (rw [← e116]; exact c119)
            have m126 : cM ((sI sc126 158 y126_6.toNatClampNeg y32_3).1 158) (x1).toNatClampNeg < k126 := by rw [sI_q]; have hu := up_cm (f := sc126.1 158) (y := y126_6) (b := y32_3) (n := x1.toNatClampNeg) (by rw [← e132]; exact c133) (by have a0 := j126_4; unfold In at a0; have a1 := j32_3; unfold In at a1; have a2 := h2; unfold In at a2; have a3 := h1; unfold In at a3; have a4 := j126_6; unfold In at a4; have a5 := j126_5; unfold In at a5; have a6 := i155a; unfold In at a6; omega) (by show y126_6.toInt.toNat < x1.toInt.toNat; have a0 := j126_4; unfold In at a0; have a1 := j32_3; unfold In at a1; have a2 := h2; unfold In at a2; have a3 := h1; unfold In at a3; have a4 := j126_6; unfold In at a4; have a5 := j126_5; unfold In at a5; have a6 := i155a; unfold In at a6; omega); have hm := mm126; omega
            exact gg_w (by first | exact Nat.le_add_right _ _ | exact gw2 | exact gw3 | exact gwe rfl | exact gwf rfl | exact gwg rfl | exact gwh rfl | omega) (gg_f (gf_cons rfl (gf_cons rfl (gf_cons rfl (gf_cons rfl (gf_cons rfl (gf_cons rfl (gf_cons rfl gf_nil))))))) (ih126  (sI sc126 158 y126_6.toNatClampNeg y32_3) y126_5 z155 hI143 (fr_sI rfl hFc126) (in_w 0 31 j126_4 rfl) (in_w 0 31 j126_5 rfl) (in_w 0 31 i155a rfl) n126 n126a n126b n126c n126d n126e n126f m126))
      have ct42 : ∀ (k42 : Nat) (sc42 : GS) (y42_5 : Int32), Inv sc42 → Fr fm_364 s sc42 → (In y32_4 0 31) → (In y42_5 0 31) → ((y42_5).toInt < (x1).toInt) → (0 ≤ (y42_5).toInt) → ((y32_3).toInt + (cM (sc42.1 158) (x1).toNatClampNeg : Int) ≤ (x1).toInt) → (∀ k : Nat, (k : Int) < (x1).toInt → (sc42.1 158 k).toInt < (y32_3).toInt) → (∀ k : Nat, (k : Int) < (x1).toInt → (sc42.1 159 k).toInt < (y32_4).toInt + 1) → (VC s (sc42.1 159) (x1).toInt (x2).toInt (y32_4).toInt (y42_5).toInt) → cM (sc42.1 159) (x1).toNatClampNeg < k42 → GG Z (d - 1) 364 post (gx xp) (29702 + k32 * 63902 + 29702 + k42 * 900) 42 (fun j => xlook j [(0, .ref (A 109)), (1, .int x1), (2, .int x2), (3, .int y32_3), (4, .int y32_4), (5, .int y42_5)]) [] (WW Z A sc42 ++ ex) 0 0 := by
        intro k42
        induction k42 with
        | zero => intro sc42 y42_5 hIc42 hFc42 j42_4 j42_5 n42_0 n42_1 g42_0 g42_1 g42_2 g42_3 mm42; exact absurd mm42 (Nat.not_lt_zero _)
        | succ k42 ih42 =>
          intro sc42 y42_5 hIc42 hFc42 j42_4 j42_5 n42_0 n42_1 g42_0 g42_1 g42_2 g42_3 mm42
          refine gg_w (M := 29702 + k32 * 63902 + 29702 + k42 * 900 + 900) gws ?_
          refine g_iload 44 (gd rfl) rfl rfl ?_
          refine g_iload_n 45 (gd rfl) rfl rfl ?_
          refine g_cmp_eq 48 94 (gd rfl) rfl rfl (fun c45 => ?_) (fun c45 => ?_)
          · skip
            refine g_iload 96 (gd rfl) rfl rfl ?_
            refine g_iload_n 97 (gd rfl) rfl rfl ?_
            refine g_cmp_eq 100 164 (gd rfl) rfl rfl (fun c97 => ?_) (fun c97 => ?_)
            · skip
              refine g_iinc 167 (gd rfl) rfl rfl (Nat.le_of_ble_eq_true rfl) (fun z164 e164 => ?_)
              have i164 := in_add 1 32 e164 j42_4 (in_c 1 rfl) rfl rfl
              refine g_goto 32 (gd rfl) rfl ?_
              have n32 : 0 ≤ (y32_3).toInt := by first | exact n32_0 | (have a0 := j42_4; unfold In at a0; have a1 := j32_3; unfold In at a1; have a2 := h2; unfold In at a2; have a3 := h1; unfold In at a3; have a4 := j42_5; unfold In at a4; have a5 := i164; unfold In at a5; have a6 := t_add e164 j42_4 (in_c 1 rfl) rfl; have a7 := (in_c 1 rfl); unfold In at a7; omega)
              have n32a : (y32_3).toInt + (cM (sc42.1 158) (x1).toNatClampNeg : Int) ≤ (x1).toInt := by first | exact g42_0 | (first | exact g42_0 | (rcases g126_0 with hg | hg; (exfalso; rw [← e132] at hg; have hz := c133; omega); have a0 := j42_4; unfold In at a0; have a1 := j32_3; unfold In at a1; have a2 := h2; unfold In at a2; have a3 := h1; unfold In at a3; have a4 := j42_5; unfold In at a4; have a5 := i164; unfold In at a5; have a6 := t_add e164 j42_4 (in_c 1 rfl) rfl; have a7 := (in_c 1 rfl); unfold In at a7; omega) | (have hc := cM_le (sc42.1 158) (x1).toNatClampNeg; have h0 : (Int32.ofInt 0).toInt = 0 := rfl; have hmn : ((x1).toNatClampNeg : Int) = (x1).toInt := (by show (((x1).toInt.toNat : Nat) : Int) = _; have a0 := j42_4; unfold In at a0; have a1 := j32_3; unfold In at a1; have a2 := h2; unfold In at a2; have a3 := h1; unfold In at a3; have a4 := j42_5; unfold In at a4; have a5 := i164; unfold In at a5; have a6 := t_add e164 j42_4 (in_c 1 rfl) rfl; have a7 := (in_c 1 rfl); unfold In at a7; omega); omega))
              have n32b : ∀ k : Nat, (k : Int) < (x1).toInt → (sc42.1 158 k).toInt < (y32_3).toInt := by first | exact g42_1 | (first | exact g42_1 | (intro k hk; have h := g126_1 k hk; have a0 := j42_4; unfold In at a0; have a1 := j32_3; unfold In at a1; have a2 := h2; unfold In at a2; have a3 := h1; unfold In at a3; have a4 := j42_5; unfold In at a4; have a5 := i164; unfold In at a5; have a6 := t_add e164 j42_4 (in_c 1 rfl) rfl; have a7 := (in_c 1 rfl); unfold In at a7; omega) | exact fun k hk => (g2_0 k (by have a0 := j42_4; unfold In at a0; have a1 := j32_3; unfold In at a1; have a2 := h2; unfold In at a2; have a3 := h1; unfold In at a3; have a4 := j42_5; unfold In at a4; have a5 := i164; unfold In at a5; have a6 := t_add e164 j42_4 (in_c 1 rfl) rfl; have a7 := (in_c 1 rfl); unfold In at a7; omega)).1)
              have n32c : ∀ k : Nat, (k : Int) < (x1).toInt → (sc42.1 159 k).toInt < (z164).toInt := by first | (intro k hk; have h := g42_2 k hk; have a0 := j42_4; unfold In at a0; have a1 := j32_3; unfold In at a1; have a2 := h2; unfold In at a2; have a3 := h1; unfold In at a3; have a4 := j42_5; unfold In at a4; have a5 := i164; unfold In at a5; have a6 := t_add e164 j42_4 (in_c 1 rfl) rfl; have a7 := (in_c 1 rfl); unfold In at a7; omega) | (intro k hk; have h := g126_2 k hk; have a0 := j42_4; unfold In at a0; have a1 := j32_3; unfold In at a1; have a2 := h2; unfold In at a2; have a3 := h1; unfold In at a3; have a4 := j42_5; unfold In at a4; have a5 := i164; unfold In at a5; have a6 := t_add e164 j42_4 (in_c 1 rfl) rfl; have a7 := (in_c 1 rfl); unfold In at a7; omega) | exact fun k hk => (g2_0 k (by have a0 := j42_4; unfold In at a0; have a1 := j32_3; unfold In at a1; have a2 := h2; unfold In at a2; have a3 := h1; unfold In at a3; have a4 := j42_5; unfold In at a4; have a5 := i164; unfold In at a5; have a6 := t_add e164 j42_4 (in_c 1 rfl) rfl; have a7 := (in_c 1 rfl); unfold In at a7; omega)).2
              exact gg_w (by first | exact Nat.le_add_right _ _ | exact gw2 | exact gw3 | exact gwe rfl | exact gwf rfl | exact gwg rfl | exact gwh rfl | omega) (gg_f (gf_cons rfl (gf_cons rfl (gf_cons rfl (gf_cons rfl (gf_cons rfl gf_nil))))) (ih32 sc42 y32_3 z164 hIc42 hFc42 (in_w 0 32 j32_3 rfl) (in_w 0 32 i164 rfl) n32 n32a n32b n32c (m_up mm32 (t_add e164 j42_4 (in_c 1 rfl) rfl) (in_w 1 1 (in_c 1 rfl) rfl))))
            · skip
              refine g_aload_n 101 (gd rfl) rfl rfl ?_
              refine g_getA (q2 := 158) 104 (gd rfl) rfl rfl rfl rfl ?_
              refine g_iload 106 (gd rfl) rfl rfl ?_
              refine g_iaload 107 (gd rfl) rfl (n := 32) rfl (in_ix j42_5 rfl) (fun z106 e106 => ?_)
              refine g_if_ge 110 164 (gd rfl) rfl rfl (fun c107 => ?_) (fun c107 => ?_)
              · skip
                have i107 := z_ge 0 2147483647 c107 (i_rng z106) rfl
                refine g_iinc 167 (gd rfl) rfl rfl (Nat.le_of_ble_eq_true rfl) (fun z164 e164 => ?_)
                have i164 := in_add 1 32 e164 j42_4 (in_c 1 rfl) rfl rfl
                refine g_goto 32 (gd rfl) rfl ?_
                have n32 : 0 ≤ (y32_3).toInt := by first | exact n32_0 | (have a0 := j42_4; unfold In at a0; have a1 := j32_3; unfold In at a1; have a2 := h2; unfold In at a2; have a3 := h1; unfold In at a3; have a4 := j42_5; unfold In at a4; have a5 := i164; unfold In at a5; have a6 := t_add e164 j42_4 (in_c 1 rfl) rfl; have a7 := (in_c 1 rfl); unfold In at a7; omega)
                have n32a : (y32_3).toInt + (cM (sc42.1 158) (x1).toNatClampNeg : Int) ≤ (x1).toInt := by first | exact g42_0 | (first | exact g42_0 | (rcases g126_0 with hg | hg; (exfalso; rw [← e132] at hg; have hz := c133; omega); have a0 := j42_4; unfold In at a0; have a1 := j32_3; unfold In at a1; have a2 := h2; unfold In at a2; have a3 := h1; unfold In at a3; have a4 := j42_5; unfold In at a4; have a5 := i164; unfold In at a5; have a6 := t_add e164 j42_4 (in_c 1 rfl) rfl; have a7 := (in_c 1 rfl); unfold In at a7; omega) | (have hc := cM_le (sc42.1 158) (x1).toNatClampNeg; have h0 : (Int32.ofInt 0).toInt = 0 := rfl; have hmn : ((x1).toNatClampNeg : Int) = (x1).toInt := (by show (((x1).toInt.toNat : Nat) : Int) = _; have a0 := j42_4; unfold In at a0; have a1 := j32_3; unfold In at a1; have a2 := h2; unfold In at a2; have a3 := h1; unfold In at a3; have a4 := j42_5; unfold In at a4; have a5 := i164; unfold In at a5; have a6 := t_add e164 j42_4 (in_c 1 rfl) rfl; have a7 := (in_c 1 rfl); unfold In at a7; omega); omega))
                have n32b : ∀ k : Nat, (k : Int) < (x1).toInt → (sc42.1 158 k).toInt < (y32_3).toInt := by first | exact g42_1 | (first | exact g42_1 | (intro k hk; have h := g126_1 k hk; have a0 := j42_4; unfold In at a0; have a1 := j32_3; unfold In at a1; have a2 := h2; unfold In at a2; have a3 := h1; unfold In at a3; have a4 := j42_5; unfold In at a4; have a5 := i164; unfold In at a5; have a6 := t_add e164 j42_4 (in_c 1 rfl) rfl; have a7 := (in_c 1 rfl); unfold In at a7; omega) | exact fun k hk => (g2_0 k (by have a0 := j42_4; unfold In at a0; have a1 := j32_3; unfold In at a1; have a2 := h2; unfold In at a2; have a3 := h1; unfold In at a3; have a4 := j42_5; unfold In at a4; have a5 := i164; unfold In at a5; have a6 := t_add e164 j42_4 (in_c 1 rfl) rfl; have a7 := (in_c 1 rfl); unfold In at a7; omega)).1)
                have n32c : ∀ k : Nat, (k : Int) < (x1).toInt → (sc42.1 159 k).toInt < (z164).toInt := by first | (intro k hk; have h := g42_2 k hk; have a0 := j42_4; unfold In at a0; have a1 := j32_3; unfold In at a1; have a2 := h2; unfold In at a2; have a3 := h1; unfold In at a3; have a4 := j42_5; unfold In at a4; have a5 := i164; unfold In at a5; have a6 := t_add e164 j42_4 (in_c 1 rfl) rfl; have a7 := (in_c 1 rfl); unfold In at a7; omega) | (intro k hk; have h := g126_2 k hk; have a0 := j42_4; unfold In at a0; have a1 := j32_3; unfold In at a1; have a2 := h2; unfold In at a2; have a3 := h1; unfold In at a3; have a4 := j42_5; unfold In at a4; have a5 := i164; unfold In at a5; have a6 := t_add e164 j42_4 (in_c 1 rfl) rfl; have a7 := (in_c 1 rfl); unfold In at a7; omega) | exact fun k hk => (g2_0 k (by have a0 := j42_4; unfold In at a0; have a1 := j32_3; unfold In at a1; have a2 := h2; unfold In at a2; have a3 := h1; unfold In at a3; have a4 := j42_5; unfold In at a4; have a5 := i164; unfold In at a5; have a6 := t_add e164 j42_4 (in_c 1 rfl) rfl; have a7 := (in_c 1 rfl); unfold In at a7; omega)).2
                exact gg_w (by first | exact Nat.le_add_right _ _ | exact gw2 | exact gw3 | exact gwe rfl | exact gwf rfl | exact gwg rfl | exact gwh rfl | omega) (gg_f (gf_cons rfl (gf_cons rfl (gf_cons rfl (gf_cons rfl (gf_cons rfl gf_nil))))) (ih32 sc42 y32_3 z164 hIc42 hFc42 (in_w 0 32 j32_3 rfl) (in_w 0 32 i164 rfl) n32 n32a n32b n32c (m_up mm32 (t_add e164 j42_4 (in_c 1 rfl) rfl) (in_w 1 1 (in_c 1 rfl) rfl))))
              · skip
                have i107 := z_lt (-2147483648) (-1) c107 (i_rng z106) rfl
                refine g_aload_n 111 (gd rfl) rfl rfl ?_
                refine g_getA (q2 := 159) 114 (gd rfl) rfl rfl rfl rfl ?_
                refine g_iload 116 (gd rfl) rfl rfl ?_
                refine g_iaload 117 (gd rfl) rfl (n := 32) rfl (in_ix j42_5 rfl) (fun z116 e116 => ?_)
                refine g_iload 119 (gd rfl) rfl rfl ?_
                refine g_cmp_ne 122 164 (gd rfl) rfl rfl (fun c119 => ?_) (fun c119 => ?_)
                · skip
                  refine g_iinc 167 (gd rfl) rfl rfl (Nat.le_of_ble_eq_true rfl) (fun z164 e164 => ?_)
                  have i164 := in_add 1 32 e164 j42_4 (in_c 1 rfl) rfl rfl
                  refine g_goto 32 (gd rfl) rfl ?_
                  have n32 : 0 ≤ (y32_3).toInt := by first | exact n32_0 | (have a0 := j42_4; unfold In at a0; have a1 := j32_3; unfold In at a1; have a2 := h2; unfold In at a2; have a3 := h1; unfold In at a3; have a4 := j42_5; unfold In at a4; have a5 := i164; unfold In at a5; have a6 := t_add e164 j42_4 (in_c 1 rfl) rfl; have a7 := (in_c 1 rfl); unfold In at a7; omega)
                  have n32a : (y32_3).toInt + (cM (sc42.1 158) (x1).toNatClampNeg : Int) ≤ (x1).toInt := by first | exact g42_0 | (first | exact g42_0 | (rcases g126_0 with hg | hg; (exfalso; rw [← e132] at hg; have hz := c133; omega); have a0 := j42_4; unfold In at a0; have a1 := j32_3; unfold In at a1; have a2 := h2; unfold In at a2; have a3 := h1; unfold In at a3; have a4 := j42_5; unfold In at a4; have a5 := i164; unfold In at a5; have a6 := t_add e164 j42_4 (in_c 1 rfl) rfl; have a7 := (in_c 1 rfl); unfold In at a7; omega) | (have hc := cM_le (sc42.1 158) (x1).toNatClampNeg; have h0 : (Int32.ofInt 0).toInt = 0 := rfl; have hmn : ((x1).toNatClampNeg : Int) = (x1).toInt := (by show (((x1).toInt.toNat : Nat) : Int) = _; have a0 := j42_4; unfold In at a0; have a1 := j32_3; unfold In at a1; have a2 := h2; unfold In at a2; have a3 := h1; unfold In at a3; have a4 := j42_5; unfold In at a4; have a5 := i164; unfold In at a5; have a6 := t_add e164 j42_4 (in_c 1 rfl) rfl; have a7 := (in_c 1 rfl); unfold In at a7; omega); omega))
                  have n32b : ∀ k : Nat, (k : Int) < (x1).toInt → (sc42.1 158 k).toInt < (y32_3).toInt := by first | exact g42_1 | (first | exact g42_1 | (intro k hk; have h := g126_1 k hk; have a0 := j42_4; unfold In at a0; have a1 := j32_3; unfold In at a1; have a2 := h2; unfold In at a2; have a3 := h1; unfold In at a3; have a4 := j42_5; unfold In at a4; have a5 := i164; unfold In at a5; have a6 := t_add e164 j42_4 (in_c 1 rfl) rfl; have a7 := (in_c 1 rfl); unfold In at a7; omega) | exact fun k hk => (g2_0 k (by have a0 := j42_4; unfold In at a0; have a1 := j32_3; unfold In at a1; have a2 := h2; unfold In at a2; have a3 := h1; unfold In at a3; have a4 := j42_5; unfold In at a4; have a5 := i164; unfold In at a5; have a6 := t_add e164 j42_4 (in_c 1 rfl) rfl; have a7 := (in_c 1 rfl); unfold In at a7; omega)).1)
                  have n32c : ∀ k : Nat, (k : Int) < (x1).toInt → (sc42.1 159 k).toInt < (z164).toInt := by first | (intro k hk; have h := g42_2 k hk; have a0 := j42_4; unfold In at a0; have a1 := j32_3; unfold In at a1; have a2 := h2; unfold In at a2; have a3 := h1; unfold In at a3; have a4 := j42_5; unfold In at a4; have a5 := i164; unfold In at a5; have a6 := t_add e164 j42_4 (in_c 1 rfl) rfl; have a7 := (in_c 1 rfl); unfold In at a7; omega) | (intro k hk; have h := g126_2 k hk; have a0 := j42_4; unfold In at a0; have a1 := j32_3; unfold In at a1; have a2 := h2; unfold In at a2; have a3 := h1; unfold In at a3; have a4 := j42_5; unfold In at a4; have a5 := i164; unfold In at a5; have a6 := t_add e164 j42_4 (in_c 1 rfl) rfl; have a7 := (in_c 1 rfl); unfold In at a7; omega) | exact fun k hk => (g2_0 k (by have a0 := j42_4; unfold In at a0; have a1 := j32_3; unfold In at a1; have a2 := h2; unfold In at a2; have a3 := h1; unfold In at a3; have a4 := j42_5; unfold In at a4; have a5 := i164; unfold In at a5; have a6 := t_add e164 j42_4 (in_c 1 rfl) rfl; have a7 := (in_c 1 rfl); unfold In at a7; omega)).2
                  exact gg_w (by first | exact Nat.le_add_right _ _ | exact gw2 | exact gw3 | exact gwe rfl | exact gwf rfl | exact gwg rfl | exact gwh rfl | omega) (gg_f (gf_cons rfl (gf_cons rfl (gf_cons rfl (gf_cons rfl (gf_cons rfl gf_nil))))) (ih32 sc42 y32_3 z164 hIc42 hFc42 (in_w 0 32 j32_3 rfl) (in_w 0 32 i164 rfl) n32 n32a n32b n32c (m_up mm32 (t_add e164 j42_4 (in_c 1 rfl) rfl) (in_w 1 1 (in_c 1 rfl) rfl))))
                · skip
                  have i119 := r_eq1 0 31 c119 (i_rng z116) j42_4 rfl
                  refine g_iload 124 (gd rfl) rfl rfl ?_
                  refine g_istore 126 (gd rfl) rfl (Nat.le_of_ble_eq_true rfl) ?_
                  have n126 : (y42_5).toInt < (x1).toInt := by first | exact n42_0 | (have a0 := j42_4; unfold In at a0; have a1 := j32_3; unfold In at a1; have a2 := h2; unfold In at a2; have a3 := h1; unfold In at a3; have a4 := j42_5; unfold In at a4; omega)
                  have n126a : 0 ≤ (y42_5).toInt := by first | exact n42_1 | (have a0 := j42_4; unfold In at a0; have a1 := j32_3; unfold In at a1; have a2 := h2; unfold In at a2; have a3 := h1; unfold In at a3; have a4 := j42_5; unfold In at a4; omega)
                  have n126b : ((y32_3).toInt + (cM (sc42.1 158) (x1).toNatClampNeg : Int) ≤ (x1).toInt ∧ (sc42.1 158 (y42_5).toNatClampNeg).toInt < 0) ∨ (y32_3).toInt + 1 + (cM (sc42.1 158) (x1).toNatClampNeg : Int) ≤ (x1).toInt := by first | (right; rw [sI_q]; have hu := up_cm (f := sc126.1 158) (y := y126_6) (b := y32_3) (n := x1.toNatClampNeg) (by rw [← e132]; exact c133) (by have a0 := j42_4; unfold In at a0; have a1 := j32_3; unfold In at a1; have a2 := h2; unfold In at a2; have a3 := h1; unfold In at a3; have a4 := j42_5; unfold In at a4; omega) (by show y126_6.toInt.toNat < x1.toInt.toNat; have a0 := j42_4; unfold In at a0; have a1 := j32_3; unfold In at a1; have a2 := h2; unfold In at a2; have a3 := h1; unfold In at a3; have a4 := j42_5; unfold In at a4; omega); rcases g126_0 with hg | hg; (have a0 := j42_4; unfold In at a0; have a1 := j32_3; unfold In at a1; have a2 := h2; unfold In at a2; have a3 := h1; unfold In at a3; have a4 := j42_5; unfold In at a4; omega); (have a0 := j42_4; unfold In at a0; have a1 := j32_3; unfold In at a1; have a2 := h2; unfold In at a2; have a3 := h1; unfold In at a3; have a4 := j42_5; unfold In at a4; omega)) | exact Or.inl ⟨g42_0, by rw [← e106]; exact c107⟩
                  have n126c : ∀ k : Nat, (k : Int) < (x1).toInt → (sc42.1 158 k).toInt < (y32_3).toInt + 1 := by first | (intro k hk; rw [sI_q]; exact up_lt (fun c => g126_1 k hk) (by have a0 := j42_4; unfold In at a0; have a1 := j32_3; unfold In at a1; have a2 := h2; unfold In at a2; have a3 := h1; unfold In at a3; have a4 := j42_5; unfold In at a4; omega)) | (intro k hk; have h := g42_1 k hk; have a0 := j42_4; unfold In at a0; have a1 := j32_3; unfold In at a1; have a2 := h2; unfold In at a2; have a3 := h1; unfold In at a3; have a4 := j42_5; unfold In at a4; omega)
                  have n126d : ∀ k : Nat, (k : Int) < (x1).toInt → (sc42.1 159 k).toInt < (y32_4).toInt + 1 := by first | (rw [sI_p rfl]; exact g126_2) | exact g42_2
                  have n126e : VD s (sc42.1 159) (x1).toInt (x2).toInt (y32_4).toInt := by first | (rw [sI_p rfl]; exact g126_3) | exact vc_e g42_3 (by have a0 := j42_4; unfold In at a0; have a1 := j32_3; unfold In at a1; have a2 := h2; unfold In at a2; have a3 := h1; unfold In at a3; have a4 := j42_5; unfold In at a4; omega) (by rw [← e116]; exact c119)
                  have n126f : (sc42.1 159 (y42_5).toNatClampNeg).toInt = (y32_4).toInt := by first | (rw [sI_p rfl, hy156]; exact hx156) | (rw [← e116]; exact c119)
                  have m126 : cM (sc42.1 158) (x1).toNatClampNeg < 33 := by have hc := cM_le (sc42.1 158) (x1).toNatClampNeg; have hmn : x1.toNatClampNeg = x1.toInt.toNat := rfl; have a0 := j42_4; unfold In at a0; have a1 := j32_3; unfold In at a1; have a2 := h2; unfold In at a2; have a3 := h1; unfold In at a3; have a4 := j42_5; unfold In at a4; omega
                  exact gg_w (by first | exact Nat.le_add_right _ _ | exact gw2 | exact gw3 | exact gwe rfl | exact gwf rfl | exact gwg rfl | exact gwh rfl | omega) (gg_f (gf_cons rfl (gf_cons rfl (gf_cons rfl (gf_cons rfl (gf_cons rfl (gf_cons rfl (gf_cons rfl gf_nil))))))) (ct126 (33) sc42 y42_5 y42_5 hIc42 hFc42 (in_w 0 31 j42_4 rfl) (in_w 0 31 j42_5 rfl) (in_w 0 31 j42_5 rfl) n126 n126a n126b n126c n126d n126e n126f m126))
          · skip
            refine g_aload_n 49 (gd rfl) rfl rfl ?_
            refine g_getA (q2 := 159) 52 (gd rfl) rfl rfl rfl rfl ?_
            refine g_iload 54 (gd rfl) rfl rfl ?_
            refine g_iaload 55 (gd rfl) rfl (n := 32) rfl (in_ix j42_5 rfl) (fun z54 e54 => ?_)
            refine g_if_ge 58 94 (gd rfl) rfl rfl (fun c55 => ?_) (fun c55 => ?_)
            · skip
              have i55 := z_ge 0 2147483647 c55 (i_rng z54) rfl
              refine g_iload 96 (gd rfl) rfl rfl ?_
              refine g_iload_n 97 (gd rfl) rfl rfl ?_
              refine g_cmp_eq 100 164 (gd rfl) rfl rfl (fun c97 => ?_) (fun c97 => ?_)
              · skip
                refine g_iinc 167 (gd rfl) rfl rfl (Nat.le_of_ble_eq_true rfl) (fun z164 e164 => ?_)
                have i164 := in_add 1 32 e164 j42_4 (in_c 1 rfl) rfl rfl
                refine g_goto 32 (gd rfl) rfl ?_
                have n32 : 0 ≤ (y32_3).toInt := by first | exact n32_0 | (have a0 := j42_4; unfold In at a0; have a1 := j32_3; unfold In at a1; have a2 := h2; unfold In at a2; have a3 := h1; unfold In at a3; have a4 := j42_5; unfold In at a4; have a5 := i164; unfold In at a5; have a6 := t_add e164 j42_4 (in_c 1 rfl) rfl; have a7 := (in_c 1 rfl); unfold In at a7; omega)
                have n32a : (y32_3).toInt + (cM (sc42.1 158) (x1).toNatClampNeg : Int) ≤ (x1).toInt := by first | exact g42_0 | (first | exact g42_0 | (rcases g126_0 with hg | hg; (exfalso; rw [← e132] at hg; have hz := c133; omega); have a0 := j42_4; unfold In at a0; have a1 := j32_3; unfold In at a1; have a2 := h2; unfold In at a2; have a3 := h1; unfold In at a3; have a4 := j42_5; unfold In at a4; have a5 := i164; unfold In at a5; have a6 := t_add e164 j42_4 (in_c 1 rfl) rfl; have a7 := (in_c 1 rfl); unfold In at a7; omega) | (have hc := cM_le (sc42.1 158) (x1).toNatClampNeg; have h0 : (Int32.ofInt 0).toInt = 0 := rfl; have hmn : ((x1).toNatClampNeg : Int) = (x1).toInt := (by show (((x1).toInt.toNat : Nat) : Int) = _; have a0 := j42_4; unfold In at a0; have a1 := j32_3; unfold In at a1; have a2 := h2; unfold In at a2; have a3 := h1; unfold In at a3; have a4 := j42_5; unfold In at a4; have a5 := i164; unfold In at a5; have a6 := t_add e164 j42_4 (in_c 1 rfl) rfl; have a7 := (in_c 1 rfl); unfold In at a7; omega); omega))
                have n32b : ∀ k : Nat, (k : Int) < (x1).toInt → (sc42.1 158 k).toInt < (y32_3).toInt := by first | exact g42_1 | (first | exact g42_1 | (intro k hk; have h := g126_1 k hk; have a0 := j42_4; unfold In at a0; have a1 := j32_3; unfold In at a1; have a2 := h2; unfold In at a2; have a3 := h1; unfold In at a3; have a4 := j42_5; unfold In at a4; have a5 := i164; unfold In at a5; have a6 := t_add e164 j42_4 (in_c 1 rfl) rfl; have a7 := (in_c 1 rfl); unfold In at a7; omega) | exact fun k hk => (g2_0 k (by have a0 := j42_4; unfold In at a0; have a1 := j32_3; unfold In at a1; have a2 := h2; unfold In at a2; have a3 := h1; unfold In at a3; have a4 := j42_5; unfold In at a4; have a5 := i164; unfold In at a5; have a6 := t_add e164 j42_4 (in_c 1 rfl) rfl; have a7 := (in_c 1 rfl); unfold In at a7; omega)).1)
                have n32c : ∀ k : Nat, (k : Int) < (x1).toInt → (sc42.1 159 k).toInt < (z164).toInt := by first | (intro k hk; have h := g42_2 k hk; have a0 := j42_4; unfold In at a0; have a1 := j32_3; unfold In at a1; have a2 := h2; unfold In at a2; have a3 := h1; unfold In at a3; have a4 := j42_5; unfold In at a4; have a5 := i164; unfold In at a5; have a6 := t_add e164 j42_4 (in_c 1 rfl) rfl; have a7 := (in_c 1 rfl); unfold In at a7; omega) | (intro k hk; have h := g126_2 k hk; have a0 := j42_4; unfold In at a0; have a1 := j32_3; unfold In at a1; have a2 := h2; unfold In at a2; have a3 := h1; unfold In at a3; have a4 := j42_5; unfold In at a4; have a5 := i164; unfold In at a5; have a6 := t_add e164 j42_4 (in_c 1 rfl) rfl; have a7 := (in_c 1 rfl); unfold In at a7; omega) | exact fun k hk => (g2_0 k (by have a0 := j42_4; unfold In at a0; have a1 := j32_3; unfold In at a1; have a2 := h2; unfold In at a2; have a3 := h1; unfold In at a3; have a4 := j42_5; unfold In at a4; have a5 := i164; unfold In at a5; have a6 := t_add e164 j42_4 (in_c 1 rfl) rfl; have a7 := (in_c 1 rfl); unfold In at a7; omega)).2
                exact gg_w (by first | exact Nat.le_add_right _ _ | exact gw2 | exact gw3 | exact gwe rfl | exact gwf rfl | exact gwg rfl | exact gwh rfl | omega) (gg_f (gf_cons rfl (gf_cons rfl (gf_cons rfl (gf_cons rfl (gf_cons rfl gf_nil))))) (ih32 sc42 y32_3 z164 hIc42 hFc42 (in_w 0 32 j32_3 rfl) (in_w 0 32 i164 rfl) n32 n32a n32b n32c (m_up mm32 (t_add e164 j42_4 (in_c 1 rfl) rfl) (in_w 1 1 (in_c 1 rfl) rfl))))
              · skip
                refine g_aload_n 101 (gd rfl) rfl rfl ?_
                refine g_getA (q2 := 158) 104 (gd rfl) rfl rfl rfl rfl ?_
                refine g_iload 106 (gd rfl) rfl rfl ?_
                refine g_iaload 107 (gd rfl) rfl (n := 32) rfl (in_ix j42_5 rfl) (fun z106 e106 => ?_)
                refine g_if_ge 110 164 (gd rfl) rfl rfl (fun c107 => ?_) (fun c107 => ?_)
                · skip
                  have i107 := z_ge 0 2147483647 c107 (i_rng z106) rfl
                  refine g_iinc 167 (gd rfl) rfl rfl (Nat.le_of_ble_eq_true rfl) (fun z164 e164 => ?_)
                  have i164 := in_add 1 32 e164 j42_4 (in_c 1 rfl) rfl rfl
                  refine g_goto 32 (gd rfl) rfl ?_
                  have n32 : 0 ≤ (y32_3).toInt := by first | exact n32_0 | (have a0 := j42_4; unfold In at a0; have a1 := j32_3; unfold In at a1; have a2 := h2; unfold In at a2; have a3 := h1; unfold In at a3; have a4 := j42_5; unfold In at a4; have a5 := i164; unfold In at a5; have a6 := t_add e164 j42_4 (in_c 1 rfl) rfl; have a7 := (in_c 1 rfl); unfold In at a7; omega)
                  have n32a : (y32_3).toInt + (cM (sc42.1 158) (x1).toNatClampNeg : Int) ≤ (x1).toInt := by first | exact g42_0 | (first | exact g42_0 | (rcases g126_0 with hg | hg; (exfalso; rw [← e132] at hg; have hz := c133; omega); have a0 := j42_4; unfold In at a0; have a1 := j32_3; unfold In at a1; have a2 := h2; unfold In at a2; have a3 := h1; unfold In at a3; have a4 := j42_5; unfold In at a4; have a5 := i164; unfold In at a5; have a6 := t_add e164 j42_4 (in_c 1 rfl) rfl; have a7 := (in_c 1 rfl); unfold In at a7; omega) | (have hc := cM_le (sc42.1 158) (x1).toNatClampNeg; have h0 : (Int32.ofInt 0).toInt = 0 := rfl; have hmn : ((x1).toNatClampNeg : Int) = (x1).toInt := (by show (((x1).toInt.toNat : Nat) : Int) = _; have a0 := j42_4; unfold In at a0; have a1 := j32_3; unfold In at a1; have a2 := h2; unfold In at a2; have a3 := h1; unfold In at a3; have a4 := j42_5; unfold In at a4; have a5 := i164; unfold In at a5; have a6 := t_add e164 j42_4 (in_c 1 rfl) rfl; have a7 := (in_c 1 rfl); unfold In at a7; omega); omega))
                  have n32b : ∀ k : Nat, (k : Int) < (x1).toInt → (sc42.1 158 k).toInt < (y32_3).toInt := by first | exact g42_1 | (first | exact g42_1 | (intro k hk; have h := g126_1 k hk; have a0 := j42_4; unfold In at a0; have a1 := j32_3; unfold In at a1; have a2 := h2; unfold In at a2; have a3 := h1; unfold In at a3; have a4 := j42_5; unfold In at a4; have a5 := i164; unfold In at a5; have a6 := t_add e164 j42_4 (in_c 1 rfl) rfl; have a7 := (in_c 1 rfl); unfold In at a7; omega) | exact fun k hk => (g2_0 k (by have a0 := j42_4; unfold In at a0; have a1 := j32_3; unfold In at a1; have a2 := h2; unfold In at a2; have a3 := h1; unfold In at a3; have a4 := j42_5; unfold In at a4; have a5 := i164; unfold In at a5; have a6 := t_add e164 j42_4 (in_c 1 rfl) rfl; have a7 := (in_c 1 rfl); unfold In at a7; omega)).1)
                  have n32c : ∀ k : Nat, (k : Int) < (x1).toInt → (sc42.1 159 k).toInt < (z164).toInt := by first | (intro k hk; have h := g42_2 k hk; have a0 := j42_4; unfold In at a0; have a1 := j32_3; unfold In at a1; have a2 := h2; unfold In at a2; have a3 := h1; unfold In at a3; have a4 := j42_5; unfold In at a4; have a5 := i164; unfold In at a5; have a6 := t_add e164 j42_4 (in_c 1 rfl) rfl; have a7 := (in_c 1 rfl); unfold In at a7; omega) | (intro k hk; have h := g126_2 k hk; have a0 := j42_4; unfold In at a0; have a1 := j32_3; unfold In at a1; have a2 := h2; unfold In at a2; have a3 := h1; unfold In at a3; have a4 := j42_5; unfold In at a4; have a5 := i164; unfold In at a5; have a6 := t_add e164 j42_4 (in_c 1 rfl) rfl; have a7 := (in_c 1 rfl); unfold In at a7; omega) | exact fun k hk => (g2_0 k (by have a0 := j42_4; unfold In at a0; have a1 := j32_3; unfold In at a1; have a2 := h2; unfold In at a2; have a3 := h1; unfold In at a3; have a4 := j42_5; unfold In at a4; have a5 := i164; unfold In at a5; have a6 := t_add e164 j42_4 (in_c 1 rfl) rfl; have a7 := (in_c 1 rfl); unfold In at a7; omega)).2
                  exact gg_w (by first | exact Nat.le_add_right _ _ | exact gw2 | exact gw3 | exact gwe rfl | exact gwf rfl | exact gwg rfl | exact gwh rfl | omega) (gg_f (gf_cons rfl (gf_cons rfl (gf_cons rfl (gf_cons rfl (gf_cons rfl gf_nil))))) (ih32 sc42 y32_3 z164 hIc42 hFc42 (in_w 0 32 j32_3 rfl) (in_w 0 32 i164 rfl) n32 n32a n32b n32c (m_up mm32 (t_add e164 j42_4 (in_c 1 rfl) rfl) (in_w 1 1 (in_c 1 rfl) rfl))))
                · skip
                  have i107 := z_lt (-2147483648) (-1) c107 (i_rng z106) rfl
                  refine g_aload_n 111 (gd rfl) rfl rfl ?_
                  refine g_getA (q2 := 159) 114 (gd rfl) rfl rfl rfl rfl ?_
                  refine g_iload 116 (gd rfl) rfl rfl ?_
                  refine g_iaload 117 (gd rfl) rfl (n := 32) rfl (in_ix j42_5 rfl) (fun z116 e116 => ?_)
                  have q116 : z54 = z116 := (e54).trans e116.symm
                  subst q116
                  refine g_iload 119 (gd rfl) rfl rfl ?_
                  refine g_cmp_ne 122 164 (gd rfl) rfl rfl (fun c119 => ?_) (fun c119 => ?_)
                  · skip
                    refine g_iinc 167 (gd rfl) rfl rfl (Nat.le_of_ble_eq_true rfl) (fun z164 e164 => ?_)
                    have i164 := in_add 1 32 e164 j42_4 (in_c 1 rfl) rfl rfl
                    refine g_goto 32 (gd rfl) rfl ?_
                    have n32 : 0 ≤ (y32_3).toInt := by first | exact n32_0 | (have a0 := j42_4; unfold In at a0; have a1 := j32_3; unfold In at a1; have a2 := h2; unfold In at a2; have a3 := h1; unfold In at a3; have a4 := j42_5; unfold In at a4; have a5 := i164; unfold In at a5; have a6 := t_add e164 j42_4 (in_c 1 rfl) rfl; have a7 := (in_c 1 rfl); unfold In at a7; omega)
                    have n32a : (y32_3).toInt + (cM (sc42.1 158) (x1).toNatClampNeg : Int) ≤ (x1).toInt := by first | exact g42_0 | (first | exact g42_0 | (rcases g126_0 with hg | hg; (exfalso; rw [← e132] at hg; have hz := c133; omega); have a0 := j42_4; unfold In at a0; have a1 := j32_3; unfold In at a1; have a2 := h2; unfold In at a2; have a3 := h1; unfold In at a3; have a4 := j42_5; unfold In at a4; have a5 := i164; unfold In at a5; have a6 := t_add e164 j42_4 (in_c 1 rfl) rfl; have a7 := (in_c 1 rfl); unfold In at a7; omega) | (have hc := cM_le (sc42.1 158) (x1).toNatClampNeg; have h0 : (Int32.ofInt 0).toInt = 0 := rfl; have hmn : ((x1).toNatClampNeg : Int) = (x1).toInt := (by show (((x1).toInt.toNat : Nat) : Int) = _; have a0 := j42_4; unfold In at a0; have a1 := j32_3; unfold In at a1; have a2 := h2; unfold In at a2; have a3 := h1; unfold In at a3; have a4 := j42_5; unfold In at a4; have a5 := i164; unfold In at a5; have a6 := t_add e164 j42_4 (in_c 1 rfl) rfl; have a7 := (in_c 1 rfl); unfold In at a7; omega); omega))
                    have n32b : ∀ k : Nat, (k : Int) < (x1).toInt → (sc42.1 158 k).toInt < (y32_3).toInt := by first | exact g42_1 | (first | exact g42_1 | (intro k hk; have h := g126_1 k hk; have a0 := j42_4; unfold In at a0; have a1 := j32_3; unfold In at a1; have a2 := h2; unfold In at a2; have a3 := h1; unfold In at a3; have a4 := j42_5; unfold In at a4; have a5 := i164; unfold In at a5; have a6 := t_add e164 j42_4 (in_c 1 rfl) rfl; have a7 := (in_c 1 rfl); unfold In at a7; omega) | exact fun k hk => (g2_0 k (by have a0 := j42_4; unfold In at a0; have a1 := j32_3; unfold In at a1; have a2 := h2; unfold In at a2; have a3 := h1; unfold In at a3; have a4 := j42_5; unfold In at a4; have a5 := i164; unfold In at a5; have a6 := t_add e164 j42_4 (in_c 1 rfl) rfl; have a7 := (in_c 1 rfl); unfold In at a7; omega)).1)
                    have n32c : ∀ k : Nat, (k : Int) < (x1).toInt → (sc42.1 159 k).toInt < (z164).toInt := by first | (intro k hk; have h := g42_2 k hk; have a0 := j42_4; unfold In at a0; have a1 := j32_3; unfold In at a1; have a2 := h2; unfold In at a2; have a3 := h1; unfold In at a3; have a4 := j42_5; unfold In at a4; have a5 := i164; unfold In at a5; have a6 := t_add e164 j42_4 (in_c 1 rfl) rfl; have a7 := (in_c 1 rfl); unfold In at a7; omega) | (intro k hk; have h := g126_2 k hk; have a0 := j42_4; unfold In at a0; have a1 := j32_3; unfold In at a1; have a2 := h2; unfold In at a2; have a3 := h1; unfold In at a3; have a4 := j42_5; unfold In at a4; have a5 := i164; unfold In at a5; have a6 := t_add e164 j42_4 (in_c 1 rfl) rfl; have a7 := (in_c 1 rfl); unfold In at a7; omega) | exact fun k hk => (g2_0 k (by have a0 := j42_4; unfold In at a0; have a1 := j32_3; unfold In at a1; have a2 := h2; unfold In at a2; have a3 := h1; unfold In at a3; have a4 := j42_5; unfold In at a4; have a5 := i164; unfold In at a5; have a6 := t_add e164 j42_4 (in_c 1 rfl) rfl; have a7 := (in_c 1 rfl); unfold In at a7; omega)).2
                    exact gg_w (by first | exact Nat.le_add_right _ _ | exact gw2 | exact gw3 | exact gwe rfl | exact gwf rfl | exact gwg rfl | exact gwh rfl | omega) (gg_f (gf_cons rfl (gf_cons rfl (gf_cons rfl (gf_cons rfl (gf_cons rfl gf_nil))))) (ih32 sc42 y32_3 z164 hIc42 hFc42 (in_w 0 32 j32_3 rfl) (in_w 0 32 i164 rfl) n32 n32a n32b n32c (m_up mm32 (t_add e164 j42_4 (in_c 1 rfl) rfl) (in_w 1 1 (in_c 1 rfl) rfl))))
                  · skip
                    have i119 := r_eq1 0 31 c119 i55 j42_4 rfl
                    refine g_iload 124 (gd rfl) rfl rfl ?_
                    refine g_istore 126 (gd rfl) rfl (Nat.le_of_ble_eq_true rfl) ?_
                    have n126 : (y42_5).toInt < (x1).toInt := by first | exact n42_0 | (have a0 := j42_4; unfold In at a0; have a1 := j32_3; unfold In at a1; have a2 := h2; unfold In at a2; have a3 := h1; unfold In at a3; have a4 := j42_5; unfold In at a4; omega)
                    have n126a : 0 ≤ (y42_5).toInt := by first | exact n42_1 | (have a0 := j42_4; unfold In at a0; have a1 := j32_3; unfold In at a1; have a2 := h2; unfold In at a2; have a3 := h1; unfold In at a3; have a4 := j42_5; unfold In at a4; omega)
                    have n126b : ((y32_3).toInt + (cM (sc42.1 158) (x1).toNatClampNeg : Int) ≤ (x1).toInt ∧ (sc42.1 158 (y42_5).toNatClampNeg).toInt < 0) ∨ (y32_3).toInt + 1 + (cM (sc42.1 158) (x1).toNatClampNeg : Int) ≤ (x1).toInt := by first | (right; rw [sI_q]; have hu := up_cm (f := sc126.1 158) (y := y126_6) (b := y32_3) (n := x1.toNatClampNeg) (by rw [← e132]; exact c133) (by have a0 := j42_4; unfold In at a0; have a1 := j32_3; unfold In at a1; have a2 := h2; unfold In at a2; have a3 := h1; unfold In at a3; have a4 := j42_5; unfold In at a4; omega) (by show y126_6.toInt.toNat < x1.toInt.toNat; have a0 := j42_4; unfold In at a0; have a1 := j32_3; unfold In at a1; have a2 := h2; unfold In at a2; have a3 := h1; unfold In at a3; have a4 := j42_5; unfold In at a4; omega); rcases g126_0 with hg | hg; (have a0 := j42_4; unfold In at a0; have a1 := j32_3; unfold In at a1; have a2 := h2; unfold In at a2; have a3 := h1; unfold In at a3; have a4 := j42_5; unfold In at a4; omega); (have a0 := j42_4; unfold In at a0; have a1 := j32_3; unfold In at a1; have a2 := h2; unfold In at a2; have a3 := h1; unfold In at a3; have a4 := j42_5; unfold In at a4; omega)) | exact Or.inl ⟨g42_0, by rw [← e106]; exact c107⟩
                    have n126c : ∀ k : Nat, (k : Int) < (x1).toInt → (sc42.1 158 k).toInt < (y32_3).toInt + 1 := by first | (intro k hk; rw [sI_q]; exact up_lt (fun c => g126_1 k hk) (by have a0 := j42_4; unfold In at a0; have a1 := j32_3; unfold In at a1; have a2 := h2; unfold In at a2; have a3 := h1; unfold In at a3; have a4 := j42_5; unfold In at a4; omega)) | (intro k hk; have h := g42_1 k hk; have a0 := j42_4; unfold In at a0; have a1 := j32_3; unfold In at a1; have a2 := h2; unfold In at a2; have a3 := h1; unfold In at a3; have a4 := j42_5; unfold In at a4; omega)
                    have n126d : ∀ k : Nat, (k : Int) < (x1).toInt → (sc42.1 159 k).toInt < (y32_4).toInt + 1 := by first | (rw [sI_p rfl]; exact g126_2) | exact g42_2
                    have n126e : VD s (sc42.1 159) (x1).toInt (x2).toInt (y32_4).toInt := by first | (rw [sI_p rfl]; exact g126_3) | exact vc_e g42_3 (by have a0 := j42_4; unfold In at a0; have a1 := j32_3; unfold In at a1; have a2 := h2; unfold In at a2; have a3 := h1; unfold In at a3; have a4 := j42_5; unfold In at a4; omega) (by rw [← e116]; exact c119)
                    have n126f : (sc42.1 159 (y42_5).toNatClampNeg).toInt = (y32_4).toInt := by first | (rw [sI_p rfl, hy156]; exact hx156) | (rw [← e116]; exact c119)
                    have m126 : cM (sc42.1 158) (x1).toNatClampNeg < 33 := by have hc := cM_le (sc42.1 158) (x1).toNatClampNeg; have hmn : x1.toNatClampNeg = x1.toInt.toNat := rfl; have a0 := j42_4; unfold In at a0; have a1 := j32_3; unfold In at a1; have a2 := h2; unfold In at a2; have a3 := h1; unfold In at a3; have a4 := j42_5; unfold In at a4; omega
                    exact gg_w (by first | exact Nat.le_add_right _ _ | exact gw2 | exact gw3 | exact gwe rfl | exact gwf rfl | exact gwg rfl | exact gwh rfl | omega) (gg_f (gf_cons rfl (gf_cons rfl (gf_cons rfl (gf_cons rfl (gf_cons rfl (gf_cons rfl (gf_cons rfl gf_nil))))))) (ct126 (33) sc42 y42_5 y42_5 hIc42 hFc42 (in_w 0 31 j42_4 rfl) (in_w 0 31 j42_5 rfl) (in_w 0 31 j42_5 rfl) n126 n126a n126b n126c n126d n126e n126f m126))
            · skip
              have i55 := z_lt (-2147483648) (-1) c55 (i_rng z54) rfl
              refine g_aload_n 59 (gd rfl) rfl rfl ?_
              refine g_getA (q2 := 158) 62 (gd rfl) rfl rfl rfl rfl ?_
              refine g_iload 64 (gd rfl) rfl rfl ?_
              refine g_iaload 65 (gd rfl) rfl (n := 32) rfl (in_ix j42_5 rfl) (fun z64 e64 => ?_)
              refine g_if_ge 68 94 (gd rfl) rfl rfl (fun c65 => ?_) (fun c65 => ?_)
              · skip
                have i65 := z_ge 0 2147483647 c65 (i_rng z64) rfl
                refine g_iload 96 (gd rfl) rfl rfl ?_
                refine g_iload_n 97 (gd rfl) rfl rfl ?_
                refine g_cmp_eq 100 164 (gd rfl) rfl rfl (fun c97 => ?_) (fun c97 => ?_)
                · skip
                  refine g_iinc 167 (gd rfl) rfl rfl (Nat.le_of_ble_eq_true rfl) (fun z164 e164 => ?_)
                  have i164 := in_add 1 32 e164 j42_4 (in_c 1 rfl) rfl rfl
                  refine g_goto 32 (gd rfl) rfl ?_
                  have n32 : 0 ≤ (y32_3).toInt := by first | exact n32_0 | (have a0 := j42_4; unfold In at a0; have a1 := j32_3; unfold In at a1; have a2 := h2; unfold In at a2; have a3 := h1; unfold In at a3; have a4 := j42_5; unfold In at a4; have a5 := i164; unfold In at a5; have a6 := t_add e164 j42_4 (in_c 1 rfl) rfl; have a7 := (in_c 1 rfl); unfold In at a7; omega)
                  have n32a : (y32_3).toInt + (cM (sc42.1 158) (x1).toNatClampNeg : Int) ≤ (x1).toInt := by first | exact g42_0 | (first | exact g42_0 | (rcases g126_0 with hg | hg; (exfalso; rw [← e132] at hg; have hz := c133; omega); have a0 := j42_4; unfold In at a0; have a1 := j32_3; unfold In at a1; have a2 := h2; unfold In at a2; have a3 := h1; unfold In at a3; have a4 := j42_5; unfold In at a4; have a5 := i164; unfold In at a5; have a6 := t_add e164 j42_4 (in_c 1 rfl) rfl; have a7 := (in_c 1 rfl); unfold In at a7; omega) | (have hc := cM_le (sc42.1 158) (x1).toNatClampNeg; have h0 : (Int32.ofInt 0).toInt = 0 := rfl; have hmn : ((x1).toNatClampNeg : Int) = (x1).toInt := (by show (((x1).toInt.toNat : Nat) : Int) = _; have a0 := j42_4; unfold In at a0; have a1 := j32_3; unfold In at a1; have a2 := h2; unfold In at a2; have a3 := h1; unfold In at a3; have a4 := j42_5; unfold In at a4; have a5 := i164; unfold In at a5; have a6 := t_add e164 j42_4 (in_c 1 rfl) rfl; have a7 := (in_c 1 rfl); unfold In at a7; omega); omega))
                  have n32b : ∀ k : Nat, (k : Int) < (x1).toInt → (sc42.1 158 k).toInt < (y32_3).toInt := by first | exact g42_1 | (first | exact g42_1 | (intro k hk; have h := g126_1 k hk; have a0 := j42_4; unfold In at a0; have a1 := j32_3; unfold In at a1; have a2 := h2; unfold In at a2; have a3 := h1; unfold In at a3; have a4 := j42_5; unfold In at a4; have a5 := i164; unfold In at a5; have a6 := t_add e164 j42_4 (in_c 1 rfl) rfl; have a7 := (in_c 1 rfl); unfold In at a7; omega) | exact fun k hk => (g2_0 k (by have a0 := j42_4; unfold In at a0; have a1 := j32_3; unfold In at a1; have a2 := h2; unfold In at a2; have a3 := h1; unfold In at a3; have a4 := j42_5; unfold In at a4; have a5 := i164; unfold In at a5; have a6 := t_add e164 j42_4 (in_c 1 rfl) rfl; have a7 := (in_c 1 rfl); unfold In at a7; omega)).1)
                  have n32c : ∀ k : Nat, (k : Int) < (x1).toInt → (sc42.1 159 k).toInt < (z164).toInt := by first | (intro k hk; have h := g42_2 k hk; have a0 := j42_4; unfold In at a0; have a1 := j32_3; unfold In at a1; have a2 := h2; unfold In at a2; have a3 := h1; unfold In at a3; have a4 := j42_5; unfold In at a4; have a5 := i164; unfold In at a5; have a6 := t_add e164 j42_4 (in_c 1 rfl) rfl; have a7 := (in_c 1 rfl); unfold In at a7; omega) | (intro k hk; have h := g126_2 k hk; have a0 := j42_4; unfold In at a0; have a1 := j32_3; unfold In at a1; have a2 := h2; unfold In at a2; have a3 := h1; unfold In at a3; have a4 := j42_5; unfold In at a4; have a5 := i164; unfold In at a5; have a6 := t_add e164 j42_4 (in_c 1 rfl) rfl; have a7 := (in_c 1 rfl); unfold In at a7; omega) | exact fun k hk => (g2_0 k (by have a0 := j42_4; unfold In at a0; have a1 := j32_3; unfold In at a1; have a2 := h2; unfold In at a2; have a3 := h1; unfold In at a3; have a4 := j42_5; unfold In at a4; have a5 := i164; unfold In at a5; have a6 := t_add e164 j42_4 (in_c 1 rfl) rfl; have a7 := (in_c 1 rfl); unfold In at a7; omega)).2
                  exact gg_w (by first | exact Nat.le_add_right _ _ | exact gw2 | exact gw3 | exact gwe rfl | exact gwf rfl | exact gwg rfl | exact gwh rfl | omega) (gg_f (gf_cons rfl (gf_cons rfl (gf_cons rfl (gf_cons rfl (gf_cons rfl gf_nil))))) (ih32 sc42 y32_3 z164 hIc42 hFc42 (in_w 0 32 j32_3 rfl) (in_w 0 32 i164 rfl) n32 n32a n32b n32c (m_up mm32 (t_add e164 j42_4 (in_c 1 rfl) rfl) (in_w 1 1 (in_c 1 rfl) rfl))))
                · skip
                  refine g_aload_n 101 (gd rfl) rfl rfl ?_
                  refine g_getA (q2 := 158) 104 (gd rfl) rfl rfl rfl rfl ?_
                  refine g_iload 106 (gd rfl) rfl rfl ?_
                  refine g_iaload 107 (gd rfl) rfl (n := 32) rfl (in_ix j42_5 rfl) (fun z106 e106 => ?_)
                  have q106 : z64 = z106 := (e64).trans e106.symm
                  subst q106
                  refine g_if_ge 110 164 (gd rfl) rfl rfl (fun c107 => ?_) (fun c107 => ?_)
                  · skip
                    refine g_iinc 167 (gd rfl) rfl rfl (Nat.le_of_ble_eq_true rfl) (fun z164 e164 => ?_)
                    have i164 := in_add 1 32 e164 j42_4 (in_c 1 rfl) rfl rfl
                    refine g_goto 32 (gd rfl) rfl ?_
                    have n32 : 0 ≤ (y32_3).toInt := by first | exact n32_0 | (have a0 := j42_4; unfold In at a0; have a1 := j32_3; unfold In at a1; have a2 := h2; unfold In at a2; have a3 := h1; unfold In at a3; have a4 := j42_5; unfold In at a4; have a5 := i164; unfold In at a5; have a6 := t_add e164 j42_4 (in_c 1 rfl) rfl; have a7 := (in_c 1 rfl); unfold In at a7; omega)
                    have n32a : (y32_3).toInt + (cM (sc42.1 158) (x1).toNatClampNeg : Int) ≤ (x1).toInt := by first | exact g42_0 | (first | exact g42_0 | (rcases g126_0 with hg | hg; (exfalso; rw [← e132] at hg; have hz := c133; omega); have a0 := j42_4; unfold In at a0; have a1 := j32_3; unfold In at a1; have a2 := h2; unfold In at a2; have a3 := h1; unfold In at a3; have a4 := j42_5; unfold In at a4; have a5 := i164; unfold In at a5; have a6 := t_add e164 j42_4 (in_c 1 rfl) rfl; have a7 := (in_c 1 rfl); unfold In at a7; omega) | (have hc := cM_le (sc42.1 158) (x1).toNatClampNeg; have h0 : (Int32.ofInt 0).toInt = 0 := rfl; have hmn : ((x1).toNatClampNeg : Int) = (x1).toInt := (by show (((x1).toInt.toNat : Nat) : Int) = _; have a0 := j42_4; unfold In at a0; have a1 := j32_3; unfold In at a1; have a2 := h2; unfold In at a2; have a3 := h1; unfold In at a3; have a4 := j42_5; unfold In at a4; have a5 := i164; unfold In at a5; have a6 := t_add e164 j42_4 (in_c 1 rfl) rfl; have a7 := (in_c 1 rfl); unfold In at a7; omega); omega))
                    have n32b : ∀ k : Nat, (k : Int) < (x1).toInt → (sc42.1 158 k).toInt < (y32_3).toInt := by first | exact g42_1 | (first | exact g42_1 | (intro k hk; have h := g126_1 k hk; have a0 := j42_4; unfold In at a0; have a1 := j32_3; unfold In at a1; have a2 := h2; unfold In at a2; have a3 := h1; unfold In at a3; have a4 := j42_5; unfold In at a4; have a5 := i164; unfold In at a5; have a6 := t_add e164 j42_4 (in_c 1 rfl) rfl; have a7 := (in_c 1 rfl); unfold In at a7; omega) | exact fun k hk => (g2_0 k (by have a0 := j42_4; unfold In at a0; have a1 := j32_3; unfold In at a1; have a2 := h2; unfold In at a2; have a3 := h1; unfold In at a3; have a4 := j42_5; unfold In at a4; have a5 := i164; unfold In at a5; have a6 := t_add e164 j42_4 (in_c 1 rfl) rfl; have a7 := (in_c 1 rfl); unfold In at a7; omega)).1)
                    have n32c : ∀ k : Nat, (k : Int) < (x1).toInt → (sc42.1 159 k).toInt < (z164).toInt := by first | (intro k hk; have h := g42_2 k hk; have a0 := j42_4; unfold In at a0; have a1 := j32_3; unfold In at a1; have a2 := h2; unfold In at a2; have a3 := h1; unfold In at a3; have a4 := j42_5; unfold In at a4; have a5 := i164; unfold In at a5; have a6 := t_add e164 j42_4 (in_c 1 rfl) rfl; have a7 := (in_c 1 rfl); unfold In at a7; omega) | (intro k hk; have h := g126_2 k hk; have a0 := j42_4; unfold In at a0; have a1 := j32_3; unfold In at a1; have a2 := h2; unfold In at a2; have a3 := h1; unfold In at a3; have a4 := j42_5; unfold In at a4; have a5 := i164; unfold In at a5; have a6 := t_add e164 j42_4 (in_c 1 rfl) rfl; have a7 := (in_c 1 rfl); unfold In at a7; omega) | exact fun k hk => (g2_0 k (by have a0 := j42_4; unfold In at a0; have a1 := j32_3; unfold In at a1; have a2 := h2; unfold In at a2; have a3 := h1; unfold In at a3; have a4 := j42_5; unfold In at a4; have a5 := i164; unfold In at a5; have a6 := t_add e164 j42_4 (in_c 1 rfl) rfl; have a7 := (in_c 1 rfl); unfold In at a7; omega)).2
                    exact gg_w (by first | exact Nat.le_add_right _ _ | exact gw2 | exact gw3 | exact gwe rfl | exact gwf rfl | exact gwg rfl | exact gwh rfl | omega) (gg_f (gf_cons rfl (gf_cons rfl (gf_cons rfl (gf_cons rfl (gf_cons rfl gf_nil))))) (ih32 sc42 y32_3 z164 hIc42 hFc42 (in_w 0 32 j32_3 rfl) (in_w 0 32 i164 rfl) n32 n32a n32b n32c (m_up mm32 (t_add e164 j42_4 (in_c 1 rfl) rfl) (in_w 1 1 (in_c 1 rfl) rfl))))
                  · skip
                    exact zn_lt c107 i65 rfl
              · skip
                have i65 := z_lt (-2147483648) (-1) c65 (i_rng z64) rfl
                refine g_aload_n 69 (gd rfl) rfl rfl ?_
                refine g_getA (q2 := 159) 72 (gd rfl) rfl rfl rfl rfl ?_
                refine g_iload 74 (gd rfl) rfl rfl ?_
                refine g_iload 76 (gd rfl) rfl rfl ?_
                refine g_iastore 77 (gd rfl) rfl (n := 32) rfl (in_ix j42_5 rfl) ?_
                have hI76 := inv_sI (q := 159) (j := y42_5.toNatClampNeg) hIc42 rfl (in_w (-2147483648) 2147483647 j42_4 rfl)
                refine g_aload_n 78 (gd rfl) rfl rfl ?_
                refine g_getA (q2 := 153) 81 (gd rfl) rfl rfl rfl rfl ?_
                refine g_aload_n 82 (gd rfl) rfl rfl ?_
                refine g_getA (q2 := 157) 85 (gd rfl) rfl rfl rfl rfl ?_
                refine g_iload 87 (gd rfl) rfl rfl ?_
                refine g_iaload 88 (gd rfl) rfl (n := 32) rfl (in_ix j42_5 rfl) (fun z87 e87 => ?_)
                have i87 := inv_I hI76 (n := 32) (t := 0) (-1) 159 rfl (in_ix j42_5 rfl) rfl e87
                have i88 : In z87 0 159 := by have h := (tp_u (t := (sI sc42 159 y42_5.toNatClampNeg y32_4)) (y := y42_5) (b := z87) (f := y42_5) q_0 (by have a0 := j42_4; unfold In at a0; have a1 := j32_3; unfold In at a1; have a2 := h2; unfold In at a2; have a3 := h1; unfold In at a3; have a4 := j42_5; unfold In at a4; omega) (by have a0 := j42_4; unfold In at a0; have a1 := j32_3; unfold In at a1; have a2 := h2; unfold In at a2; have a3 := h1; unfold In at a3; have a4 := j42_5; unfold In at a4; omega) (by have a0 := j42_4; unfold In at a0; have a1 := j32_3; unfold In at a1; have a2 := h2; unfold In at a2; have a3 := h1; unfold In at a3; have a4 := j42_5; unfold In at a4; omega) e87 ((sI_p rfl).trans (hFc42.1 157 rfl))); exact ⟨h.1, i87.2⟩
                refine g_iaload 89 (gd rfl) rfl (n := 160) rfl (in_ix i88 rfl) (fun z88 e88 => ?_)
                have i88a := inv_I hI76 (n := 160) (t := 0) 0 31 rfl (in_ix i88 rfl) rfl e88
                have hx88 := ((tp_u (t := (sI sc42 159 y42_5.toNatClampNeg y32_4)) (y := y42_5) (b := z87) (f := z88) q_0 (by have a0 := j42_4; unfold In at a0; have a1 := j32_3; unfold In at a1; have a2 := h2; unfold In at a2; have a3 := h1; unfold In at a3; have a4 := j42_5; unfold In at a4; omega) (by have a0 := j42_4; unfold In at a0; have a1 := j32_3; unfold In at a1; have a2 := h2; unfold In at a2; have a3 := h1; unfold In at a3; have a4 := j42_5; unfold In at a4; omega) (by have a0 := j42_4; unfold In at a0; have a1 := j32_3; unfold In at a1; have a2 := h2; unfold In at a2; have a3 := h1; unfold In at a3; have a4 := j42_5; unfold In at a4; omega) e87 ((sI_p rfl).trans (hFc42.1 157 rfl)))).2 e88 ((sI_p rfl).trans (hFc42.1 153 rfl)); have hx89 : (z88).toInt = (nx s y42_5.toNatClampNeg : Int) := hx88.2 i88a.1; have hy89 := hx88.1
                refine g_istore 91 (gd rfl) rfl (Nat.le_of_ble_eq_true rfl) ?_
                refine g_goto 42 (gd rfl) rfl ?_
                have n42 : (z88).toInt < (x1).toInt := by have a0 := j42_4; unfold In at a0; have a1 := j32_3; unfold In at a1; have a2 := h2; unfold In at a2; have a3 := h1; unfold In at a3; have a4 := j42_5; unfold In at a4; have a5 := i88a; unfold In at a5; omega
                have n42a : 0 ≤ (z88).toInt := by have a0 := j42_4; unfold In at a0; have a1 := j32_3; unfold In at a1; have a2 := h2; unfold In at a2; have a3 := h1; unfold In at a3; have a4 := j42_5; unfold In at a4; have a5 := i88a; unfold In at a5; omega
                have n42b : (y32_3).toInt + (cM ((sI sc42 159 y42_5.toNatClampNeg y32_4).1 158) (x1).toNatClampNeg : Int) ≤ (x1).toInt := by first | exact g42_0 | exact g32_0
                have n42c : ∀ k : Nat, (k : Int) < (x1).toInt → ((sI sc42 159 y42_5.toNatClampNeg y32_4).1 158 k).toInt < (y32_3).toInt := by first | exact g42_1 | exact g32_1
                have n42d : ∀ k : Nat, (k : Int) < (x1).toInt → ((sI sc42 159 y42_5.toNatClampNeg y32_4).1 159 k).toInt < (y32_4).toInt + 1 := by first | (intro k hk; rw [sI_q]; exact up_lt (fun c => g42_2 k hk) (by have a0 := j42_4; unfold In at a0; have a1 := j32_3; unfold In at a1; have a2 := h2; unfold In at a2; have a3 := h1; unfold In at a3; have a4 := j42_5; unfold In at a4; have a5 := i88a; unfold In at a5; omega)) | (intro k hk; have h := g32_2 k hk; have a0 := j42_4; unfold In at a0; have a1 := j32_3; unfold In at a1; have a2 := h2; unfold In at a2; have a3 := h1; unfold In at a3; have a4 := j42_5; unfold In at a4; have a5 := i88a; unfold In at a5; omega)
                have n42e : VC s ((sI sc42 159 y42_5.toNatClampNeg y32_4).1 159) (x1).toInt (x2).toInt (y32_4).toInt (z88).toInt := by first | (rw [sI_q]; exact vc_s g42_3 (by have a0 := j42_4; unfold In at a0; have a1 := j32_3; unfold In at a1; have a2 := h2; unfold In at a2; have a3 := h1; unfold In at a3; have a4 := j42_5; unfold In at a4; have a5 := i88a; unfold In at a5; omega) (by have a0 := j42_4; unfold In at a0; have a1 := j32_3; unfold In at a1; have a2 := h2; unfold In at a2; have a3 := h1; unfold In at a3; have a4 := j42_5; unfold In at a4; have a5 := i88a; unfold In at a5; omega) rfl hx89) | exact vc_0 g32_2
                have m42 : cM ((sI sc42 159 y42_5.toNatClampNeg y32_4).1 159) (x1).toNatClampNeg < k42 := by rw [sI_q]; have hu := up_cm (f := sc42.1 159) (y := y42_5) (b := y32_4) (n := x1.toNatClampNeg) (by rw [← e54]; exact c55) (by have a0 := j42_4; unfold In at a0; have a1 := j32_3; unfold In at a1; have a2 := h2; unfold In at a2; have a3 := h1; unfold In at a3; have a4 := j42_5; unfold In at a4; have a5 := i88a; unfold In at a5; omega) (by show y42_5.toInt.toNat < x1.toInt.toNat; have a0 := j42_4; unfold In at a0; have a1 := j32_3; unfold In at a1; have a2 := h2; unfold In at a2; have a3 := h1; unfold In at a3; have a4 := j42_5; unfold In at a4; have a5 := i88a; unfold In at a5; omega); have hm := mm42; omega
                exact gg_w (by first | exact Nat.le_add_right _ _ | exact gw2 | exact gw3 | exact gwe rfl | exact gwf rfl | exact gwg rfl | exact gwh rfl | omega) (gg_f (gf_cons rfl (gf_cons rfl (gf_cons rfl (gf_cons rfl (gf_cons rfl (gf_cons rfl gf_nil)))))) (ih42  (sI sc42 159 y42_5.toNatClampNeg y32_4) z88 hI76 (fr_sI rfl hFc42) (in_w 0 31 j42_4 rfl) (in_w 0 31 i88a rfl) n42 n42a n42b n42c n42d n42e m42))
      refine g_iload 34 (gd rfl) rfl rfl ?_
      refine g_iload_n 35 (gd rfl) rfl rfl ?_
      refine g_cmp_ge 38 170 (gd rfl) rfl rfl (fun c35 => ?_) (fun c35 => ?_)
      · skip
        have i35 := r_le2 1 32 c35 h1 j32_4 rfl
        refine g_iconst 0 171 (gd rfl) rfl rfl ?_
        refine g_istore 173 (gd rfl) rfl (Nat.le_of_ble_eq_true rfl) ?_
        have n173 : 0 ≤ (y32_3).toInt := by first | exact n32_0 | (have a0 := h2; unfold In at a0; have a1 := h1; unfold In at a1; have a2 := i35; unfold In at a2; have a3 := j32_3; unfold In at a3; have a4 := (in_c 0 rfl); unfold In at a4; omega)
        have n173a : (y32_3).toInt + (cM (sc32.1 158) (x1).toNatClampNeg : Int) ≤ (x1).toInt := by first | exact n173q | exact g173_0 | exact g32_0
        have n173b : ∀ k : Nat, (k : Int) < (x1).toInt → (sc32.1 158 k).toInt < (y32_3).toInt := by first | exact g32_1 | (first | exact g173_1 | exact g32_1 | (intro k hk; rw [sI_q]; exact up_lt (fun c => by have h := g173_1 k hk; have a0 := h2; unfold In at a0; have a1 := h1; unfold In at a1; have a2 := i35; unfold In at a2; have a3 := j32_3; unfold In at a3; have a4 := (in_c 0 rfl); unfold In at a4; omega) (by have a0 := h2; unfold In at a0; have a1 := h1; unfold In at a1; have a2 := i35; unfold In at a2; have a3 := j32_3; unfold In at a3; have a4 := (in_c 0 rfl); unfold In at a4; omega)))
        have n173c : ∀ k : Nat, (k : Int) < ((Int32.ofInt 0)).toInt → 0 ≤ (sc32.1 158 k).toInt := by first | (intro k hk; exfalso; have h0 : (Int32.ofInt 0).toInt = 0 := rfl; omega) | (intro k hk; have e4 : y173_4.toNatClampNeg = y173_4.toInt.toNat := rfl; first | (by_cases c : (k : Int) < y173_4.toInt; exact g173_2 k c; (rw [show k = y173_4.toNatClampNeg from (by have a0 := h2; unfold In at a0; have a1 := h1; unfold In at a1; have a2 := i35; unfold In at a2; have a3 := j32_3; unfold In at a3; have a4 := (in_c 0 rfl); unfold In at a4; omega), ← e185]; exact c186)) | (rw [sI_q]; unfold upd; by_cases c : k = y173_4.toNatClampNeg; (rw [if_pos c]; have a0 := h2; unfold In at a0; have a1 := h1; unfold In at a1; have a2 := i35; unfold In at a2; have a3 := j32_3; unfold In at a3; have a4 := (in_c 0 rfl); unfold In at a4; omega); (rw [if_neg c]; exact g173_2 k (by have a0 := h2; unfold In at a0; have a1 := h1; unfold In at a1; have a2 := i35; unfold In at a2; have a3 := j32_3; unfold In at a3; have a4 := (in_c 0 rfl); unfold In at a4; omega))))
        exact gg_w (by first | exact Nat.le_add_right _ _ | exact gw2 | exact gw3 | exact gwe rfl | exact gwf rfl | exact gwg rfl | exact gwh rfl | omega) (gg_f (gf_cons rfl (gf_cons rfl (gf_cons rfl (gf_cons rfl (gf_cons rfl gf_nil))))) (ct173 33 sc32 y32_3 (Int32.ofInt 0) hIc32 hFc32 (in_w 0 32 j32_3 rfl) (in_w 0 32 (in_c 0 rfl) rfl) n173 n173a n173b n173c (m_in 33 (in_w 0 32 (in_c 0 rfl) rfl) rfl)))
      · skip
        have i35 := r_lt1 0 31 c35 j32_4 h1 rfl
        refine g_iload 40 (gd rfl) rfl rfl ?_
        refine g_istore 42 (gd rfl) rfl (Nat.le_of_ble_eq_true rfl) ?_
        have n42 : (y32_4).toInt < (x1).toInt := by have a0 := h2; unfold In at a0; have a1 := h1; unfold In at a1; have a2 := i35; unfold In at a2; have a3 := j32_3; unfold In at a3; omega
        have n42a : 0 ≤ (y32_4).toInt := by have a0 := h2; unfold In at a0; have a1 := h1; unfold In at a1; have a2 := i35; unfold In at a2; have a3 := j32_3; unfold In at a3; omega
        have n42b : (y32_3).toInt + (cM (sc32.1 158) (x1).toNatClampNeg : Int) ≤ (x1).toInt := by first | exact g42_0 | exact g32_0
        have n42c : ∀ k : Nat, (k : Int) < (x1).toInt → (sc32.1 158 k).toInt < (y32_3).toInt := by first | exact g42_1 | exact g32_1
        have n42d : ∀ k : Nat, (k : Int) < (x1).toInt → (sc32.1 159 k).toInt < (y32_4).toInt + 1 := by first | (intro k hk; rw [sI_q]; exact up_lt (fun c => g42_2 k hk) (by have a0 := h2; unfold In at a0; have a1 := h1; unfold In at a1; have a2 := i35; unfold In at a2; have a3 := j32_3; unfold In at a3; omega)) | (intro k hk; have h := g32_2 k hk; have a0 := h2; unfold In at a0; have a1 := h1; unfold In at a1; have a2 := i35; unfold In at a2; have a3 := j32_3; unfold In at a3; omega)
        have n42e : VC s (sc32.1 159) (x1).toInt (x2).toInt (y32_4).toInt (y32_4).toInt := by first | (rw [sI_q]; exact vc_s g42_3 (by have a0 := h2; unfold In at a0; have a1 := h1; unfold In at a1; have a2 := i35; unfold In at a2; have a3 := j32_3; unfold In at a3; omega) (by have a0 := h2; unfold In at a0; have a1 := h1; unfold In at a1; have a2 := i35; unfold In at a2; have a3 := j32_3; unfold In at a3; omega) rfl hx89) | exact vc_0 g32_2
        have m42 : cM (sc32.1 159) (x1).toNatClampNeg < 33 := by have hc := cM_le (sc32.1 159) (x1).toNatClampNeg; have hmn : x1.toNatClampNeg = x1.toInt.toNat := rfl; have a0 := h2; unfold In at a0; have a1 := h1; unfold In at a1; have a2 := i35; unfold In at a2; have a3 := j32_3; unfold In at a3; omega
        exact gg_w (by first | exact Nat.le_add_right _ _ | exact gw2 | exact gw3 | exact gwe rfl | exact gwf rfl | exact gwg rfl | exact gwh rfl | omega) (gg_f (gf_cons rfl (gf_cons rfl (gf_cons rfl (gf_cons rfl (gf_cons rfl (gf_cons rfl gf_nil)))))) (ct42 (33) sc32 y32_4 hIc32 hFc32 (in_w 0 31 i35 rfl) (in_w 0 31 i35 rfl) n42 n42a n42b n42c n42d n42e m42))
  have ct2 : ∀ (k2 : Nat) (sc2 : GS) (y2_3 : Int32), Inv sc2 → Fr fm_364 s sc2 → (In y2_3 0 32) → (∀ k : Nat, (k : Int) < (y2_3).toInt → (sc2.1 158 k).toInt < 0 ∧ (sc2.1 159 k).toInt < 0) → 32 - (y2_3).toInt < (k2 : Int) → GG Z (d - 1) 364 post (gx xp) (2138469 + k2 * 900) 2 (fun j => xlook j [(0, .ref (A 109)), (1, .int x1), (2, .int x2), (3, .int y2_3)]) [] (WW Z A sc2 ++ ex) 0 0 := by
    intro k2
    induction k2 with
    | zero => intro sc2 y2_3 hIc2 hFc2 j2_3 g2_0 mm2; exact m_no mm2 j2_3 rfl
    | succ k2 ih2 =>
      intro sc2 y2_3 hIc2 hFc2 j2_3 g2_0 mm2
      refine gg_w (M := 2138469 + k2 * 900 + 900) gws ?_
      refine g_iload_n 3 (gd rfl) rfl rfl ?_
      refine g_iload_n 4 (gd rfl) rfl rfl ?_
      refine g_cmp_ge 7 27 (gd rfl) rfl rfl (fun c4 => ?_) (fun c4 => ?_)
      · skip
        have i4 := r_le2 1 32 c4 h1 j2_3 rfl
        refine g_iconst 0 28 (gd rfl) rfl rfl ?_
        refine g_istore_n 29 (gd rfl) rfl (Nat.le_of_ble_eq_true rfl) ?_
        refine g_iconst 0 30 (gd rfl) rfl rfl ?_
        refine g_istore 32 (gd rfl) rfl (Nat.le_of_ble_eq_true rfl) ?_
        have n32 : 0 ≤ ((Int32.ofInt 0)).toInt := by have a0 := h2; unfold In at a0; have a1 := h1; unfold In at a1; have a2 := i4; unfold In at a2; have a3 := (in_c 0 rfl); unfold In at a3; omega
        have n32a : ((Int32.ofInt 0)).toInt + (cM (sc2.1 158) (x1).toNatClampNeg : Int) ≤ (x1).toInt := by first | exact g42_0 | (rcases g126_0 with hg | hg; (exfalso; rw [← e132] at hg; have hz := c133; omega); have a0 := h2; unfold In at a0; have a1 := h1; unfold In at a1; have a2 := i4; unfold In at a2; have a3 := (in_c 0 rfl); unfold In at a3; omega) | (have hc := cM_le (sc2.1 158) (x1).toNatClampNeg; have h0 : (Int32.ofInt 0).toInt = 0 := rfl; have hmn : ((x1).toNatClampNeg : Int) = (x1).toInt := (by show (((x1).toInt.toNat : Nat) : Int) = _; have a0 := h2; unfold In at a0; have a1 := h1; unfold In at a1; have a2 := i4; unfold In at a2; have a3 := (in_c 0 rfl); unfold In at a3; omega); omega)
        have n32b : ∀ k : Nat, (k : Int) < (x1).toInt → (sc2.1 158 k).toInt < ((Int32.ofInt 0)).toInt := by first | exact g42_1 | (intro k hk; have h := g126_1 k hk; have a0 := h2; unfold In at a0; have a1 := h1; unfold In at a1; have a2 := i4; unfold In at a2; have a3 := (in_c 0 rfl); unfold In at a3; omega) | exact fun k hk => (g2_0 k (by have a0 := h2; unfold In at a0; have a1 := h1; unfold In at a1; have a2 := i4; unfold In at a2; have a3 := (in_c 0 rfl); unfold In at a3; omega)).1
        have n32c : ∀ k : Nat, (k : Int) < (x1).toInt → (sc2.1 159 k).toInt < ((Int32.ofInt 0)).toInt := by first | (intro k hk; have h := g42_2 k hk; have a0 := h2; unfold In at a0; have a1 := h1; unfold In at a1; have a2 := i4; unfold In at a2; have a3 := (in_c 0 rfl); unfold In at a3; omega) | (intro k hk; have h := g126_2 k hk; have a0 := h2; unfold In at a0; have a1 := h1; unfold In at a1; have a2 := i4; unfold In at a2; have a3 := (in_c 0 rfl); unfold In at a3; omega) | exact fun k hk => (g2_0 k (by have a0 := h2; unfold In at a0; have a1 := h1; unfold In at a1; have a2 := i4; unfold In at a2; have a3 := (in_c 0 rfl); unfold In at a3; omega)).2
        exact gg_w (by first | exact Nat.le_add_right _ _ | exact gw2 | exact gw3 | exact gwe rfl | exact gwf rfl | exact gwg rfl | exact gwh rfl | omega) (gg_f (gf_cons rfl (gf_cons rfl (gf_cons rfl (gf_cons rfl (gf_cons rfl gf_nil))))) (ct32 33 sc2 (Int32.ofInt 0) (Int32.ofInt 0) hIc2 hFc2 (in_w 0 32 (in_c 0 rfl) rfl) (in_w 0 32 (in_c 0 rfl) rfl) n32 n32a n32b n32c (m_in 33 (in_w 0 32 (in_c 0 rfl) rfl) rfl)))
      · skip
        have i4 := r_lt1 0 31 c4 j2_3 h1 rfl
        refine g_aload_n 8 (gd rfl) rfl rfl ?_
        refine g_getA (q2 := 158) 11 (gd rfl) rfl rfl rfl rfl ?_
        refine g_iload_n 12 (gd rfl) rfl rfl ?_
        refine g_iconst (-1) 13 (gd rfl) rfl rfl ?_
        refine g_iastore 14 (gd rfl) rfl (n := 32) rfl (in_ix i4 rfl) ?_
        have hI13 := inv_sI (q := 158) (j := y2_3.toNatClampNeg) hIc2 rfl (in_w (-2147483648) 2147483647 (in_c (-1) rfl) rfl)
        refine g_aload_n 15 (gd rfl) rfl rfl ?_
        refine g_getA (q2 := 159) 18 (gd rfl) rfl rfl rfl rfl ?_
        refine g_iload_n 19 (gd rfl) rfl rfl ?_
        refine g_iconst (-1) 20 (gd rfl) rfl rfl ?_
        refine g_iastore 21 (gd rfl) rfl (n := 32) rfl (in_ix i4 rfl) ?_
        have hI20 := inv_sI (q := 159) (j := y2_3.toNatClampNeg) hI13 rfl (in_w (-2147483648) 2147483647 (in_c (-1) rfl) rfl)
        refine g_iinc 24 (gd rfl) rfl rfl (Nat.le_of_ble_eq_true rfl) (fun z21 e21 => ?_)
        have i21 := in_add 1 32 e21 i4 (in_c 1 rfl) rfl rfl
        refine g_goto 2 (gd rfl) rfl ?_
        have n2 : ∀ k : Nat, (k : Int) < (z21).toInt → ((sI (sI sc2 158 y2_3.toNatClampNeg (Int32.ofInt (-1))) 159 y2_3.toNatClampNeg (Int32.ofInt (-1))).1 158 k).toInt < 0 ∧ ((sI (sI sc2 158 y2_3.toNatClampNeg (Int32.ofInt (-1))) 159 y2_3.toNatClampNeg (Int32.ofInt (-1))).1 159 k).toInt < 0 := by first | (intro k hk; exfalso; have h0 : (Int32.ofInt 0).toInt = 0 := rfl; omega) | (intro k hk; rw [sI_q, sI_p rfl, sI_q]; have e3 : y2_3.toNatClampNeg = y2_3.toInt.toNat := rfl; exact ⟨up_lt (fun c => (g2_0 k (by have a0 := h2; unfold In at a0; have a1 := h1; unfold In at a1; have a2 := i4; unfold In at a2; have a3 := i21; unfold In at a3; have a4 := t_add e21 i4 (in_c 1 rfl) rfl; have a5 := (in_c 1 rfl); unfold In at a5; omega)).1) (by decide), up_lt (fun c => (g2_0 k (by have a0 := h2; unfold In at a0; have a1 := h1; unfold In at a1; have a2 := i4; unfold In at a2; have a3 := i21; unfold In at a3; have a4 := t_add e21 i4 (in_c 1 rfl) rfl; have a5 := (in_c 1 rfl); unfold In at a5; omega)).2) (by decide)⟩)
        exact gg_w (by first | exact Nat.le_add_right _ _ | exact gw2 | exact gw3 | exact gwe rfl | exact gwf rfl | exact gwg rfl | exact gwh rfl | omega) (gg_f (gf_cons rfl (gf_cons rfl (gf_cons rfl (gf_cons rfl gf_nil)))) (ih2 (sI (sI sc2 158 y2_3.toNatClampNeg (Int32.ofInt (-1))) 159 y2_3.toNatClampNeg (Int32.ofInt (-1))) z21 hI20 (fr_sI rfl (fr_sI rfl hFc2)) (in_w 0 32 i21 rfl) n2 (m_up mm2 (t_add e21 i4 (in_c 1 rfl) rfl) (in_w 1 1 (in_c 1 rfl) rfl))))
  refine g_enter2 (k := 364) (N := 2169069) (by first | exact dq1 hd rfl | exact dq0 hd rfl | exact dq2 hd rfl | exact dq3 hd rfl | omega) rfl (Nat.le_of_ble_eq_true rfl) ?_
  refine g_iconst 0 1 (gd rfl) rfl rfl ?_
  refine g_istore_n 2 (gd rfl) rfl (Nat.le_of_ble_eq_true rfl) ?_
  have n2 : ∀ k : Nat, (k : Int) < ((Int32.ofInt 0)).toInt → (s.1 158 k).toInt < 0 ∧ (s.1 159 k).toInt < 0 := by first | (intro k hk; exfalso; have h0 : (Int32.ofInt 0).toInt = 0 := rfl; omega) | (intro k hk; rw [sI_q, sI_p rfl, sI_q]; have e3 : y2_3.toNatClampNeg = y2_3.toInt.toNat := rfl; exact ⟨up_lt (fun c => (g2_0 k (by have a0 := h2; unfold In at a0; have a1 := h1; unfold In at a1; have a2 := (in_c 0 rfl); unfold In at a2; omega)).1) (by decide), up_lt (fun c => (g2_0 k (by have a0 := h2; unfold In at a0; have a1 := h1; unfold In at a1; have a2 := (in_c 0 rfl); unfold In at a2; omega)).2) (by decide)⟩)
  exact gg_w (by first | exact Nat.le_of_ble_eq_true rfl | omega) (gg_f (gf_cons rfl (gf_cons rfl (gf_cons rfl (gf_cons rfl gf_nil)))) (ct2 33 s (Int32.ofInt 0) hI fr_rf (in_w 0 32 (in_c 0 rfl) rfl) n2 (m_in 33 (in_w 0 32 (in_c 0 rfl) rfl) rfl)))

def fm_305 : FM := ([110, 112], [], [], [])
/-- GraphHouseModel.isFirstSort -/
theorem k_359 {Z : AmZ} {A : Nat → Nat} {s : GS} {ex : va_W} {d : Nat} {X : AmX} {x1 : Int32} (hd : 1 ≤ d) (hI : Inv s) (h1 : In x1 0 31) : GC Z d 359 [.ref (A 109), .int x1] (WW Z A s ++ ex) 0 0 (fun v u => ∃ z : Int32, v = some (.int z) ∧ u = WW Z A s ++ ex ∧ In z 0 1 ∧ (((z).toInt ≠ 0 ↔ FSQ s (x1).toNatClampNeg))) X := by
  intro post xp hP hX
  obtain ⟨u_109_18, e_109_18⟩ : ∃ w, w = s.2.2.1 109 18 := ⟨_, rfl⟩
  have ro_109_18 := inv_F hI 0 1 rfl e_109_18
  refine g_enter2 (k := 359) (N := 900) (by first | exact dq1 hd rfl | exact dq0 hd rfl | exact dq2 hd rfl | exact dq3 hd rfl | omega) rfl (Nat.le_of_ble_eq_true rfl) ?_
  refine g_aload_n 1 (gd rfl) rfl rfl ?_
  refine g_getA (q2 := 111) 4 (gd rfl) rfl rfl rfl rfl ?_
  refine g_bipush 32 6 (gd rfl) rfl rfl ?_
  refine g_aload_n 7 (gd rfl) rfl rfl ?_
  refine g_getI 10 (gd rfl) rfl rfl rfl (fun z7 e7 => ?_)
  have q7 : u_109_18 = z7 := (e_109_18).trans e7.symm
  subst q7
  refine g_imul 11 (gd rfl) rfl (fun z10 e10 => ?_)
  have i10 := in_mulc 32 0 32 (Or.inl e10) ro_109_18 rfl rfl
  refine g_iload_n 12 (gd rfl) rfl rfl ?_
  refine g_iadd 13 (gd rfl) rfl (fun z12 e12 => ?_)
  have i12 := in_add 0 63 e12 i10 h1 rfl rfl
  refine g_iaload 14 (gd rfl) rfl (n := 96) rfl (in_ix i12 rfl) (fun z13 e13 => ?_)
  have i13 := inv_I hI (n := 96) (t := 0) 0 25 rfl (in_ix i12 rfl) rfl e13
  refine g_bipush 13 16 (gd rfl) rfl rfl ?_
  refine g_cmp_ge 19 23 (gd rfl) rfl rfl (fun c16 => ?_) (fun c16 => ?_)
  · skip
    have i16 := r_le2 13 25 c16 (in_c 13 rfl) i13 rfl
    refine g_iconst 0 24 (gd rfl) rfl rfl ?_
    have n24 : (((Int32.ofInt 0)).toInt ≠ 0 ↔ FSQ s (x1).toNatClampNeg) := by have hx : 32 * (s.2.2.1 109 18).toNatClampNeg + x1.toNatClampNeg = z12.toNatClampNeg := (by rw [← (show u_109_18 = s.2.2.1 109 18 from e_109_18)]; show 32 * u_109_18.toInt.toNat + x1.toInt.toNat = z12.toInt.toNat; have a0 := ro_109_18; unfold In at a0; have a1 := h1; unfold In at a1; have a2 := i12; unfold In at a2; have a3 := t_add e12 i10 h1 rfl; have a4 := i10; unfold In at a4; have a5 := (t_mulc 32 (Or.inl e10) ro_109_18 rfl).1; omega); unfold FSQ; rw [hx, ← e13]; have h13 : (Int32.ofInt 13).toInt = 13 := rfl; have h := c16; first | exact ⟨fun _ => by omega, fun _ => by decide⟩ | exact ⟨fun q => absurd (by decide) q, fun q => by omega⟩
    exact g_ireturn (gd rfl) rfl (nb01 (in_w 0 1 (in_c 0 rfl) rfl)) (hP _ _ ⟨(Int32.ofInt 0), rfl, rfl, in_w 0 1 (in_c 0 rfl) rfl, n24⟩)
  · skip
    have i16 := r_lt1 0 12 c16 i13 (in_c 13 rfl) rfl
    refine g_iconst 1 20 (gd rfl) rfl rfl ?_
    refine g_goto 24 (gd rfl) rfl ?_
    have n24 : (((Int32.ofInt 1)).toInt ≠ 0 ↔ FSQ s (x1).toNatClampNeg) := by have hx : 32 * (s.2.2.1 109 18).toNatClampNeg + x1.toNatClampNeg = z12.toNatClampNeg := (by rw [← (show u_109_18 = s.2.2.1 109 18 from e_109_18)]; show 32 * u_109_18.toInt.toNat + x1.toInt.toNat = z12.toInt.toNat; have a0 := ro_109_18; unfold In at a0; have a1 := h1; unfold In at a1; have a2 := i12; unfold In at a2; have a3 := t_add e12 i10 h1 rfl; have a4 := i10; unfold In at a4; have a5 := (t_mulc 32 (Or.inl e10) ro_109_18 rfl).1; omega); unfold FSQ; rw [hx, ← e13]; have h13 : (Int32.ofInt 13).toInt = 13 := rfl; have h := c16; first | exact ⟨fun _ => by omega, fun _ => by decide⟩ | exact ⟨fun q => absurd (by decide) q, fun q => by omega⟩
    exact g_ireturn (gd rfl) rfl (nb01 (in_w 0 1 (in_c 1 rfl) rfl)) (hP _ _ ⟨(Int32.ofInt 1), rfl, rfl, in_w 0 1 (in_c 1 rfl) rfl, n24⟩)
end
section
/-! methods, by vc.py -/
def fm_173_46 : FM := ([], [], [(46, 2), (46, 3), (46, 5)], [])
/-- GraphHouse$Script.readNumber -/
theorem k_173_46 {Z : AmZ} {A : Nat → Nat} {s : GS} {ex : va_W} {d : Nat} {X : AmX} {x1 : Int32} {x2 : Int32} {u_46_2 : Int32} {u_46_1 : Int32} (hd : 3 ≤ d) (hI : Inv s) (h1 : In x1 0 1) (h2 : In x2 6 7) (e_46_2 : u_46_2 = s.2.2.1 46 2) (e_46_1 : u_46_1 = s.2.2.1 46 1) (p_0 : (u_46_2).toInt + (x1).toInt + 1 ≤ (u_46_1).toInt) (q_0 : 48 ≤ (s.1 47 ((s.2.2.1 46 2).toInt + (x1).toInt).toNat).toInt ∧ (s.1 47 ((s.2.2.1 46 2).toInt + (x1).toInt).toNat).toInt ≤ 57) : GC Z d 173 [.ref (A 46), .int x1, .int x2] (WW Z A s ++ ex) 0 0 (fun v u => ∃ t : GS, Inv t ∧ Fr fm_173_46 s t ∧ ((t.2.2.1 46 2).toInt ≤ (t.2.2.1 46 1).toInt) ∧ ((s.2.2.1 46 2).toInt + 1 ≤ (t.2.2.1 46 2).toInt) ∧ v = none ∧ u = WW Z A t ++ ex ∧ ((t.2.2.1 46 3).toInt ≠ 1) ∧ ((x2).toInt = 6 → (t.2.2.1 46 3).toInt = 2 → (t.2.2.1 46 5).toInt ≤ 999999)) X := by
  intro post xp hP hX
  have ro_46_1 := inv_F hI 0 1000 rfl e_46_1
  have ct26 : ∀ (k26 : Nat) (sc26 : GS) (y26_3 : Int32) (y26_4 : Int32) (w26_46_2 : Int32), Inv sc26 → Fr fm_173_46 s sc26 → (In y26_3 0 1000) → (In y26_4 0 9999999) → (w26_46_2 = sc26.2.2.1 46 2) → ((w26_46_2).toInt ≤ (u_46_1).toInt) → ((u_46_2).toInt + (x1).toInt ≤ (w26_46_2).toInt) → ((y26_3).toInt ≤ (w26_46_2).toInt) → (0 ≤ (y26_4).toInt ∧ ((y26_3).toInt ≤ (x2).toInt → (y26_4).toInt < (10 : Int) ^ ((y26_3).toInt).toNat) ∧ ((x2).toInt < (y26_3).toInt → (y26_4).toInt < (10 : Int) ^ ((x2).toInt).toNat)) → (u_46_1).toInt - (w26_46_2).toInt < (k26 : Int) → GG Z (d - 1) 173 post (gx xp) (1 + k26 * 900) 26 (fun j => xlook j [(0, .ref (A 46)), (1, .int x1), (2, .int x2), (3, .int y26_3), (4, .int y26_4)]) [] (WW Z A sc26 ++ ex) 0 0 := by
    intro k26
    induction k26 with
    | zero => intro sc26 y26_3 y26_4 w26_46_2 hIc26 hFc26 j26_3 j26_4 v26_46_2 n26_0 n26_1 n26_2 g26_0 mm26; exfalso; have a0 := h2; unfold In at a0; have a1 := h1; unfold In at a1; have a2 := ro_46_1; unfold In at a2; have a3 := (inv_F hIc26 0 1000 rfl v26_46_2); unfold In at a3; have a4 := j26_4; unfold In at a4; have a5 := j26_3; unfold In at a5; omega
    | succ k26 ih26 =>
      intro sc26 y26_3 y26_4 w26_46_2 hIc26 hFc26 j26_3 j26_4 v26_46_2 n26_0 n26_1 n26_2 g26_0 mm26
      refine gg_w (M := 1 + k26 * 900 + 900) gws ?_
      refine g_aload_n 27 (gd rfl) rfl rfl ?_
      refine g_getI 30 (gd rfl) rfl rfl rfl (fun z27 e27 => ?_)
      have q27 : w26_46_2 = z27 := (v26_46_2).trans e27.symm
      subst q27
      refine g_aload_n 31 (gd rfl) rfl rfl ?_
      refine g_getI 34 (gd rfl) rfl rfl rfl (fun z31 e31 => ?_)
      have q31 : u_46_1 = z31 := (fr_F e_46_1 hFc26 rfl).trans e31.symm
      subst q31
      refine g_cmp_ge 37 89 (gd rfl) rfl rfl (fun c34 => ?_) (fun c34 => ?_)
      · skip
        have hq89 : (u_46_2).toInt + 1 ≤ (w26_46_2).toInt := (by have a0 := h2; unfold In at a0; have a1 := h1; unfold In at a1; have a2 := ro_46_1; unfold In at a2; have a3 := (inv_F hIc26 0 1000 rfl v26_46_2); unfold In at a3; have a4 := j26_4; unfold In at a4; have a5 := j26_3; unfold In at a5; omega)
        refine g_aload_n 90 (gd rfl) rfl rfl ?_
        refine g_iload_n 91 (gd rfl) rfl rfl ?_
        refine g_if_eq 94 100 (gd rfl) rfl rfl (fun c91 => ?_) (fun c91 => ?_)
        · skip
          have i91 := z_eq 0 0 c91 h1 rfl
          refine g_iload 102 (gd rfl) rfl rfl ?_
          refine g_putI 105 (gd rfl) rfl rfl rfl rfl ?_
          have hI102 := inv_sF (q := 46) (j := 5) hIc26 rfl (in_w (-2147483648) 2147483647 j26_4 rfl)
          refine g_aload_n 106 (gd rfl) rfl rfl ?_
          refine g_iload_n 107 (gd rfl) rfl rfl ?_
          refine g_iload_n 108 (gd rfl) rfl rfl ?_
          refine g_cmp_le 111 115 (gd rfl) rfl rfl (fun c108 => ?_) (fun c108 => ?_)
          · skip
            have i108 := r_le1 0 7 c108 j26_3 h2 rfl
            refine g_iconst 2 116 (gd rfl) rfl rfl ?_
            refine g_putI 119 (gd rfl) rfl rfl rfl rfl ?_
            have hI116 := inv_sF (q := 46) (j := 3) hI102 rfl (in_w 0 5 (in_c 2 rfl) rfl)
            have n119 : ((sF (sF sc26 46 5 y26_4) 46 3 (Int32.ofInt 2)).2.2.1 46 3).toInt ≠ 1 := by rw [← (show (Int32.ofInt 2) = (sF (sF sc26 46 5 y26_4) 46 3 (Int32.ofInt 2)).2.2.1 46 3 from sF_get)]; decide
            have n119a : (x2).toInt = 6 → ((sF (sF sc26 46 5 y26_4) 46 3 (Int32.ofInt 2)).2.2.1 46 3).toInt = 2 → ((sF (sF sc26 46 5 y26_4) 46 3 (Int32.ofInt 2)).2.2.1 46 5).toInt ≤ 999999 := by intro h6 h2; rw [← (show (Int32.ofInt 2) = (sF (sF sc26 46 5 y26_4) 46 3 (Int32.ofInt 2)).2.2.1 46 3 from sF_get)] at h2; rw [← (show y26_4 = (sF (sF sc26 46 5 y26_4) 46 3 (Int32.ofInt 2)).2.2.1 46 5 from sF_ne rfl (sF_get))]; first | (exfalso; revert h2; decide) | exact dg_6 (by have a0 := h2; unfold In at a0; have a1 := i91; unfold In at a1; have a2 := ro_46_1; unfold In at a2; have a3 := (inv_F hIc26 0 1000 rfl v26_46_2); unfold In at a3; have a4 := j26_4; unfold In at a4; have a5 := i108; unfold In at a5; have a6 := (in_c 2 rfl); unfold In at a6; omega) (by have a0 := h2; unfold In at a0; have a1 := i91; unfold In at a1; have a2 := ro_46_1; unfold In at a2; have a3 := (inv_F hIc26 0 1000 rfl v26_46_2); unfold In at a3; have a4 := j26_4; unfold In at a4; have a5 := i108; unfold In at a5; have a6 := (in_c 2 rfl); unfold In at a6; omega) (g26_0.2.1 (by have a0 := h2; unfold In at a0; have a1 := i91; unfold In at a1; have a2 := ro_46_1; unfold In at a2; have a3 := (inv_F hIc26 0 1000 rfl v26_46_2); unfold In at a3; have a4 := j26_4; unfold In at a4; have a5 := i108; unfold In at a5; have a6 := (in_c 2 rfl); unfold In at a6; omega))
            have n119b : (w26_46_2).toInt ≤ (u_46_1).toInt := by first | exact n26_0 | (have a0 := h2; unfold In at a0; have a1 := i91; unfold In at a1; have a2 := ro_46_1; unfold In at a2; have a3 := (inv_F hIc26 0 1000 rfl v26_46_2); unfold In at a3; have a4 := j26_4; unfold In at a4; have a5 := i108; unfold In at a5; have a6 := (in_c 2 rfl); unfold In at a6; omega)
            have n119c : ((sF (sF sc26 46 5 y26_4) 46 3 (Int32.ofInt 2)).2.2.1 46 2).toInt ≤ ((sF (sF sc26 46 5 y26_4) 46 3 (Int32.ofInt 2)).2.2.1 46 1).toInt := by have b0 : w26_46_2 = (sF (sF sc26 46 5 y26_4) 46 3 (Int32.ofInt 2)).2.2.1 46 2 := sF_ne rfl (sF_ne rfl (v26_46_2)); have b1 : u_46_1 = (sF (sF sc26 46 5 y26_4) 46 3 (Int32.ofInt 2)).2.2.1 46 1 := sF_ne rfl (sF_ne rfl (fr_F e_46_1 hFc26 rfl)); rw [← b0, ← b1]; exact n119b
            have n119d : (u_46_2).toInt + 1 ≤ (w26_46_2).toInt := by have a0 := h2; unfold In at a0; have a1 := i91; unfold In at a1; have a2 := ro_46_1; unfold In at a2; have a3 := (inv_F hIc26 0 1000 rfl v26_46_2); unfold In at a3; have a4 := j26_4; unfold In at a4; have a5 := i108; unfold In at a5; have a6 := (in_c 2 rfl); unfold In at a6; omega
            have n119e : (s.2.2.1 46 2).toInt + 1 ≤ ((sF (sF sc26 46 5 y26_4) 46 3 (Int32.ofInt 2)).2.2.1 46 2).toInt := by have b0 : w26_46_2 = (sF (sF sc26 46 5 y26_4) 46 3 (Int32.ofInt 2)).2.2.1 46 2 := sF_ne rfl (sF_ne rfl (v26_46_2)); first | (rw [← b0, ← e_46_2]; exact n119d) | (rw [← b0]; exact n119d)
            exact g_return (gd rfl) rfl (hP _ _ ⟨(sF (sF sc26 46 5 y26_4) 46 3 (Int32.ofInt 2)), hI116, (fr_sF rfl (fr_sF rfl hFc26)), n119c, n119e, rfl, rfl, n119, n119a⟩)
          · skip
            have i108 := r_lt2 7 1000 c108 h2 j26_3 rfl
            refine g_iconst 5 112 (gd rfl) rfl rfl ?_
            refine g_goto 116 (gd rfl) rfl ?_
            refine g_putI 119 (gd rfl) rfl rfl rfl rfl ?_
            have hI116 := inv_sF (q := 46) (j := 3) hI102 rfl (in_w 0 5 (in_c 5 rfl) rfl)
            have n119 : ((sF (sF sc26 46 5 y26_4) 46 3 (Int32.ofInt 5)).2.2.1 46 3).toInt ≠ 1 := by rw [← (show (Int32.ofInt 5) = (sF (sF sc26 46 5 y26_4) 46 3 (Int32.ofInt 5)).2.2.1 46 3 from sF_get)]; decide
            have n119a : (x2).toInt = 6 → ((sF (sF sc26 46 5 y26_4) 46 3 (Int32.ofInt 5)).2.2.1 46 3).toInt = 2 → ((sF (sF sc26 46 5 y26_4) 46 3 (Int32.ofInt 5)).2.2.1 46 5).toInt ≤ 999999 := by intro h6 h2; rw [← (show (Int32.ofInt 5) = (sF (sF sc26 46 5 y26_4) 46 3 (Int32.ofInt 5)).2.2.1 46 3 from sF_get)] at h2; rw [← (show y26_4 = (sF (sF sc26 46 5 y26_4) 46 3 (Int32.ofInt 5)).2.2.1 46 5 from sF_ne rfl (sF_get))]; first | (exfalso; revert h2; decide) | exact dg_6 (by have a0 := h2; unfold In at a0; have a1 := i91; unfold In at a1; have a2 := ro_46_1; unfold In at a2; have a3 := (inv_F hIc26 0 1000 rfl v26_46_2); unfold In at a3; have a4 := j26_4; unfold In at a4; have a5 := i108; unfold In at a5; have a6 := (in_c 5 rfl); unfold In at a6; omega) (by have a0 := h2; unfold In at a0; have a1 := i91; unfold In at a1; have a2 := ro_46_1; unfold In at a2; have a3 := (inv_F hIc26 0 1000 rfl v26_46_2); unfold In at a3; have a4 := j26_4; unfold In at a4; have a5 := i108; unfold In at a5; have a6 := (in_c 5 rfl); unfold In at a6; omega) (g26_0.2.1 (by have a0 := h2; unfold In at a0; have a1 := i91; unfold In at a1; have a2 := ro_46_1; unfold In at a2; have a3 := (inv_F hIc26 0 1000 rfl v26_46_2); unfold In at a3; have a4 := j26_4; unfold In at a4; have a5 := i108; unfold In at a5; have a6 := (in_c 5 rfl); unfold In at a6; omega))
            have n119b : (w26_46_2).toInt ≤ (u_46_1).toInt := by first | exact n26_0 | (have a0 := h2; unfold In at a0; have a1 := i91; unfold In at a1; have a2 := ro_46_1; unfold In at a2; have a3 := (inv_F hIc26 0 1000 rfl v26_46_2); unfold In at a3; have a4 := j26_4; unfold In at a4; have a5 := i108; unfold In at a5; have a6 := (in_c 5 rfl); unfold In at a6; omega)
            have n119c : ((sF (sF sc26 46 5 y26_4) 46 3 (Int32.ofInt 5)).2.2.1 46 2).toInt ≤ ((sF (sF sc26 46 5 y26_4) 46 3 (Int32.ofInt 5)).2.2.1 46 1).toInt := by have b0 : w26_46_2 = (sF (sF sc26 46 5 y26_4) 46 3 (Int32.ofInt 5)).2.2.1 46 2 := sF_ne rfl (sF_ne rfl (v26_46_2)); have b1 : u_46_1 = (sF (sF sc26 46 5 y26_4) 46 3 (Int32.ofInt 5)).2.2.1 46 1 := sF_ne rfl (sF_ne rfl (fr_F e_46_1 hFc26 rfl)); rw [← b0, ← b1]; exact n119b
            have n119d : (u_46_2).toInt + 1 ≤ (w26_46_2).toInt := by have a0 := h2; unfold In at a0; have a1 := i91; unfold In at a1; have a2 := ro_46_1; unfold In at a2; have a3 := (inv_F hIc26 0 1000 rfl v26_46_2); unfold In at a3; have a4 := j26_4; unfold In at a4; have a5 := i108; unfold In at a5; have a6 := (in_c 5 rfl); unfold In at a6; omega
            have n119e : (s.2.2.1 46 2).toInt + 1 ≤ ((sF (sF sc26 46 5 y26_4) 46 3 (Int32.ofInt 5)).2.2.1 46 2).toInt := by have b0 : w26_46_2 = (sF (sF sc26 46 5 y26_4) 46 3 (Int32.ofInt 5)).2.2.1 46 2 := sF_ne rfl (sF_ne rfl (v26_46_2)); first | (rw [← b0, ← e_46_2]; exact n119d) | (rw [← b0]; exact n119d)
            exact g_return (gd rfl) rfl (hP _ _ ⟨(sF (sF sc26 46 5 y26_4) 46 3 (Int32.ofInt 5)), hI116, (fr_sF rfl (fr_sF rfl hFc26)), n119c, n119e, rfl, rfl, n119, n119a⟩)
        · skip
          have i91 := z_ne 1 1 c91 h1 rfl
          refine g_iload 96 (gd rfl) rfl rfl ?_
          refine g_ineg 97 (gd rfl) rfl (fun z96 e96 => ?_)
          have i96 := in_neg (-9999999) 0 e96 j26_4 rfl
          refine g_goto 102 (gd rfl) rfl ?_
          refine g_putI 105 (gd rfl) rfl rfl rfl rfl ?_
          have hI102 := inv_sF (q := 46) (j := 5) hIc26 rfl (in_w (-2147483648) 2147483647 i96 rfl)
          refine g_aload_n 106 (gd rfl) rfl rfl ?_
          refine g_iload_n 107 (gd rfl) rfl rfl ?_
          refine g_iload_n 108 (gd rfl) rfl rfl ?_
          refine g_cmp_le 111 115 (gd rfl) rfl rfl (fun c108 => ?_) (fun c108 => ?_)
          · skip
            have i108 := r_le1 0 7 c108 j26_3 h2 rfl
            refine g_iconst 2 116 (gd rfl) rfl rfl ?_
            refine g_putI 119 (gd rfl) rfl rfl rfl rfl ?_
            have hI116 := inv_sF (q := 46) (j := 3) hI102 rfl (in_w 0 5 (in_c 2 rfl) rfl)
            have n119 : ((sF (sF sc26 46 5 z96) 46 3 (Int32.ofInt 2)).2.2.1 46 3).toInt ≠ 1 := by rw [← (show (Int32.ofInt 2) = (sF (sF sc26 46 5 z96) 46 3 (Int32.ofInt 2)).2.2.1 46 3 from sF_get)]; decide
            have n119a : (x2).toInt = 6 → ((sF (sF sc26 46 5 z96) 46 3 (Int32.ofInt 2)).2.2.1 46 3).toInt = 2 → ((sF (sF sc26 46 5 z96) 46 3 (Int32.ofInt 2)).2.2.1 46 5).toInt ≤ 999999 := by intro h6 h2; rw [← (show (Int32.ofInt 2) = (sF (sF sc26 46 5 z96) 46 3 (Int32.ofInt 2)).2.2.1 46 3 from sF_get)] at h2; rw [← (show z96 = (sF (sF sc26 46 5 z96) 46 3 (Int32.ofInt 2)).2.2.1 46 5 from sF_ne rfl (sF_get))]; first | (exfalso; revert h2; decide) | (have a0 := h2; unfold In at a0; have a1 := i91; unfold In at a1; have a2 := ro_46_1; unfold In at a2; have a3 := (inv_F hIc26 0 1000 rfl v26_46_2); unfold In at a3; have a4 := j26_4; unfold In at a4; have a5 := i108; unfold In at a5; have a6 := (in_c 2 rfl); unfold In at a6; have a7 := i96; unfold In at a7; omega)
            have n119b : (w26_46_2).toInt ≤ (u_46_1).toInt := by first | exact n26_0 | (have a0 := h2; unfold In at a0; have a1 := i91; unfold In at a1; have a2 := ro_46_1; unfold In at a2; have a3 := (inv_F hIc26 0 1000 rfl v26_46_2); unfold In at a3; have a4 := j26_4; unfold In at a4; have a5 := i108; unfold In at a5; have a6 := (in_c 2 rfl); unfold In at a6; have a7 := i96; unfold In at a7; omega)
            have n119c : ((sF (sF sc26 46 5 z96) 46 3 (Int32.ofInt 2)).2.2.1 46 2).toInt ≤ ((sF (sF sc26 46 5 z96) 46 3 (Int32.ofInt 2)).2.2.1 46 1).toInt := by have b0 : w26_46_2 = (sF (sF sc26 46 5 z96) 46 3 (Int32.ofInt 2)).2.2.1 46 2 := sF_ne rfl (sF_ne rfl (v26_46_2)); have b1 : u_46_1 = (sF (sF sc26 46 5 z96) 46 3 (Int32.ofInt 2)).2.2.1 46 1 := sF_ne rfl (sF_ne rfl (fr_F e_46_1 hFc26 rfl)); rw [← b0, ← b1]; exact n119b
            have n119d : (u_46_2).toInt + 1 ≤ (w26_46_2).toInt := by have a0 := h2; unfold In at a0; have a1 := i91; unfold In at a1; have a2 := ro_46_1; unfold In at a2; have a3 := (inv_F hIc26 0 1000 rfl v26_46_2); unfold In at a3; have a4 := j26_4; unfold In at a4; have a5 := i108; unfold In at a5; have a6 := (in_c 2 rfl); unfold In at a6; have a7 := i96; unfold In at a7; omega
            have n119e : (s.2.2.1 46 2).toInt + 1 ≤ ((sF (sF sc26 46 5 z96) 46 3 (Int32.ofInt 2)).2.2.1 46 2).toInt := by have b0 : w26_46_2 = (sF (sF sc26 46 5 z96) 46 3 (Int32.ofInt 2)).2.2.1 46 2 := sF_ne rfl (sF_ne rfl (v26_46_2)); first | (rw [← b0, ← e_46_2]; exact n119d) | (rw [← b0]; exact n119d)
            exact g_return (gd rfl) rfl (hP _ _ ⟨(sF (sF sc26 46 5 z96) 46 3 (Int32.ofInt 2)), hI116, (fr_sF rfl (fr_sF rfl hFc26)), n119c, n119e, rfl, rfl, n119, n119a⟩)
          · skip
            have i108 := r_lt2 7 1000 c108 h2 j26_3 rfl
            refine g_iconst 5 112 (gd rfl) rfl rfl ?_
            refine g_goto 116 (gd rfl) rfl ?_
            refine g_putI 119 (gd rfl) rfl rfl rfl rfl ?_
            have hI116 := inv_sF (q := 46) (j := 3) hI102 rfl (in_w 0 5 (in_c 5 rfl) rfl)
            have n119 : ((sF (sF sc26 46 5 z96) 46 3 (Int32.ofInt 5)).2.2.1 46 3).toInt ≠ 1 := by rw [← (show (Int32.ofInt 5) = (sF (sF sc26 46 5 z96) 46 3 (Int32.ofInt 5)).2.2.1 46 3 from sF_get)]; decide
            have n119a : (x2).toInt = 6 → ((sF (sF sc26 46 5 z96) 46 3 (Int32.ofInt 5)).2.2.1 46 3).toInt = 2 → ((sF (sF sc26 46 5 z96) 46 3 (Int32.ofInt 5)).2.2.1 46 5).toInt ≤ 999999 := by intro h6 h2; rw [← (show (Int32.ofInt 5) = (sF (sF sc26 46 5 z96) 46 3 (Int32.ofInt 5)).2.2.1 46 3 from sF_get)] at h2; rw [← (show z96 = (sF (sF sc26 46 5 z96) 46 3 (Int32.ofInt 5)).2.2.1 46 5 from sF_ne rfl (sF_get))]; first | (exfalso; revert h2; decide) | (have a0 := h2; unfold In at a0; have a1 := i91; unfold In at a1; have a2 := ro_46_1; unfold In at a2; have a3 := (inv_F hIc26 0 1000 rfl v26_46_2); unfold In at a3; have a4 := j26_4; unfold In at a4; have a5 := i108; unfold In at a5; have a6 := (in_c 5 rfl); unfold In at a6; have a7 := i96; unfold In at a7; omega)
            have n119b : (w26_46_2).toInt ≤ (u_46_1).toInt := by first | exact n26_0 | (have a0 := h2; unfold In at a0; have a1 := i91; unfold In at a1; have a2 := ro_46_1; unfold In at a2; have a3 := (inv_F hIc26 0 1000 rfl v26_46_2); unfold In at a3; have a4 := j26_4; unfold In at a4; have a5 := i108; unfold In at a5; have a6 := (in_c 5 rfl); unfold In at a6; have a7 := i96; unfold In at a7; omega)
            have n119c : ((sF (sF sc26 46 5 z96) 46 3 (Int32.ofInt 5)).2.2.1 46 2).toInt ≤ ((sF (sF sc26 46 5 z96) 46 3 (Int32.ofInt 5)).2.2.1 46 1).toInt := by have b0 : w26_46_2 = (sF (sF sc26 46 5 z96) 46 3 (Int32.ofInt 5)).2.2.1 46 2 := sF_ne rfl (sF_ne rfl (v26_46_2)); have b1 : u_46_1 = (sF (sF sc26 46 5 z96) 46 3 (Int32.ofInt 5)).2.2.1 46 1 := sF_ne rfl (sF_ne rfl (fr_F e_46_1 hFc26 rfl)); rw [← b0, ← b1]; exact n119b
            have n119d : (u_46_2).toInt + 1 ≤ (w26_46_2).toInt := by have a0 := h2; unfold In at a0; have a1 := i91; unfold In at a1; have a2 := ro_46_1; unfold In at a2; have a3 := (inv_F hIc26 0 1000 rfl v26_46_2); unfold In at a3; have a4 := j26_4; unfold In at a4; have a5 := i108; unfold In at a5; have a6 := (in_c 5 rfl); unfold In at a6; have a7 := i96; unfold In at a7; omega
            have n119e : (s.2.2.1 46 2).toInt + 1 ≤ ((sF (sF sc26 46 5 z96) 46 3 (Int32.ofInt 5)).2.2.1 46 2).toInt := by have b0 : w26_46_2 = (sF (sF sc26 46 5 z96) 46 3 (Int32.ofInt 5)).2.2.1 46 2 := sF_ne rfl (sF_ne rfl (v26_46_2)); first | (rw [← b0, ← e_46_2]; exact n119d) | (rw [← b0]; exact n119d)
            exact g_return (gd rfl) rfl (hP _ _ ⟨(sF (sF sc26 46 5 z96) 46 3 (Int32.ofInt 5)), hI116, (fr_sF rfl (fr_sF rfl hFc26)), n119c, n119e, rfl, rfl, n119, n119a⟩)
      · skip
        have i34 := r_lt1 0 999 c34 (inv_F hIc26 0 1000 rfl v26_46_2) ro_46_1 rfl
        have i34a := r_lt2 1 1000 c34 (inv_F hIc26 0 1000 rfl v26_46_2) ro_46_1 rfl
        refine g_aload_n 38 (gd rfl) rfl rfl ?_
        refine g_aload_n 39 (gd rfl) rfl rfl ?_
        refine g_getI 42 (gd rfl) rfl rfl rfl (fun z39 e39 => ?_)
        have q39 : w26_46_2 = z39 := (v26_46_2).trans e39.symm
        subst q39
        refine g_callv (X := _) (As := [.int w26_46_2]) (r := []) (b := A 46) (q := 46) 45 (gd rfl) rfl rfl rfl rfl rfl (ww_o rfl) (Nat.le_of_ble_eq_true rfl) (mc := 0) (ms := 0) (Nat.zero_le _) (Nat.zero_le _) (P := fun v u => _) ?_ (fun e u h => h) (fun v u h => h)
        intro po42 xx42 hp42 hx42
        refine g_enter2 (k := 172) (N := 300) (by first | exact dq1 hd rfl | exact dq0 hd rfl | exact dq2 hd rfl | exact dq3 hd rfl | omega) rfl (Nat.le_of_ble_eq_true rfl) ?_
        refine g_iload_n 1 (gd rfl) rfl rfl ?_
        refine g_aload_n 2 (gd rfl) rfl rfl ?_
        refine g_getI 5 (gd rfl) rfl rfl rfl (fun z42x2 e42x2 => ?_)
        have q42x2 : u_46_1 = z42x2 := (fr_F e_46_1 hFc26 rfl).trans e42x2.symm
        subst q42x2
        refine g_cmp_ge 8 34 (gd rfl) rfl rfl (fun c42x5 => ?_) (fun c42x5 => ?_)
        · skip
          have i42x5 := r_le1 1 999 c42x5 i34a i34 rfl
          have i42x5a := r_le2 1 999 c42x5 i34a i34 rfl
          refine g_iconst 0 35 (gd rfl) rfl rfl ?_
          refine g_ireturn (gd rfl) rfl (nb01 (in_w 0 1 (in_c 0 rfl) rfl)) (hp42 _ _ ?_)
          show GG _ _ _ _ _ _ _ _ [.int (Int32.ofInt 0)] _ _ _
          refine g_if_eq 48 89 (gd rfl) rfl rfl (fun c45 => ?_) (fun c45 => ?_)
          · skip
            have hq89 : (u_46_2).toInt + 1 ≤ (w26_46_2).toInt := (by have a0 := h2; unfold In at a0; have a1 := h1; unfold In at a1; have a2 := i42x5; unfold In at a2; have a3 := i42x5a; unfold In at a3; have a4 := j26_4; unfold In at a4; have a5 := j26_3; unfold In at a5; omega)
            refine g_aload_n 90 (gd rfl) rfl rfl ?_
            refine g_iload_n 91 (gd rfl) rfl rfl ?_
            refine g_if_eq 94 100 (gd rfl) rfl rfl (fun c91 => ?_) (fun c91 => ?_)
            · skip
              have i91 := z_eq 0 0 c91 h1 rfl
              refine g_iload 102 (gd rfl) rfl rfl ?_
              refine g_putI 105 (gd rfl) rfl rfl rfl rfl ?_
              have hI102 := inv_sF (q := 46) (j := 5) hIc26 rfl (in_w (-2147483648) 2147483647 j26_4 rfl)
              refine g_aload_n 106 (gd rfl) rfl rfl ?_
              refine g_iload_n 107 (gd rfl) rfl rfl ?_
              refine g_iload_n 108 (gd rfl) rfl rfl ?_
              refine g_cmp_le 111 115 (gd rfl) rfl rfl (fun c108 => ?_) (fun c108 => ?_)
              · skip
                have i108 := r_le1 0 7 c108 j26_3 h2 rfl
                refine g_iconst 2 116 (gd rfl) rfl rfl ?_
                refine g_putI 119 (gd rfl) rfl rfl rfl rfl ?_
                have hI116 := inv_sF (q := 46) (j := 3) hI102 rfl (in_w 0 5 (in_c 2 rfl) rfl)
                have n119 : ((sF (sF sc26 46 5 y26_4) 46 3 (Int32.ofInt 2)).2.2.1 46 3).toInt ≠ 1 := by rw [← (show (Int32.ofInt 2) = (sF (sF sc26 46 5 y26_4) 46 3 (Int32.ofInt 2)).2.2.1 46 3 from sF_get)]; decide
                have n119a : (x2).toInt = 6 → ((sF (sF sc26 46 5 y26_4) 46 3 (Int32.ofInt 2)).2.2.1 46 3).toInt = 2 → ((sF (sF sc26 46 5 y26_4) 46 3 (Int32.ofInt 2)).2.2.1 46 5).toInt ≤ 999999 := by intro h6 h2; rw [← (show (Int32.ofInt 2) = (sF (sF sc26 46 5 y26_4) 46 3 (Int32.ofInt 2)).2.2.1 46 3 from sF_get)] at h2; rw [← (show y26_4 = (sF (sF sc26 46 5 y26_4) 46 3 (Int32.ofInt 2)).2.2.1 46 5 from sF_ne rfl (sF_get))]; first | (exfalso; revert h2; decide) | exact dg_6 (by have a0 := h2; unfold In at a0; have a1 := i91; unfold In at a1; have a2 := i42x5; unfold In at a2; have a3 := i42x5a; unfold In at a3; have a4 := j26_4; unfold In at a4; have a5 := i108; unfold In at a5; have a6 := (in_c 2 rfl); unfold In at a6; omega) (by have a0 := h2; unfold In at a0; have a1 := i91; unfold In at a1; have a2 := i42x5; unfold In at a2; have a3 := i42x5a; unfold In at a3; have a4 := j26_4; unfold In at a4; have a5 := i108; unfold In at a5; have a6 := (in_c 2 rfl); unfold In at a6; omega) (g26_0.2.1 (by have a0 := h2; unfold In at a0; have a1 := i91; unfold In at a1; have a2 := i42x5; unfold In at a2; have a3 := i42x5a; unfold In at a3; have a4 := j26_4; unfold In at a4; have a5 := i108; unfold In at a5; have a6 := (in_c 2 rfl); unfold In at a6; omega))
                have n119b : (w26_46_2).toInt ≤ (u_46_1).toInt := by first | exact n26_0 | (have a0 := h2; unfold In at a0; have a1 := i91; unfold In at a1; have a2 := i42x5; unfold In at a2; have a3 := i42x5a; unfold In at a3; have a4 := j26_4; unfold In at a4; have a5 := i108; unfold In at a5; have a6 := (in_c 2 rfl); unfold In at a6; omega)
                have n119c : ((sF (sF sc26 46 5 y26_4) 46 3 (Int32.ofInt 2)).2.2.1 46 2).toInt ≤ ((sF (sF sc26 46 5 y26_4) 46 3 (Int32.ofInt 2)).2.2.1 46 1).toInt := by have b0 : w26_46_2 = (sF (sF sc26 46 5 y26_4) 46 3 (Int32.ofInt 2)).2.2.1 46 2 := sF_ne rfl (sF_ne rfl (v26_46_2)); have b1 : u_46_1 = (sF (sF sc26 46 5 y26_4) 46 3 (Int32.ofInt 2)).2.2.1 46 1 := sF_ne rfl (sF_ne rfl (fr_F e_46_1 hFc26 rfl)); rw [← b0, ← b1]; exact n119b
                have n119d : (u_46_2).toInt + 1 ≤ (w26_46_2).toInt := by have a0 := h2; unfold In at a0; have a1 := i91; unfold In at a1; have a2 := i42x5; unfold In at a2; have a3 := i42x5a; unfold In at a3; have a4 := j26_4; unfold In at a4; have a5 := i108; unfold In at a5; have a6 := (in_c 2 rfl); unfold In at a6; omega
                have n119e : (s.2.2.1 46 2).toInt + 1 ≤ ((sF (sF sc26 46 5 y26_4) 46 3 (Int32.ofInt 2)).2.2.1 46 2).toInt := by have b0 : w26_46_2 = (sF (sF sc26 46 5 y26_4) 46 3 (Int32.ofInt 2)).2.2.1 46 2 := sF_ne rfl (sF_ne rfl (v26_46_2)); first | (rw [← b0, ← e_46_2]; exact n119d) | (rw [← b0]; exact n119d)
                exact g_return (gd rfl) rfl (hP _ _ ⟨(sF (sF sc26 46 5 y26_4) 46 3 (Int32.ofInt 2)), hI116, (fr_sF rfl (fr_sF rfl hFc26)), n119c, n119e, rfl, rfl, n119, n119a⟩)
              · skip
                have i108 := r_lt2 7 1000 c108 h2 j26_3 rfl
                refine g_iconst 5 112 (gd rfl) rfl rfl ?_
                refine g_goto 116 (gd rfl) rfl ?_
                refine g_putI 119 (gd rfl) rfl rfl rfl rfl ?_
                have hI116 := inv_sF (q := 46) (j := 3) hI102 rfl (in_w 0 5 (in_c 5 rfl) rfl)
                have n119 : ((sF (sF sc26 46 5 y26_4) 46 3 (Int32.ofInt 5)).2.2.1 46 3).toInt ≠ 1 := by rw [← (show (Int32.ofInt 5) = (sF (sF sc26 46 5 y26_4) 46 3 (Int32.ofInt 5)).2.2.1 46 3 from sF_get)]; decide
                have n119a : (x2).toInt = 6 → ((sF (sF sc26 46 5 y26_4) 46 3 (Int32.ofInt 5)).2.2.1 46 3).toInt = 2 → ((sF (sF sc26 46 5 y26_4) 46 3 (Int32.ofInt 5)).2.2.1 46 5).toInt ≤ 999999 := by intro h6 h2; rw [← (show (Int32.ofInt 5) = (sF (sF sc26 46 5 y26_4) 46 3 (Int32.ofInt 5)).2.2.1 46 3 from sF_get)] at h2; rw [← (show y26_4 = (sF (sF sc26 46 5 y26_4) 46 3 (Int32.ofInt 5)).2.2.1 46 5 from sF_ne rfl (sF_get))]; first | (exfalso; revert h2; decide) | exact dg_6 (by have a0 := h2; unfold In at a0; have a1 := i91; unfold In at a1; have a2 := i42x5; unfold In at a2; have a3 := i42x5a; unfold In at a3; have a4 := j26_4; unfold In at a4; have a5 := i108; unfold In at a5; have a6 := (in_c 5 rfl); unfold In at a6; omega) (by have a0 := h2; unfold In at a0; have a1 := i91; unfold In at a1; have a2 := i42x5; unfold In at a2; have a3 := i42x5a; unfold In at a3; have a4 := j26_4; unfold In at a4; have a5 := i108; unfold In at a5; have a6 := (in_c 5 rfl); unfold In at a6; omega) (g26_0.2.1 (by have a0 := h2; unfold In at a0; have a1 := i91; unfold In at a1; have a2 := i42x5; unfold In at a2; have a3 := i42x5a; unfold In at a3; have a4 := j26_4; unfold In at a4; have a5 := i108; unfold In at a5; have a6 := (in_c 5 rfl); unfold In at a6; omega))
                have n119b : (w26_46_2).toInt ≤ (u_46_1).toInt := by first | exact n26_0 | (have a0 := h2; unfold In at a0; have a1 := i91; unfold In at a1; have a2 := i42x5; unfold In at a2; have a3 := i42x5a; unfold In at a3; have a4 := j26_4; unfold In at a4; have a5 := i108; unfold In at a5; have a6 := (in_c 5 rfl); unfold In at a6; omega)
                have n119c : ((sF (sF sc26 46 5 y26_4) 46 3 (Int32.ofInt 5)).2.2.1 46 2).toInt ≤ ((sF (sF sc26 46 5 y26_4) 46 3 (Int32.ofInt 5)).2.2.1 46 1).toInt := by have b0 : w26_46_2 = (sF (sF sc26 46 5 y26_4) 46 3 (Int32.ofInt 5)).2.2.1 46 2 := sF_ne rfl (sF_ne rfl (v26_46_2)); have b1 : u_46_1 = (sF (sF sc26 46 5 y26_4) 46 3 (Int32.ofInt 5)).2.2.1 46 1 := sF_ne rfl (sF_ne rfl (fr_F e_46_1 hFc26 rfl)); rw [← b0, ← b1]; exact n119b
                have n119d : (u_46_2).toInt + 1 ≤ (w26_46_2).toInt := by have a0 := h2; unfold In at a0; have a1 := i91; unfold In at a1; have a2 := i42x5; unfold In at a2; have a3 := i42x5a; unfold In at a3; have a4 := j26_4; unfold In at a4; have a5 := i108; unfold In at a5; have a6 := (in_c 5 rfl); unfold In at a6; omega
                have n119e : (s.2.2.1 46 2).toInt + 1 ≤ ((sF (sF sc26 46 5 y26_4) 46 3 (Int32.ofInt 5)).2.2.1 46 2).toInt := by have b0 : w26_46_2 = (sF (sF sc26 46 5 y26_4) 46 3 (Int32.ofInt 5)).2.2.1 46 2 := sF_ne rfl (sF_ne rfl (v26_46_2)); first | (rw [← b0, ← e_46_2]; exact n119d) | (rw [← b0]; exact n119d)
                exact g_return (gd rfl) rfl (hP _ _ ⟨(sF (sF sc26 46 5 y26_4) 46 3 (Int32.ofInt 5)), hI116, (fr_sF rfl (fr_sF rfl hFc26)), n119c, n119e, rfl, rfl, n119, n119a⟩)
            · skip
              have i91 := z_ne 1 1 c91 h1 rfl
              refine g_iload 96 (gd rfl) rfl rfl ?_
              refine g_ineg 97 (gd rfl) rfl (fun z96 e96 => ?_)
              have i96 := in_neg (-9999999) 0 e96 j26_4 rfl
              refine g_goto 102 (gd rfl) rfl ?_
              refine g_putI 105 (gd rfl) rfl rfl rfl rfl ?_
              have hI102 := inv_sF (q := 46) (j := 5) hIc26 rfl (in_w (-2147483648) 2147483647 i96 rfl)
              refine g_aload_n 106 (gd rfl) rfl rfl ?_
              refine g_iload_n 107 (gd rfl) rfl rfl ?_
              refine g_iload_n 108 (gd rfl) rfl rfl ?_
              refine g_cmp_le 111 115 (gd rfl) rfl rfl (fun c108 => ?_) (fun c108 => ?_)
              · skip
                have i108 := r_le1 0 7 c108 j26_3 h2 rfl
                refine g_iconst 2 116 (gd rfl) rfl rfl ?_
                refine g_putI 119 (gd rfl) rfl rfl rfl rfl ?_
                have hI116 := inv_sF (q := 46) (j := 3) hI102 rfl (in_w 0 5 (in_c 2 rfl) rfl)
                have n119 : ((sF (sF sc26 46 5 z96) 46 3 (Int32.ofInt 2)).2.2.1 46 3).toInt ≠ 1 := by rw [← (show (Int32.ofInt 2) = (sF (sF sc26 46 5 z96) 46 3 (Int32.ofInt 2)).2.2.1 46 3 from sF_get)]; decide
                have n119a : (x2).toInt = 6 → ((sF (sF sc26 46 5 z96) 46 3 (Int32.ofInt 2)).2.2.1 46 3).toInt = 2 → ((sF (sF sc26 46 5 z96) 46 3 (Int32.ofInt 2)).2.2.1 46 5).toInt ≤ 999999 := by intro h6 h2; rw [← (show (Int32.ofInt 2) = (sF (sF sc26 46 5 z96) 46 3 (Int32.ofInt 2)).2.2.1 46 3 from sF_get)] at h2; rw [← (show z96 = (sF (sF sc26 46 5 z96) 46 3 (Int32.ofInt 2)).2.2.1 46 5 from sF_ne rfl (sF_get))]; first | (exfalso; revert h2; decide) | (have a0 := h2; unfold In at a0; have a1 := i91; unfold In at a1; have a2 := i42x5; unfold In at a2; have a3 := i42x5a; unfold In at a3; have a4 := j26_4; unfold In at a4; have a5 := i108; unfold In at a5; have a6 := (in_c 2 rfl); unfold In at a6; have a7 := i96; unfold In at a7; omega)
                have n119b : (w26_46_2).toInt ≤ (u_46_1).toInt := by first | exact n26_0 | (have a0 := h2; unfold In at a0; have a1 := i91; unfold In at a1; have a2 := i42x5; unfold In at a2; have a3 := i42x5a; unfold In at a3; have a4 := j26_4; unfold In at a4; have a5 := i108; unfold In at a5; have a6 := (in_c 2 rfl); unfold In at a6; have a7 := i96; unfold In at a7; omega)
                have n119c : ((sF (sF sc26 46 5 z96) 46 3 (Int32.ofInt 2)).2.2.1 46 2).toInt ≤ ((sF (sF sc26 46 5 z96) 46 3 (Int32.ofInt 2)).2.2.1 46 1).toInt := by have b0 : w26_46_2 = (sF (sF sc26 46 5 z96) 46 3 (Int32.ofInt 2)).2.2.1 46 2 := sF_ne rfl (sF_ne rfl (v26_46_2)); have b1 : u_46_1 = (sF (sF sc26 46 5 z96) 46 3 (Int32.ofInt 2)).2.2.1 46 1 := sF_ne rfl (sF_ne rfl (fr_F e_46_1 hFc26 rfl)); rw [← b0, ← b1]; exact n119b
                have n119d : (u_46_2).toInt + 1 ≤ (w26_46_2).toInt := by have a0 := h2; unfold In at a0; have a1 := i91; unfold In at a1; have a2 := i42x5; unfold In at a2; have a3 := i42x5a; unfold In at a3; have a4 := j26_4; unfold In at a4; have a5 := i108; unfold In at a5; have a6 := (in_c 2 rfl); unfold In at a6; have a7 := i96; unfold In at a7; omega
                have n119e : (s.2.2.1 46 2).toInt + 1 ≤ ((sF (sF sc26 46 5 z96) 46 3 (Int32.ofInt 2)).2.2.1 46 2).toInt := by have b0 : w26_46_2 = (sF (sF sc26 46 5 z96) 46 3 (Int32.ofInt 2)).2.2.1 46 2 := sF_ne rfl (sF_ne rfl (v26_46_2)); first | (rw [← b0, ← e_46_2]; exact n119d) | (rw [← b0]; exact n119d)
                exact g_return (gd rfl) rfl (hP _ _ ⟨(sF (sF sc26 46 5 z96) 46 3 (Int32.ofInt 2)), hI116, (fr_sF rfl (fr_sF rfl hFc26)), n119c, n119e, rfl, rfl, n119, n119a⟩)
              · skip
                have i108 := r_lt2 7 1000 c108 h2 j26_3 rfl
                refine g_iconst 5 112 (gd rfl) rfl rfl ?_
                refine g_goto 116 (gd rfl) rfl ?_
                refine g_putI 119 (gd rfl) rfl rfl rfl rfl ?_
                have hI116 := inv_sF (q := 46) (j := 3) hI102 rfl (in_w 0 5 (in_c 5 rfl) rfl)
                have n119 : ((sF (sF sc26 46 5 z96) 46 3 (Int32.ofInt 5)).2.2.1 46 3).toInt ≠ 1 := by rw [← (show (Int32.ofInt 5) = (sF (sF sc26 46 5 z96) 46 3 (Int32.ofInt 5)).2.2.1 46 3 from sF_get)]; decide
                have n119a : (x2).toInt = 6 → ((sF (sF sc26 46 5 z96) 46 3 (Int32.ofInt 5)).2.2.1 46 3).toInt = 2 → ((sF (sF sc26 46 5 z96) 46 3 (Int32.ofInt 5)).2.2.1 46 5).toInt ≤ 999999 := by intro h6 h2; rw [← (show (Int32.ofInt 5) = (sF (sF sc26 46 5 z96) 46 3 (Int32.ofInt 5)).2.2.1 46 3 from sF_get)] at h2; rw [← (show z96 = (sF (sF sc26 46 5 z96) 46 3 (Int32.ofInt 5)).2.2.1 46 5 from sF_ne rfl (sF_get))]; first | (exfalso; revert h2; decide) | (have a0 := h2; unfold In at a0; have a1 := i91; unfold In at a1; have a2 := i42x5; unfold In at a2; have a3 := i42x5a; unfold In at a3; have a4 := j26_4; unfold In at a4; have a5 := i108; unfold In at a5; have a6 := (in_c 5 rfl); unfold In at a6; have a7 := i96; unfold In at a7; omega)
                have n119b : (w26_46_2).toInt ≤ (u_46_1).toInt := by first | exact n26_0 | (have a0 := h2; unfold In at a0; have a1 := i91; unfold In at a1; have a2 := i42x5; unfold In at a2; have a3 := i42x5a; unfold In at a3; have a4 := j26_4; unfold In at a4; have a5 := i108; unfold In at a5; have a6 := (in_c 5 rfl); unfold In at a6; have a7 := i96; unfold In at a7; omega)
                have n119c : ((sF (sF sc26 46 5 z96) 46 3 (Int32.ofInt 5)).2.2.1 46 2).toInt ≤ ((sF (sF sc26 46 5 z96) 46 3 (Int32.ofInt 5)).2.2.1 46 1).toInt := by have b0 : w26_46_2 = (sF (sF sc26 46 5 z96) 46 3 (Int32.ofInt 5)).2.2.1 46 2 := sF_ne rfl (sF_ne rfl (v26_46_2)); have b1 : u_46_1 = (sF (sF sc26 46 5 z96) 46 3 (Int32.ofInt 5)).2.2.1 46 1 := sF_ne rfl (sF_ne rfl (fr_F e_46_1 hFc26 rfl)); rw [← b0, ← b1]; exact n119b
                have n119d : (u_46_2).toInt + 1 ≤ (w26_46_2).toInt := by have a0 := h2; unfold In at a0; have a1 := i91; unfold In at a1; have a2 := i42x5; unfold In at a2; have a3 := i42x5a; unfold In at a3; have a4 := j26_4; unfold In at a4; have a5 := i108; unfold In at a5; have a6 := (in_c 5 rfl); unfold In at a6; have a7 := i96; unfold In at a7; omega
                have n119e : (s.2.2.1 46 2).toInt + 1 ≤ ((sF (sF sc26 46 5 z96) 46 3 (Int32.ofInt 5)).2.2.1 46 2).toInt := by have b0 : w26_46_2 = (sF (sF sc26 46 5 z96) 46 3 (Int32.ofInt 5)).2.2.1 46 2 := sF_ne rfl (sF_ne rfl (v26_46_2)); first | (rw [← b0, ← e_46_2]; exact n119d) | (rw [← b0]; exact n119d)
                exact g_return (gd rfl) rfl (hP _ _ ⟨(sF (sF sc26 46 5 z96) 46 3 (Int32.ofInt 5)), hI116, (fr_sF rfl (fr_sF rfl hFc26)), n119c, n119e, rfl, rfl, n119, n119a⟩)
          · skip
            exact zn_ne c45 (in_c 0 rfl) rfl
        · skip
          refine g_aload_n 9 (gd rfl) rfl rfl ?_
          refine g_getA (q2 := 47) 12 (gd rfl) rfl rfl rfl rfl ?_
          refine g_iload_n 13 (gd rfl) rfl rfl ?_
          refine g_caload 14 (gd rfl) rfl (n := 1000) rfl (in_ix i34 rfl) (fun z42x13 e42x13 => ?_)
          have i42x13 := inv_I hIc26 (n := 1000) (t := 2) 0 65535 rfl (in_ix i34 rfl) rfl e42x13
          refine g_bipush 48 16 (gd rfl) rfl rfl ?_
          refine g_cmp_lt 19 34 (gd rfl) rfl rfl (fun c42x16 => ?_) (fun c42x16 => ?_)
          · skip
            have i42x16 := r_lt1 0 47 c42x16 i42x13 (in_c 48 rfl) rfl
            refine g_iconst 0 35 (gd rfl) rfl rfl ?_
            refine g_ireturn (gd rfl) rfl (nb01 (in_w 0 1 (in_c 0 rfl) rfl)) (hp42 _ _ ?_)
            show GG _ _ _ _ _ _ _ _ [.int (Int32.ofInt 0)] _ _ _
            refine g_if_eq 48 89 (gd rfl) rfl rfl (fun c45 => ?_) (fun c45 => ?_)
            · skip
              have hq89 : (u_46_2).toInt + 1 ≤ (w26_46_2).toInt := (by have c48 : (Int32.ofInt 48).toInt = 48 := (by decide); have c57 : (Int32.ofInt 57).toInt = 57 := (by decide); have hd : w26_46_2.toInt = u_46_2.toInt + x1.toInt → 48 ≤ (z42x13).toInt ∧ (z42x13).toInt ≤ 57 := (fun h => by have e0 : (w26_46_2).toNatClampNeg = ((s.2.2.1 46 2).toInt + x1.toInt).toNat := (by rw [← e_46_2]; show (w26_46_2).toInt.toNat = _; omega); rw [e42x13, e0, hFc26.1 47 rfl]; exact q_0); have a0 := h2; unfold In at a0; have a1 := h1; unfold In at a1; have a2 := i34a; unfold In at a2; have a3 := i34; unfold In at a3; have a4 := j26_4; unfold In at a4; have a5 := j26_3; unfold In at a5; omega)
              refine g_aload_n 90 (gd rfl) rfl rfl ?_
              refine g_iload_n 91 (gd rfl) rfl rfl ?_
              refine g_if_eq 94 100 (gd rfl) rfl rfl (fun c91 => ?_) (fun c91 => ?_)
              · skip
                have i91 := z_eq 0 0 c91 h1 rfl
                refine g_iload 102 (gd rfl) rfl rfl ?_
                refine g_putI 105 (gd rfl) rfl rfl rfl rfl ?_
                have hI102 := inv_sF (q := 46) (j := 5) hIc26 rfl (in_w (-2147483648) 2147483647 j26_4 rfl)
                refine g_aload_n 106 (gd rfl) rfl rfl ?_
                refine g_iload_n 107 (gd rfl) rfl rfl ?_
                refine g_iload_n 108 (gd rfl) rfl rfl ?_
                refine g_cmp_le 111 115 (gd rfl) rfl rfl (fun c108 => ?_) (fun c108 => ?_)
                · skip
                  have i108 := r_le1 0 7 c108 j26_3 h2 rfl
                  refine g_iconst 2 116 (gd rfl) rfl rfl ?_
                  refine g_putI 119 (gd rfl) rfl rfl rfl rfl ?_
                  have hI116 := inv_sF (q := 46) (j := 3) hI102 rfl (in_w 0 5 (in_c 2 rfl) rfl)
                  have n119 : ((sF (sF sc26 46 5 y26_4) 46 3 (Int32.ofInt 2)).2.2.1 46 3).toInt ≠ 1 := by rw [← (show (Int32.ofInt 2) = (sF (sF sc26 46 5 y26_4) 46 3 (Int32.ofInt 2)).2.2.1 46 3 from sF_get)]; decide
                  have n119a : (x2).toInt = 6 → ((sF (sF sc26 46 5 y26_4) 46 3 (Int32.ofInt 2)).2.2.1 46 3).toInt = 2 → ((sF (sF sc26 46 5 y26_4) 46 3 (Int32.ofInt 2)).2.2.1 46 5).toInt ≤ 999999 := by intro h6 h2; rw [← (show (Int32.ofInt 2) = (sF (sF sc26 46 5 y26_4) 46 3 (Int32.ofInt 2)).2.2.1 46 3 from sF_get)] at h2; rw [← (show y26_4 = (sF (sF sc26 46 5 y26_4) 46 3 (Int32.ofInt 2)).2.2.1 46 5 from sF_ne rfl (sF_get))]; first | (exfalso; revert h2; decide) | exact dg_6 (by have a0 := h2; unfold In at a0; have a1 := i91; unfold In at a1; have a2 := i34a; unfold In at a2; have a3 := i34; unfold In at a3; have a4 := j26_4; unfold In at a4; have a5 := i108; unfold In at a5; have a6 := (in_c 2 rfl); unfold In at a6; omega) (by have a0 := h2; unfold In at a0; have a1 := i91; unfold In at a1; have a2 := i34a; unfold In at a2; have a3 := i34; unfold In at a3; have a4 := j26_4; unfold In at a4; have a5 := i108; unfold In at a5; have a6 := (in_c 2 rfl); unfold In at a6; omega) (g26_0.2.1 (by have a0 := h2; unfold In at a0; have a1 := i91; unfold In at a1; have a2 := i34a; unfold In at a2; have a3 := i34; unfold In at a3; have a4 := j26_4; unfold In at a4; have a5 := i108; unfold In at a5; have a6 := (in_c 2 rfl); unfold In at a6; omega))
                  have n119b : (w26_46_2).toInt ≤ (u_46_1).toInt := by first | exact n26_0 | (have a0 := h2; unfold In at a0; have a1 := i91; unfold In at a1; have a2 := i34a; unfold In at a2; have a3 := i34; unfold In at a3; have a4 := j26_4; unfold In at a4; have a5 := i108; unfold In at a5; have a6 := (in_c 2 rfl); unfold In at a6; omega)
                  have n119c : ((sF (sF sc26 46 5 y26_4) 46 3 (Int32.ofInt 2)).2.2.1 46 2).toInt ≤ ((sF (sF sc26 46 5 y26_4) 46 3 (Int32.ofInt 2)).2.2.1 46 1).toInt := by have b0 : w26_46_2 = (sF (sF sc26 46 5 y26_4) 46 3 (Int32.ofInt 2)).2.2.1 46 2 := sF_ne rfl (sF_ne rfl (v26_46_2)); have b1 : u_46_1 = (sF (sF sc26 46 5 y26_4) 46 3 (Int32.ofInt 2)).2.2.1 46 1 := sF_ne rfl (sF_ne rfl (fr_F e_46_1 hFc26 rfl)); rw [← b0, ← b1]; exact n119b
                  have n119d : (u_46_2).toInt + 1 ≤ (w26_46_2).toInt := by have a0 := h2; unfold In at a0; have a1 := i91; unfold In at a1; have a2 := i34a; unfold In at a2; have a3 := i34; unfold In at a3; have a4 := j26_4; unfold In at a4; have a5 := i108; unfold In at a5; have a6 := (in_c 2 rfl); unfold In at a6; omega
                  have n119e : (s.2.2.1 46 2).toInt + 1 ≤ ((sF (sF sc26 46 5 y26_4) 46 3 (Int32.ofInt 2)).2.2.1 46 2).toInt := by have b0 : w26_46_2 = (sF (sF sc26 46 5 y26_4) 46 3 (Int32.ofInt 2)).2.2.1 46 2 := sF_ne rfl (sF_ne rfl (v26_46_2)); first | (rw [← b0, ← e_46_2]; exact n119d) | (rw [← b0]; exact n119d)
                  exact g_return (gd rfl) rfl (hP _ _ ⟨(sF (sF sc26 46 5 y26_4) 46 3 (Int32.ofInt 2)), hI116, (fr_sF rfl (fr_sF rfl hFc26)), n119c, n119e, rfl, rfl, n119, n119a⟩)
                · skip
                  have i108 := r_lt2 7 1000 c108 h2 j26_3 rfl
                  refine g_iconst 5 112 (gd rfl) rfl rfl ?_
                  refine g_goto 116 (gd rfl) rfl ?_
                  refine g_putI 119 (gd rfl) rfl rfl rfl rfl ?_
                  have hI116 := inv_sF (q := 46) (j := 3) hI102 rfl (in_w 0 5 (in_c 5 rfl) rfl)
                  have n119 : ((sF (sF sc26 46 5 y26_4) 46 3 (Int32.ofInt 5)).2.2.1 46 3).toInt ≠ 1 := by rw [← (show (Int32.ofInt 5) = (sF (sF sc26 46 5 y26_4) 46 3 (Int32.ofInt 5)).2.2.1 46 3 from sF_get)]; decide
                  have n119a : (x2).toInt = 6 → ((sF (sF sc26 46 5 y26_4) 46 3 (Int32.ofInt 5)).2.2.1 46 3).toInt = 2 → ((sF (sF sc26 46 5 y26_4) 46 3 (Int32.ofInt 5)).2.2.1 46 5).toInt ≤ 999999 := by intro h6 h2; rw [← (show (Int32.ofInt 5) = (sF (sF sc26 46 5 y26_4) 46 3 (Int32.ofInt 5)).2.2.1 46 3 from sF_get)] at h2; rw [← (show y26_4 = (sF (sF sc26 46 5 y26_4) 46 3 (Int32.ofInt 5)).2.2.1 46 5 from sF_ne rfl (sF_get))]; first | (exfalso; revert h2; decide) | exact dg_6 (by have a0 := h2; unfold In at a0; have a1 := i91; unfold In at a1; have a2 := i34a; unfold In at a2; have a3 := i34; unfold In at a3; have a4 := j26_4; unfold In at a4; have a5 := i108; unfold In at a5; have a6 := (in_c 5 rfl); unfold In at a6; omega) (by have a0 := h2; unfold In at a0; have a1 := i91; unfold In at a1; have a2 := i34a; unfold In at a2; have a3 := i34; unfold In at a3; have a4 := j26_4; unfold In at a4; have a5 := i108; unfold In at a5; have a6 := (in_c 5 rfl); unfold In at a6; omega) (g26_0.2.1 (by have a0 := h2; unfold In at a0; have a1 := i91; unfold In at a1; have a2 := i34a; unfold In at a2; have a3 := i34; unfold In at a3; have a4 := j26_4; unfold In at a4; have a5 := i108; unfold In at a5; have a6 := (in_c 5 rfl); unfold In at a6; omega))
                  have n119b : (w26_46_2).toInt ≤ (u_46_1).toInt := by first | exact n26_0 | (have a0 := h2; unfold In at a0; have a1 := i91; unfold In at a1; have a2 := i34a; unfold In at a2; have a3 := i34; unfold In at a3; have a4 := j26_4; unfold In at a4; have a5 := i108; unfold In at a5; have a6 := (in_c 5 rfl); unfold In at a6; omega)
                  have n119c : ((sF (sF sc26 46 5 y26_4) 46 3 (Int32.ofInt 5)).2.2.1 46 2).toInt ≤ ((sF (sF sc26 46 5 y26_4) 46 3 (Int32.ofInt 5)).2.2.1 46 1).toInt := by have b0 : w26_46_2 = (sF (sF sc26 46 5 y26_4) 46 3 (Int32.ofInt 5)).2.2.1 46 2 := sF_ne rfl (sF_ne rfl (v26_46_2)); have b1 : u_46_1 = (sF (sF sc26 46 5 y26_4) 46 3 (Int32.ofInt 5)).2.2.1 46 1 := sF_ne rfl (sF_ne rfl (fr_F e_46_1 hFc26 rfl)); rw [← b0, ← b1]; exact n119b
                  have n119d : (u_46_2).toInt + 1 ≤ (w26_46_2).toInt := by have a0 := h2; unfold In at a0; have a1 := i91; unfold In at a1; have a2 := i34a; unfold In at a2; have a3 := i34; unfold In at a3; have a4 := j26_4; unfold In at a4; have a5 := i108; unfold In at a5; have a6 := (in_c 5 rfl); unfold In at a6; omega
                  have n119e : (s.2.2.1 46 2).toInt + 1 ≤ ((sF (sF sc26 46 5 y26_4) 46 3 (Int32.ofInt 5)).2.2.1 46 2).toInt := by have b0 : w26_46_2 = (sF (sF sc26 46 5 y26_4) 46 3 (Int32.ofInt 5)).2.2.1 46 2 := sF_ne rfl (sF_ne rfl (v26_46_2)); first | (rw [← b0, ← e_46_2]; exact n119d) | (rw [← b0]; exact n119d)
                  exact g_return (gd rfl) rfl (hP _ _ ⟨(sF (sF sc26 46 5 y26_4) 46 3 (Int32.ofInt 5)), hI116, (fr_sF rfl (fr_sF rfl hFc26)), n119c, n119e, rfl, rfl, n119, n119a⟩)
              · skip
                have i91 := z_ne 1 1 c91 h1 rfl
                refine g_iload 96 (gd rfl) rfl rfl ?_
                refine g_ineg 97 (gd rfl) rfl (fun z96 e96 => ?_)
                have i96 := in_neg (-9999999) 0 e96 j26_4 rfl
                refine g_goto 102 (gd rfl) rfl ?_
                refine g_putI 105 (gd rfl) rfl rfl rfl rfl ?_
                have hI102 := inv_sF (q := 46) (j := 5) hIc26 rfl (in_w (-2147483648) 2147483647 i96 rfl)
                refine g_aload_n 106 (gd rfl) rfl rfl ?_
                refine g_iload_n 107 (gd rfl) rfl rfl ?_
                refine g_iload_n 108 (gd rfl) rfl rfl ?_
                refine g_cmp_le 111 115 (gd rfl) rfl rfl (fun c108 => ?_) (fun c108 => ?_)
                · skip
                  have i108 := r_le1 0 7 c108 j26_3 h2 rfl
                  refine g_iconst 2 116 (gd rfl) rfl rfl ?_
                  refine g_putI 119 (gd rfl) rfl rfl rfl rfl ?_
                  have hI116 := inv_sF (q := 46) (j := 3) hI102 rfl (in_w 0 5 (in_c 2 rfl) rfl)
                  have n119 : ((sF (sF sc26 46 5 z96) 46 3 (Int32.ofInt 2)).2.2.1 46 3).toInt ≠ 1 := by rw [← (show (Int32.ofInt 2) = (sF (sF sc26 46 5 z96) 46 3 (Int32.ofInt 2)).2.2.1 46 3 from sF_get)]; decide
                  have n119a : (x2).toInt = 6 → ((sF (sF sc26 46 5 z96) 46 3 (Int32.ofInt 2)).2.2.1 46 3).toInt = 2 → ((sF (sF sc26 46 5 z96) 46 3 (Int32.ofInt 2)).2.2.1 46 5).toInt ≤ 999999 := by intro h6 h2; rw [← (show (Int32.ofInt 2) = (sF (sF sc26 46 5 z96) 46 3 (Int32.ofInt 2)).2.2.1 46 3 from sF_get)] at h2; rw [← (show z96 = (sF (sF sc26 46 5 z96) 46 3 (Int32.ofInt 2)).2.2.1 46 5 from sF_ne rfl (sF_get))]; first | (exfalso; revert h2; decide) | (have a0 := h2; unfold In at a0; have a1 := i91; unfold In at a1; have a2 := i34a; unfold In at a2; have a3 := i34; unfold In at a3; have a4 := j26_4; unfold In at a4; have a5 := i108; unfold In at a5; have a6 := (in_c 2 rfl); unfold In at a6; have a7 := i96; unfold In at a7; omega)
                  have n119b : (w26_46_2).toInt ≤ (u_46_1).toInt := by first | exact n26_0 | (have a0 := h2; unfold In at a0; have a1 := i91; unfold In at a1; have a2 := i34a; unfold In at a2; have a3 := i34; unfold In at a3; have a4 := j26_4; unfold In at a4; have a5 := i108; unfold In at a5; have a6 := (in_c 2 rfl); unfold In at a6; have a7 := i96; unfold In at a7; omega)
                  have n119c : ((sF (sF sc26 46 5 z96) 46 3 (Int32.ofInt 2)).2.2.1 46 2).toInt ≤ ((sF (sF sc26 46 5 z96) 46 3 (Int32.ofInt 2)).2.2.1 46 1).toInt := by have b0 : w26_46_2 = (sF (sF sc26 46 5 z96) 46 3 (Int32.ofInt 2)).2.2.1 46 2 := sF_ne rfl (sF_ne rfl (v26_46_2)); have b1 : u_46_1 = (sF (sF sc26 46 5 z96) 46 3 (Int32.ofInt 2)).2.2.1 46 1 := sF_ne rfl (sF_ne rfl (fr_F e_46_1 hFc26 rfl)); rw [← b0, ← b1]; exact n119b
                  have n119d : (u_46_2).toInt + 1 ≤ (w26_46_2).toInt := by have a0 := h2; unfold In at a0; have a1 := i91; unfold In at a1; have a2 := i34a; unfold In at a2; have a3 := i34; unfold In at a3; have a4 := j26_4; unfold In at a4; have a5 := i108; unfold In at a5; have a6 := (in_c 2 rfl); unfold In at a6; have a7 := i96; unfold In at a7; omega
                  have n119e : (s.2.2.1 46 2).toInt + 1 ≤ ((sF (sF sc26 46 5 z96) 46 3 (Int32.ofInt 2)).2.2.1 46 2).toInt := by have b0 : w26_46_2 = (sF (sF sc26 46 5 z96) 46 3 (Int32.ofInt 2)).2.2.1 46 2 := sF_ne rfl (sF_ne rfl (v26_46_2)); first | (rw [← b0, ← e_46_2]; exact n119d) | (rw [← b0]; exact n119d)
                  exact g_return (gd rfl) rfl (hP _ _ ⟨(sF (sF sc26 46 5 z96) 46 3 (Int32.ofInt 2)), hI116, (fr_sF rfl (fr_sF rfl hFc26)), n119c, n119e, rfl, rfl, n119, n119a⟩)
                · skip
                  have i108 := r_lt2 7 1000 c108 h2 j26_3 rfl
                  refine g_iconst 5 112 (gd rfl) rfl rfl ?_
                  refine g_goto 116 (gd rfl) rfl ?_
                  refine g_putI 119 (gd rfl) rfl rfl rfl rfl ?_
                  have hI116 := inv_sF (q := 46) (j := 3) hI102 rfl (in_w 0 5 (in_c 5 rfl) rfl)
                  have n119 : ((sF (sF sc26 46 5 z96) 46 3 (Int32.ofInt 5)).2.2.1 46 3).toInt ≠ 1 := by rw [← (show (Int32.ofInt 5) = (sF (sF sc26 46 5 z96) 46 3 (Int32.ofInt 5)).2.2.1 46 3 from sF_get)]; decide
                  have n119a : (x2).toInt = 6 → ((sF (sF sc26 46 5 z96) 46 3 (Int32.ofInt 5)).2.2.1 46 3).toInt = 2 → ((sF (sF sc26 46 5 z96) 46 3 (Int32.ofInt 5)).2.2.1 46 5).toInt ≤ 999999 := by intro h6 h2; rw [← (show (Int32.ofInt 5) = (sF (sF sc26 46 5 z96) 46 3 (Int32.ofInt 5)).2.2.1 46 3 from sF_get)] at h2; rw [← (show z96 = (sF (sF sc26 46 5 z96) 46 3 (Int32.ofInt 5)).2.2.1 46 5 from sF_ne rfl (sF_get))]; first | (exfalso; revert h2; decide) | (have a0 := h2; unfold In at a0; have a1 := i91; unfold In at a1; have a2 := i34a; unfold In at a2; have a3 := i34; unfold In at a3; have a4 := j26_4; unfold In at a4; have a5 := i108; unfold In at a5; have a6 := (in_c 5 rfl); unfold In at a6; have a7 := i96; unfold In at a7; omega)
                  have n119b : (w26_46_2).toInt ≤ (u_46_1).toInt := by first | exact n26_0 | (have a0 := h2; unfold In at a0; have a1 := i91; unfold In at a1; have a2 := i34a; unfold In at a2; have a3 := i34; unfold In at a3; have a4 := j26_4; unfold In at a4; have a5 := i108; unfold In at a5; have a6 := (in_c 5 rfl); unfold In at a6; have a7 := i96; unfold In at a7; omega)
                  have n119c : ((sF (sF sc26 46 5 z96) 46 3 (Int32.ofInt 5)).2.2.1 46 2).toInt ≤ ((sF (sF sc26 46 5 z96) 46 3 (Int32.ofInt 5)).2.2.1 46 1).toInt := by have b0 : w26_46_2 = (sF (sF sc26 46 5 z96) 46 3 (Int32.ofInt 5)).2.2.1 46 2 := sF_ne rfl (sF_ne rfl (v26_46_2)); have b1 : u_46_1 = (sF (sF sc26 46 5 z96) 46 3 (Int32.ofInt 5)).2.2.1 46 1 := sF_ne rfl (sF_ne rfl (fr_F e_46_1 hFc26 rfl)); rw [← b0, ← b1]; exact n119b
                  have n119d : (u_46_2).toInt + 1 ≤ (w26_46_2).toInt := by have a0 := h2; unfold In at a0; have a1 := i91; unfold In at a1; have a2 := i34a; unfold In at a2; have a3 := i34; unfold In at a3; have a4 := j26_4; unfold In at a4; have a5 := i108; unfold In at a5; have a6 := (in_c 5 rfl); unfold In at a6; have a7 := i96; unfold In at a7; omega
                  have n119e : (s.2.2.1 46 2).toInt + 1 ≤ ((sF (sF sc26 46 5 z96) 46 3 (Int32.ofInt 5)).2.2.1 46 2).toInt := by have b0 : w26_46_2 = (sF (sF sc26 46 5 z96) 46 3 (Int32.ofInt 5)).2.2.1 46 2 := sF_ne rfl (sF_ne rfl (v26_46_2)); first | (rw [← b0, ← e_46_2]; exact n119d) | (rw [← b0]; exact n119d)
                  exact g_return (gd rfl) rfl (hP _ _ ⟨(sF (sF sc26 46 5 z96) 46 3 (Int32.ofInt 5)), hI116, (fr_sF rfl (fr_sF rfl hFc26)), n119c, n119e, rfl, rfl, n119, n119a⟩)
            · skip
              exact zn_ne c45 (in_c 0 rfl) rfl
          · skip
            have i42x16 := r_le2 48 65535 c42x16 (in_c 48 rfl) i42x13 rfl
            refine g_aload_n 20 (gd rfl) rfl rfl ?_
            refine g_getA (q2 := 47) 23 (gd rfl) rfl rfl rfl rfl ?_
            refine g_iload_n 24 (gd rfl) rfl rfl ?_
            refine g_caload 25 (gd rfl) rfl (n := 1000) rfl (in_ix i34 rfl) (fun z42x24 e42x24 => ?_)
            have q42x24 : z42x13 = z42x24 := (e42x13).trans e42x24.symm
            subst q42x24
            refine g_bipush 57 27 (gd rfl) rfl rfl ?_
            refine g_cmp_gt 30 34 (gd rfl) rfl rfl (fun c42x27 => ?_) (fun c42x27 => ?_)
            · skip
              have i42x27 := r_lt2 58 65535 c42x27 (in_c 57 rfl) i42x16 rfl
              refine g_iconst 0 35 (gd rfl) rfl rfl ?_
              refine g_ireturn (gd rfl) rfl (nb01 (in_w 0 1 (in_c 0 rfl) rfl)) (hp42 _ _ ?_)
              show GG _ _ _ _ _ _ _ _ [.int (Int32.ofInt 0)] _ _ _
              refine g_if_eq 48 89 (gd rfl) rfl rfl (fun c45 => ?_) (fun c45 => ?_)
              · skip
                have hq89 : (u_46_2).toInt + 1 ≤ (w26_46_2).toInt := (by have c48 : (Int32.ofInt 48).toInt = 48 := (by decide); have c57 : (Int32.ofInt 57).toInt = 57 := (by decide); have hd : w26_46_2.toInt = u_46_2.toInt + x1.toInt → 48 ≤ (z42x13).toInt ∧ (z42x13).toInt ≤ 57 := (fun h => by have e0 : (w26_46_2).toNatClampNeg = ((s.2.2.1 46 2).toInt + x1.toInt).toNat := (by rw [← e_46_2]; show (w26_46_2).toInt.toNat = _; omega); rw [e42x13, e0, hFc26.1 47 rfl]; exact q_0); have a0 := h2; unfold In at a0; have a1 := h1; unfold In at a1; have a2 := i34a; unfold In at a2; have a3 := i34; unfold In at a3; have a4 := j26_4; unfold In at a4; have a5 := j26_3; unfold In at a5; omega)
                refine g_aload_n 90 (gd rfl) rfl rfl ?_
                refine g_iload_n 91 (gd rfl) rfl rfl ?_
                refine g_if_eq 94 100 (gd rfl) rfl rfl (fun c91 => ?_) (fun c91 => ?_)
                · skip
                  have i91 := z_eq 0 0 c91 h1 rfl
                  refine g_iload 102 (gd rfl) rfl rfl ?_
                  refine g_putI 105 (gd rfl) rfl rfl rfl rfl ?_
                  have hI102 := inv_sF (q := 46) (j := 5) hIc26 rfl (in_w (-2147483648) 2147483647 j26_4 rfl)
                  refine g_aload_n 106 (gd rfl) rfl rfl ?_
                  refine g_iload_n 107 (gd rfl) rfl rfl ?_
                  refine g_iload_n 108 (gd rfl) rfl rfl ?_
                  refine g_cmp_le 111 115 (gd rfl) rfl rfl (fun c108 => ?_) (fun c108 => ?_)
                  · skip
                    have i108 := r_le1 0 7 c108 j26_3 h2 rfl
                    refine g_iconst 2 116 (gd rfl) rfl rfl ?_
                    refine g_putI 119 (gd rfl) rfl rfl rfl rfl ?_
                    have hI116 := inv_sF (q := 46) (j := 3) hI102 rfl (in_w 0 5 (in_c 2 rfl) rfl)
                    have n119 : ((sF (sF sc26 46 5 y26_4) 46 3 (Int32.ofInt 2)).2.2.1 46 3).toInt ≠ 1 := by rw [← (show (Int32.ofInt 2) = (sF (sF sc26 46 5 y26_4) 46 3 (Int32.ofInt 2)).2.2.1 46 3 from sF_get)]; decide
                    have n119a : (x2).toInt = 6 → ((sF (sF sc26 46 5 y26_4) 46 3 (Int32.ofInt 2)).2.2.1 46 3).toInt = 2 → ((sF (sF sc26 46 5 y26_4) 46 3 (Int32.ofInt 2)).2.2.1 46 5).toInt ≤ 999999 := by intro h6 h2; rw [← (show (Int32.ofInt 2) = (sF (sF sc26 46 5 y26_4) 46 3 (Int32.ofInt 2)).2.2.1 46 3 from sF_get)] at h2; rw [← (show y26_4 = (sF (sF sc26 46 5 y26_4) 46 3 (Int32.ofInt 2)).2.2.1 46 5 from sF_ne rfl (sF_get))]; first | (exfalso; revert h2; decide) | exact dg_6 (by have a0 := h2; unfold In at a0; have a1 := i91; unfold In at a1; have a2 := i34a; unfold In at a2; have a3 := i34; unfold In at a3; have a4 := j26_4; unfold In at a4; have a5 := i108; unfold In at a5; have a6 := (in_c 2 rfl); unfold In at a6; omega) (by have a0 := h2; unfold In at a0; have a1 := i91; unfold In at a1; have a2 := i34a; unfold In at a2; have a3 := i34; unfold In at a3; have a4 := j26_4; unfold In at a4; have a5 := i108; unfold In at a5; have a6 := (in_c 2 rfl); unfold In at a6; omega) (g26_0.2.1 (by have a0 := h2; unfold In at a0; have a1 := i91; unfold In at a1; have a2 := i34a; unfold In at a2; have a3 := i34; unfold In at a3; have a4 := j26_4; unfold In at a4; have a5 := i108; unfold In at a5; have a6 := (in_c 2 rfl); unfold In at a6; omega))
                    have n119b : (w26_46_2).toInt ≤ (u_46_1).toInt := by first | exact n26_0 | (have a0 := h2; unfold In at a0; have a1 := i91; unfold In at a1; have a2 := i34a; unfold In at a2; have a3 := i34; unfold In at a3; have a4 := j26_4; unfold In at a4; have a5 := i108; unfold In at a5; have a6 := (in_c 2 rfl); unfold In at a6; omega)
                    have n119c : ((sF (sF sc26 46 5 y26_4) 46 3 (Int32.ofInt 2)).2.2.1 46 2).toInt ≤ ((sF (sF sc26 46 5 y26_4) 46 3 (Int32.ofInt 2)).2.2.1 46 1).toInt := by have b0 : w26_46_2 = (sF (sF sc26 46 5 y26_4) 46 3 (Int32.ofInt 2)).2.2.1 46 2 := sF_ne rfl (sF_ne rfl (v26_46_2)); have b1 : u_46_1 = (sF (sF sc26 46 5 y26_4) 46 3 (Int32.ofInt 2)).2.2.1 46 1 := sF_ne rfl (sF_ne rfl (fr_F e_46_1 hFc26 rfl)); rw [← b0, ← b1]; exact n119b
                    have n119d : (u_46_2).toInt + 1 ≤ (w26_46_2).toInt := by have a0 := h2; unfold In at a0; have a1 := i91; unfold In at a1; have a2 := i34a; unfold In at a2; have a3 := i34; unfold In at a3; have a4 := j26_4; unfold In at a4; have a5 := i108; unfold In at a5; have a6 := (in_c 2 rfl); unfold In at a6; omega
                    have n119e : (s.2.2.1 46 2).toInt + 1 ≤ ((sF (sF sc26 46 5 y26_4) 46 3 (Int32.ofInt 2)).2.2.1 46 2).toInt := by have b0 : w26_46_2 = (sF (sF sc26 46 5 y26_4) 46 3 (Int32.ofInt 2)).2.2.1 46 2 := sF_ne rfl (sF_ne rfl (v26_46_2)); first | (rw [← b0, ← e_46_2]; exact n119d) | (rw [← b0]; exact n119d)
                    exact g_return (gd rfl) rfl (hP _ _ ⟨(sF (sF sc26 46 5 y26_4) 46 3 (Int32.ofInt 2)), hI116, (fr_sF rfl (fr_sF rfl hFc26)), n119c, n119e, rfl, rfl, n119, n119a⟩)
                  · skip
                    have i108 := r_lt2 7 1000 c108 h2 j26_3 rfl
                    refine g_iconst 5 112 (gd rfl) rfl rfl ?_
                    refine g_goto 116 (gd rfl) rfl ?_
                    refine g_putI 119 (gd rfl) rfl rfl rfl rfl ?_
                    have hI116 := inv_sF (q := 46) (j := 3) hI102 rfl (in_w 0 5 (in_c 5 rfl) rfl)
                    have n119 : ((sF (sF sc26 46 5 y26_4) 46 3 (Int32.ofInt 5)).2.2.1 46 3).toInt ≠ 1 := by rw [← (show (Int32.ofInt 5) = (sF (sF sc26 46 5 y26_4) 46 3 (Int32.ofInt 5)).2.2.1 46 3 from sF_get)]; decide
                    have n119a : (x2).toInt = 6 → ((sF (sF sc26 46 5 y26_4) 46 3 (Int32.ofInt 5)).2.2.1 46 3).toInt = 2 → ((sF (sF sc26 46 5 y26_4) 46 3 (Int32.ofInt 5)).2.2.1 46 5).toInt ≤ 999999 := by intro h6 h2; rw [← (show (Int32.ofInt 5) = (sF (sF sc26 46 5 y26_4) 46 3 (Int32.ofInt 5)).2.2.1 46 3 from sF_get)] at h2; rw [← (show y26_4 = (sF (sF sc26 46 5 y26_4) 46 3 (Int32.ofInt 5)).2.2.1 46 5 from sF_ne rfl (sF_get))]; first | (exfalso; revert h2; decide) | exact dg_6 (by have a0 := h2; unfold In at a0; have a1 := i91; unfold In at a1; have a2 := i34a; unfold In at a2; have a3 := i34; unfold In at a3; have a4 := j26_4; unfold In at a4; have a5 := i108; unfold In at a5; have a6 := (in_c 5 rfl); unfold In at a6; omega) (by have a0 := h2; unfold In at a0; have a1 := i91; unfold In at a1; have a2 := i34a; unfold In at a2; have a3 := i34; unfold In at a3; have a4 := j26_4; unfold In at a4; have a5 := i108; unfold In at a5; have a6 := (in_c 5 rfl); unfold In at a6; omega) (g26_0.2.1 (by have a0 := h2; unfold In at a0; have a1 := i91; unfold In at a1; have a2 := i34a; unfold In at a2; have a3 := i34; unfold In at a3; have a4 := j26_4; unfold In at a4; have a5 := i108; unfold In at a5; have a6 := (in_c 5 rfl); unfold In at a6; omega))
                    have n119b : (w26_46_2).toInt ≤ (u_46_1).toInt := by first | exact n26_0 | (have a0 := h2; unfold In at a0; have a1 := i91; unfold In at a1; have a2 := i34a; unfold In at a2; have a3 := i34; unfold In at a3; have a4 := j26_4; unfold In at a4; have a5 := i108; unfold In at a5; have a6 := (in_c 5 rfl); unfold In at a6; omega)
                    have n119c : ((sF (sF sc26 46 5 y26_4) 46 3 (Int32.ofInt 5)).2.2.1 46 2).toInt ≤ ((sF (sF sc26 46 5 y26_4) 46 3 (Int32.ofInt 5)).2.2.1 46 1).toInt := by have b0 : w26_46_2 = (sF (sF sc26 46 5 y26_4) 46 3 (Int32.ofInt 5)).2.2.1 46 2 := sF_ne rfl (sF_ne rfl (v26_46_2)); have b1 : u_46_1 = (sF (sF sc26 46 5 y26_4) 46 3 (Int32.ofInt 5)).2.2.1 46 1 := sF_ne rfl (sF_ne rfl (fr_F e_46_1 hFc26 rfl)); rw [← b0, ← b1]; exact n119b
                    have n119d : (u_46_2).toInt + 1 ≤ (w26_46_2).toInt := by have a0 := h2; unfold In at a0; have a1 := i91; unfold In at a1; have a2 := i34a; unfold In at a2; have a3 := i34; unfold In at a3; have a4 := j26_4; unfold In at a4; have a5 := i108; unfold In at a5; have a6 := (in_c 5 rfl); unfold In at a6; omega
                    have n119e : (s.2.2.1 46 2).toInt + 1 ≤ ((sF (sF sc26 46 5 y26_4) 46 3 (Int32.ofInt 5)).2.2.1 46 2).toInt := by have b0 : w26_46_2 = (sF (sF sc26 46 5 y26_4) 46 3 (Int32.ofInt 5)).2.2.1 46 2 := sF_ne rfl (sF_ne rfl (v26_46_2)); first | (rw [← b0, ← e_46_2]; exact n119d) | (rw [← b0]; exact n119d)
                    exact g_return (gd rfl) rfl (hP _ _ ⟨(sF (sF sc26 46 5 y26_4) 46 3 (Int32.ofInt 5)), hI116, (fr_sF rfl (fr_sF rfl hFc26)), n119c, n119e, rfl, rfl, n119, n119a⟩)
                · skip
                  have i91 := z_ne 1 1 c91 h1 rfl
                  refine g_iload 96 (gd rfl) rfl rfl ?_
                  refine g_ineg 97 (gd rfl) rfl (fun z96 e96 => ?_)
                  have i96 := in_neg (-9999999) 0 e96 j26_4 rfl
                  refine g_goto 102 (gd rfl) rfl ?_
                  refine g_putI 105 (gd rfl) rfl rfl rfl rfl ?_
                  have hI102 := inv_sF (q := 46) (j := 5) hIc26 rfl (in_w (-2147483648) 2147483647 i96 rfl)
                  refine g_aload_n 106 (gd rfl) rfl rfl ?_
                  refine g_iload_n 107 (gd rfl) rfl rfl ?_
                  refine g_iload_n 108 (gd rfl) rfl rfl ?_
                  refine g_cmp_le 111 115 (gd rfl) rfl rfl (fun c108 => ?_) (fun c108 => ?_)
                  · skip
                    have i108 := r_le1 0 7 c108 j26_3 h2 rfl
                    refine g_iconst 2 116 (gd rfl) rfl rfl ?_
                    refine g_putI 119 (gd rfl) rfl rfl rfl rfl ?_
                    have hI116 := inv_sF (q := 46) (j := 3) hI102 rfl (in_w 0 5 (in_c 2 rfl) rfl)
                    have n119 : ((sF (sF sc26 46 5 z96) 46 3 (Int32.ofInt 2)).2.2.1 46 3).toInt ≠ 1 := by rw [← (show (Int32.ofInt 2) = (sF (sF sc26 46 5 z96) 46 3 (Int32.ofInt 2)).2.2.1 46 3 from sF_get)]; decide
                    have n119a : (x2).toInt = 6 → ((sF (sF sc26 46 5 z96) 46 3 (Int32.ofInt 2)).2.2.1 46 3).toInt = 2 → ((sF (sF sc26 46 5 z96) 46 3 (Int32.ofInt 2)).2.2.1 46 5).toInt ≤ 999999 := by intro h6 h2; rw [← (show (Int32.ofInt 2) = (sF (sF sc26 46 5 z96) 46 3 (Int32.ofInt 2)).2.2.1 46 3 from sF_get)] at h2; rw [← (show z96 = (sF (sF sc26 46 5 z96) 46 3 (Int32.ofInt 2)).2.2.1 46 5 from sF_ne rfl (sF_get))]; first | (exfalso; revert h2; decide) | (have a0 := h2; unfold In at a0; have a1 := i91; unfold In at a1; have a2 := i34a; unfold In at a2; have a3 := i34; unfold In at a3; have a4 := j26_4; unfold In at a4; have a5 := i108; unfold In at a5; have a6 := (in_c 2 rfl); unfold In at a6; have a7 := i96; unfold In at a7; omega)
                    have n119b : (w26_46_2).toInt ≤ (u_46_1).toInt := by first | exact n26_0 | (have a0 := h2; unfold In at a0; have a1 := i91; unfold In at a1; have a2 := i34a; unfold In at a2; have a3 := i34; unfold In at a3; have a4 := j26_4; unfold In at a4; have a5 := i108; unfold In at a5; have a6 := (in_c 2 rfl); unfold In at a6; have a7 := i96; unfold In at a7; omega)
                    have n119c : ((sF (sF sc26 46 5 z96) 46 3 (Int32.ofInt 2)).2.2.1 46 2).toInt ≤ ((sF (sF sc26 46 5 z96) 46 3 (Int32.ofInt 2)).2.2.1 46 1).toInt := by have b0 : w26_46_2 = (sF (sF sc26 46 5 z96) 46 3 (Int32.ofInt 2)).2.2.1 46 2 := sF_ne rfl (sF_ne rfl (v26_46_2)); have b1 : u_46_1 = (sF (sF sc26 46 5 z96) 46 3 (Int32.ofInt 2)).2.2.1 46 1 := sF_ne rfl (sF_ne rfl (fr_F e_46_1 hFc26 rfl)); rw [← b0, ← b1]; exact n119b
                    have n119d : (u_46_2).toInt + 1 ≤ (w26_46_2).toInt := by have a0 := h2; unfold In at a0; have a1 := i91; unfold In at a1; have a2 := i34a; unfold In at a2; have a3 := i34; unfold In at a3; have a4 := j26_4; unfold In at a4; have a5 := i108; unfold In at a5; have a6 := (in_c 2 rfl); unfold In at a6; have a7 := i96; unfold In at a7; omega
                    have n119e : (s.2.2.1 46 2).toInt + 1 ≤ ((sF (sF sc26 46 5 z96) 46 3 (Int32.ofInt 2)).2.2.1 46 2).toInt := by have b0 : w26_46_2 = (sF (sF sc26 46 5 z96) 46 3 (Int32.ofInt 2)).2.2.1 46 2 := sF_ne rfl (sF_ne rfl (v26_46_2)); first | (rw [← b0, ← e_46_2]; exact n119d) | (rw [← b0]; exact n119d)
                    exact g_return (gd rfl) rfl (hP _ _ ⟨(sF (sF sc26 46 5 z96) 46 3 (Int32.ofInt 2)), hI116, (fr_sF rfl (fr_sF rfl hFc26)), n119c, n119e, rfl, rfl, n119, n119a⟩)
                  · skip
                    have i108 := r_lt2 7 1000 c108 h2 j26_3 rfl
                    refine g_iconst 5 112 (gd rfl) rfl rfl ?_
                    refine g_goto 116 (gd rfl) rfl ?_
                    refine g_putI 119 (gd rfl) rfl rfl rfl rfl ?_
                    have hI116 := inv_sF (q := 46) (j := 3) hI102 rfl (in_w 0 5 (in_c 5 rfl) rfl)
                    have n119 : ((sF (sF sc26 46 5 z96) 46 3 (Int32.ofInt 5)).2.2.1 46 3).toInt ≠ 1 := by rw [← (show (Int32.ofInt 5) = (sF (sF sc26 46 5 z96) 46 3 (Int32.ofInt 5)).2.2.1 46 3 from sF_get)]; decide
                    have n119a : (x2).toInt = 6 → ((sF (sF sc26 46 5 z96) 46 3 (Int32.ofInt 5)).2.2.1 46 3).toInt = 2 → ((sF (sF sc26 46 5 z96) 46 3 (Int32.ofInt 5)).2.2.1 46 5).toInt ≤ 999999 := by intro h6 h2; rw [← (show (Int32.ofInt 5) = (sF (sF sc26 46 5 z96) 46 3 (Int32.ofInt 5)).2.2.1 46 3 from sF_get)] at h2; rw [← (show z96 = (sF (sF sc26 46 5 z96) 46 3 (Int32.ofInt 5)).2.2.1 46 5 from sF_ne rfl (sF_get))]; first | (exfalso; revert h2; decide) | (have a0 := h2; unfold In at a0; have a1 := i91; unfold In at a1; have a2 := i34a; unfold In at a2; have a3 := i34; unfold In at a3; have a4 := j26_4; unfold In at a4; have a5 := i108; unfold In at a5; have a6 := (in_c 5 rfl); unfold In at a6; have a7 := i96; unfold In at a7; omega)
                    have n119b : (w26_46_2).toInt ≤ (u_46_1).toInt := by first | exact n26_0 | (have a0 := h2; unfold In at a0; have a1 := i91; unfold In at a1; have a2 := i34a; unfold In at a2; have a3 := i34; unfold In at a3; have a4 := j26_4; unfold In at a4; have a5 := i108; unfold In at a5; have a6 := (in_c 5 rfl); unfold In at a6; have a7 := i96; unfold In at a7; omega)
                    have n119c : ((sF (sF sc26 46 5 z96) 46 3 (Int32.ofInt 5)).2.2.1 46 2).toInt ≤ ((sF (sF sc26 46 5 z96) 46 3 (Int32.ofInt 5)).2.2.1 46 1).toInt := by have b0 : w26_46_2 = (sF (sF sc26 46 5 z96) 46 3 (Int32.ofInt 5)).2.2.1 46 2 := sF_ne rfl (sF_ne rfl (v26_46_2)); have b1 : u_46_1 = (sF (sF sc26 46 5 z96) 46 3 (Int32.ofInt 5)).2.2.1 46 1 := sF_ne rfl (sF_ne rfl (fr_F e_46_1 hFc26 rfl)); rw [← b0, ← b1]; exact n119b
                    have n119d : (u_46_2).toInt + 1 ≤ (w26_46_2).toInt := by have a0 := h2; unfold In at a0; have a1 := i91; unfold In at a1; have a2 := i34a; unfold In at a2; have a3 := i34; unfold In at a3; have a4 := j26_4; unfold In at a4; have a5 := i108; unfold In at a5; have a6 := (in_c 5 rfl); unfold In at a6; have a7 := i96; unfold In at a7; omega
                    have n119e : (s.2.2.1 46 2).toInt + 1 ≤ ((sF (sF sc26 46 5 z96) 46 3 (Int32.ofInt 5)).2.2.1 46 2).toInt := by have b0 : w26_46_2 = (sF (sF sc26 46 5 z96) 46 3 (Int32.ofInt 5)).2.2.1 46 2 := sF_ne rfl (sF_ne rfl (v26_46_2)); first | (rw [← b0, ← e_46_2]; exact n119d) | (rw [← b0]; exact n119d)
                    exact g_return (gd rfl) rfl (hP _ _ ⟨(sF (sF sc26 46 5 z96) 46 3 (Int32.ofInt 5)), hI116, (fr_sF rfl (fr_sF rfl hFc26)), n119c, n119e, rfl, rfl, n119, n119a⟩)
              · skip
                exact zn_ne c45 (in_c 0 rfl) rfl
            · skip
              have i42x27 := r_le1 48 57 c42x27 i42x16 (in_c 57 rfl) rfl
              refine g_iconst 1 31 (gd rfl) rfl rfl ?_
              refine g_goto 35 (gd rfl) rfl ?_
              refine g_ireturn (gd rfl) rfl (nb01 (in_w 0 1 (in_c 1 rfl) rfl)) (hp42 _ _ ?_)
              show GG _ _ _ _ _ _ _ _ [.int (Int32.ofInt 1)] _ _ _
              refine g_if_eq 48 89 (gd rfl) rfl rfl (fun c45 => ?_) (fun c45 => ?_)
              · skip
                exact zn_eq c45 (in_c 1 rfl) rfl
              · skip
                refine g_iinc 51 (gd rfl) rfl rfl (Nat.le_of_ble_eq_true rfl) (fun z48 e48 => ?_)
                have i48 := in_add 1 1001 e48 j26_3 (in_c 1 rfl) rfl rfl
                refine g_iload_n 52 (gd rfl) rfl rfl ?_
                refine g_iload_n 53 (gd rfl) rfl rfl ?_
                refine g_cmp_gt 56 76 (gd rfl) rfl rfl (fun c53 => ?_) (fun c53 => ?_)
                · skip
                  have i53 := r_lt2 7 1001 c53 h2 i48 rfl
                  refine g_aload_n 77 (gd rfl) rfl rfl ?_
                  refine g_dup 78 (gd rfl) rfl rfl ?_
                  refine g_getI 81 (gd rfl) rfl rfl rfl (fun z78 e78 => ?_)
                  have q78 : w26_46_2 = z78 := (v26_46_2).trans e78.symm
                  subst q78
                  refine g_iconst 1 82 (gd rfl) rfl rfl ?_
                  refine g_iadd 83 (gd rfl) rfl (fun z82 e82 => ?_)
                  have i82 := in_add 1 1000 e82 i34 (in_c 1 rfl) rfl rfl
                  refine g_putI 86 (gd rfl) rfl rfl rfl rfl ?_
                  have hI83 := inv_sF (q := 46) (j := 2) hIc26 rfl (in_w 0 1000 i82 rfl)
                  refine g_goto 26 (gd rfl) rfl ?_
                  have i26 : In z48 0 1000 := by exact ⟨by have a0 := h2; unfold In at a0; have a1 := h1; unfold In at a1; have a2 := i34a; unfold In at a2; have a3 := i34; unfold In at a3; have a4 := j26_4; unfold In at a4; have a5 := j26_3; unfold In at a5; have a6 := i53; unfold In at a6; have a7 := t_add e48 j26_3 (in_c 1 rfl) rfl; have a8 := (in_c 1 rfl); unfold In at a8; have a9 := i82; unfold In at a9; have a10 := t_add e82 i34 (in_c 1 rfl) rfl; omega, by have a0 := h2; unfold In at a0; have a1 := h1; unfold In at a1; have a2 := i34a; unfold In at a2; have a3 := i34; unfold In at a3; have a4 := j26_4; unfold In at a4; have a5 := j26_3; unfold In at a5; have a6 := i53; unfold In at a6; have a7 := t_add e48 j26_3 (in_c 1 rfl) rfl; have a8 := (in_c 1 rfl); unfold In at a8; have a9 := i82; unfold In at a9; have a10 := t_add e82 i34 (in_c 1 rfl) rfl; omega⟩
                  have v26 : z82 = (sF sc26 46 2 z82).2.2.1 46 2 := sF_get
                  have n26 : (z82).toInt ≤ (u_46_1).toInt := by have a0 := h2; unfold In at a0; have a1 := h1; unfold In at a1; have a2 := i34a; unfold In at a2; have a3 := i34; unfold In at a3; have a4 := j26_4; unfold In at a4; have a5 := j26_3; unfold In at a5; have a6 := i26; unfold In at a6; have a7 := t_add e48 j26_3 (in_c 1 rfl) rfl; have a8 := (in_c 1 rfl); unfold In at a8; have a9 := i82; unfold In at a9; have a10 := t_add e82 i34 (in_c 1 rfl) rfl; omega
                  have n26a : (u_46_2).toInt + (x1).toInt ≤ (z82).toInt := by have a0 := h2; unfold In at a0; have a1 := h1; unfold In at a1; have a2 := i34a; unfold In at a2; have a3 := i34; unfold In at a3; have a4 := j26_4; unfold In at a4; have a5 := j26_3; unfold In at a5; have a6 := i26; unfold In at a6; have a7 := t_add e48 j26_3 (in_c 1 rfl) rfl; have a8 := (in_c 1 rfl); unfold In at a8; have a9 := i82; unfold In at a9; have a10 := t_add e82 i34 (in_c 1 rfl) rfl; omega
                  have n26b : (z48).toInt ≤ (z82).toInt := by have a0 := h2; unfold In at a0; have a1 := h1; unfold In at a1; have a2 := i34a; unfold In at a2; have a3 := i34; unfold In at a3; have a4 := j26_4; unfold In at a4; have a5 := j26_3; unfold In at a5; have a6 := i26; unfold In at a6; have a7 := t_add e48 j26_3 (in_c 1 rfl) rfl; have a8 := (in_c 1 rfl); unfold In at a8; have a9 := i82; unfold In at a9; have a10 := t_add e82 i34 (in_c 1 rfl) rfl; omega
                  have n26c : 0 ≤ (y26_4).toInt ∧ ((z48).toInt ≤ (x2).toInt → (y26_4).toInt < (10 : Int) ^ ((z48).toInt).toNat) ∧ ((x2).toInt < (z48).toInt → (y26_4).toInt < (10 : Int) ^ ((x2).toInt).toNat) := by exact ⟨g26_0.1, fun h => absurd h (by have a0 := h2; unfold In at a0; have a1 := h1; unfold In at a1; have a2 := i34a; unfold In at a2; have a3 := i34; unfold In at a3; have a4 := j26_4; unfold In at a4; have a5 := j26_3; unfold In at a5; have a6 := i26; unfold In at a6; have a7 := t_add e48 j26_3 (in_c 1 rfl) rfl; have a8 := (in_c 1 rfl); unfold In at a8; have a9 := i82; unfold In at a9; have a10 := t_add e82 i34 (in_c 1 rfl) rfl; omega), fun _ => (Int.lt_or_le (x2).toInt (y26_3).toInt).elim g26_0.2.2 (fun hh => by have e7 : y26_3.toInt = x2.toInt := (by have a0 := h2; unfold In at a0; have a1 := h1; unfold In at a1; have a2 := i34a; unfold In at a2; have a3 := i34; unfold In at a3; have a4 := j26_4; unfold In at a4; have a5 := j26_3; unfold In at a5; have a6 := i26; unfold In at a6; have a7 := t_add e48 j26_3 (in_c 1 rfl) rfl; have a8 := (in_c 1 rfl); unfold In at a8; have a9 := i82; unfold In at a9; have a10 := t_add e82 i34 (in_c 1 rfl) rfl; omega); rw [← e7]; exact g26_0.2.1 hh)⟩
                  have m26 : (u_46_1).toInt - (z82).toInt < ((k26 : Nat) : Int) := by have a0 := h2; unfold In at a0; have a1 := h1; unfold In at a1; have a2 := i34a; unfold In at a2; have a3 := i34; unfold In at a3; have a4 := j26_4; unfold In at a4; have a5 := j26_3; unfold In at a5; have a6 := i26; unfold In at a6; have a7 := t_add e48 j26_3 (in_c 1 rfl) rfl; have a8 := (in_c 1 rfl); unfold In at a8; have a9 := i82; unfold In at a9; have a10 := t_add e82 i34 (in_c 1 rfl) rfl; omega
                  exact gg_w (by first | exact Nat.le_add_right _ _ | exact gw2 | exact gw3 | exact gwe rfl | exact gwf rfl | exact gwg rfl | exact gwh rfl | omega) (gg_f (gf_cons rfl (gf_cons rfl (gf_cons rfl (gf_cons rfl (gf_cons rfl gf_nil))))) (ih26  (sF sc26 46 2 z82) z48 y26_4 z82 hI83 (fr_sF rfl hFc26) i26 (in_w 0 9999999 j26_4 rfl) v26 n26 n26a n26b n26c m26))
                · skip
                  have i53 := r_le1 1 7 c53 i48 h2 rfl
                  refine g_iload 58 (gd rfl) rfl rfl ?_
                  refine g_bipush 10 60 (gd rfl) rfl rfl ?_
                  refine g_imul 61 (gd rfl) rfl (fun z60 e60 => ?_)
                  have i60 := in_mulc 10 0 99999990 (Or.inr e60) j26_4 rfl rfl
                  refine g_aload_n 62 (gd rfl) rfl rfl ?_
                  refine g_getA (q2 := 47) 65 (gd rfl) rfl rfl rfl rfl ?_
                  refine g_aload_n 66 (gd rfl) rfl rfl ?_
                  refine g_getI 69 (gd rfl) rfl rfl rfl (fun z66 e66 => ?_)
                  have q66 : w26_46_2 = z66 := (v26_46_2).trans e66.symm
                  subst q66
                  refine g_caload 70 (gd rfl) rfl (n := 1000) rfl (in_ix i34 rfl) (fun z69 e69 => ?_)
                  have q69 : z42x13 = z69 := (e42x13).trans e69.symm
                  subst q69
                  refine g_bipush 48 72 (gd rfl) rfl rfl ?_
                  refine g_isub 73 (gd rfl) rfl (fun z72 e72 => ?_)
                  have i72 := in_sub 0 9 e72 i42x27 (in_c 48 rfl) rfl rfl
                  refine g_iadd 74 (gd rfl) rfl (fun z73 e73 => ?_)
                  have i73 := in_add 0 99999999 e73 i60 i72 rfl rfl
                  have hq := dg_st (a := y26_4.toInt) (d := z72.toInt) (n := y26_3.toInt) (by have a0 := h2; unfold In at a0; have a1 := h1; unfold In at a1; have a2 := i34a; unfold In at a2; have a3 := i34; unfold In at a3; have a4 := j26_4; unfold In at a4; have a5 := j26_3; unfold In at a5; have a6 := i53; unfold In at a6; have a7 := t_add e48 j26_3 (in_c 1 rfl) rfl; have a8 := (in_c 1 rfl); unfold In at a8; have a9 := i73; unfold In at a9; have a10 := t_add e73 i60 i72 rfl; have a11 := i72; unfold In at a11; have a12 := t_sub e72 i42x27 (in_c 48 rfl) rfl; have a13 := (in_c 48 rfl); unfold In at a13; have a14 := i42x27; unfold In at a14; have a15 := i60; unfold In at a15; have a16 := (t_mulc 10 (Or.inr e60) j26_4 rfl).1; omega) g26_0.1 (g26_0.2.1 (by have a0 := h2; unfold In at a0; have a1 := h1; unfold In at a1; have a2 := i34a; unfold In at a2; have a3 := i34; unfold In at a3; have a4 := j26_4; unfold In at a4; have a5 := j26_3; unfold In at a5; have a6 := i53; unfold In at a6; have a7 := t_add e48 j26_3 (in_c 1 rfl) rfl; have a8 := (in_c 1 rfl); unfold In at a8; have a9 := i73; unfold In at a9; have a10 := t_add e73 i60 i72 rfl; have a11 := i72; unfold In at a11; have a12 := t_sub e72 i42x27 (in_c 48 rfl) rfl; have a13 := (in_c 48 rfl); unfold In at a13; have a14 := i42x27; unfold In at a14; have a15 := i60; unfold In at a15; have a16 := (t_mulc 10 (Or.inr e60) j26_4 rfl).1; omega)) (by have a0 := h2; unfold In at a0; have a1 := h1; unfold In at a1; have a2 := i34a; unfold In at a2; have a3 := i34; unfold In at a3; have a4 := j26_4; unfold In at a4; have a5 := j26_3; unfold In at a5; have a6 := i53; unfold In at a6; have a7 := t_add e48 j26_3 (in_c 1 rfl) rfl; have a8 := (in_c 1 rfl); unfold In at a8; have a9 := i73; unfold In at a9; have a10 := t_add e73 i60 i72 rfl; have a11 := i72; unfold In at a11; have a12 := t_sub e72 i42x27 (in_c 48 rfl) rfl; have a13 := (in_c 48 rfl); unfold In at a13; have a14 := i42x27; unfold In at a14; have a15 := i60; unfold In at a15; have a16 := (t_mulc 10 (Or.inr e60) j26_4 rfl).1; omega)
                  have iq : In z73 0 9999999 := (by have e7 : z73.toInt = y26_4.toInt * 10 + z72.toInt := (by have a0 := h2; unfold In at a0; have a1 := h1; unfold In at a1; have a2 := i34a; unfold In at a2; have a3 := i34; unfold In at a3; have a4 := j26_4; unfold In at a4; have a5 := j26_3; unfold In at a5; have a6 := i53; unfold In at a6; have a7 := t_add e48 j26_3 (in_c 1 rfl) rfl; have a8 := (in_c 1 rfl); unfold In at a8; have a9 := i73; unfold In at a9; have a10 := t_add e73 i60 i72 rfl; have a11 := i72; unfold In at a11; have a12 := t_sub e72 i42x27 (in_c 48 rfl) rfl; have a13 := (in_c 48 rfl); unfold In at a13; have a14 := i42x27; unfold In at a14; have a15 := i60; unfold In at a15; have a16 := (t_mulc 10 (Or.inr e60) j26_4 rfl).1; omega); have h7 := dg_7 (n := y26_3.toInt + 1) (by have a0 := h2; unfold In at a0; have a1 := h1; unfold In at a1; have a2 := i34a; unfold In at a2; have a3 := i34; unfold In at a3; have a4 := j26_4; unfold In at a4; have a5 := j26_3; unfold In at a5; have a6 := i53; unfold In at a6; have a7 := t_add e48 j26_3 (in_c 1 rfl) rfl; have a8 := (in_c 1 rfl); unfold In at a8; have a9 := i73; unfold In at a9; have a10 := t_add e73 i60 i72 rfl; have a11 := i72; unfold In at a11; have a12 := t_sub e72 i42x27 (in_c 48 rfl) rfl; have a13 := (in_c 48 rfl); unfold In at a13; have a14 := i42x27; unfold In at a14; have a15 := i60; unfold In at a15; have a16 := (t_mulc 10 (Or.inr e60) j26_4 rfl).1; omega) (by have a0 := h2; unfold In at a0; have a1 := h1; unfold In at a1; have a2 := i34a; unfold In at a2; have a3 := i34; unfold In at a3; have a4 := j26_4; unfold In at a4; have a5 := j26_3; unfold In at a5; have a6 := i53; unfold In at a6; have a7 := t_add e48 j26_3 (in_c 1 rfl) rfl; have a8 := (in_c 1 rfl); unfold In at a8; have a9 := i73; unfold In at a9; have a10 := t_add e73 i60 i72 rfl; have a11 := i72; unfold In at a11; have a12 := t_sub e72 i42x27 (in_c 48 rfl) rfl; have a13 := (in_c 48 rfl); unfold In at a13; have a14 := i42x27; unfold In at a14; have a15 := i60; unfold In at a15; have a16 := (t_mulc 10 (Or.inr e60) j26_4 rfl).1; omega) hq.2; exact ⟨by rw [e7]; exact hq.1, by rw [e7]; exact h7⟩)
                  have i74 : In z73 0 9999999 := by exact iq
                  refine g_istore 76 (gd rfl) rfl (Nat.le_of_ble_eq_true rfl) ?_
                  refine g_aload_n 77 (gd rfl) rfl rfl ?_
                  refine g_dup 78 (gd rfl) rfl rfl ?_
                  refine g_getI 81 (gd rfl) rfl rfl rfl (fun z78 e78 => ?_)
                  have q78 : w26_46_2 = z78 := (v26_46_2).trans e78.symm
                  subst q78
                  refine g_iconst 1 82 (gd rfl) rfl rfl ?_
                  refine g_iadd 83 (gd rfl) rfl (fun z82 e82 => ?_)
                  have i82 := in_add 1 1000 e82 i34 (in_c 1 rfl) rfl rfl
                  refine g_putI 86 (gd rfl) rfl rfl rfl rfl ?_
                  have hI83 := inv_sF (q := 46) (j := 2) hIc26 rfl (in_w 0 1000 i82 rfl)
                  refine g_goto 26 (gd rfl) rfl ?_
                  have v26 : z82 = (sF sc26 46 2 z82).2.2.1 46 2 := sF_get
                  have n26 : (z82).toInt ≤ (u_46_1).toInt := by have a0 := h2; unfold In at a0; have a1 := h1; unfold In at a1; have a2 := i34a; unfold In at a2; have a3 := i34; unfold In at a3; have a4 := j26_4; unfold In at a4; have a5 := j26_3; unfold In at a5; have a6 := i74; unfold In at a6; have a7 := t_add e73 i60 i72 rfl; have a8 := i72; unfold In at a8; have a9 := t_sub e72 i42x27 (in_c 48 rfl) rfl; have a10 := (in_c 48 rfl); unfold In at a10; have a11 := i42x27; unfold In at a11; have a12 := i60; unfold In at a12; have a13 := (t_mulc 10 (Or.inr e60) j26_4 rfl).1; have a14 := i53; unfold In at a14; have a15 := t_add e48 j26_3 (in_c 1 rfl) rfl; have a16 := (in_c 1 rfl); unfold In at a16; have a17 := i82; unfold In at a17; have a18 := t_add e82 i34 (in_c 1 rfl) rfl; omega
                  have n26a : (u_46_2).toInt + (x1).toInt ≤ (z82).toInt := by have a0 := h2; unfold In at a0; have a1 := h1; unfold In at a1; have a2 := i34a; unfold In at a2; have a3 := i34; unfold In at a3; have a4 := j26_4; unfold In at a4; have a5 := j26_3; unfold In at a5; have a6 := i74; unfold In at a6; have a7 := t_add e73 i60 i72 rfl; have a8 := i72; unfold In at a8; have a9 := t_sub e72 i42x27 (in_c 48 rfl) rfl; have a10 := (in_c 48 rfl); unfold In at a10; have a11 := i42x27; unfold In at a11; have a12 := i60; unfold In at a12; have a13 := (t_mulc 10 (Or.inr e60) j26_4 rfl).1; have a14 := i53; unfold In at a14; have a15 := t_add e48 j26_3 (in_c 1 rfl) rfl; have a16 := (in_c 1 rfl); unfold In at a16; have a17 := i82; unfold In at a17; have a18 := t_add e82 i34 (in_c 1 rfl) rfl; omega
                  have n26b : (z48).toInt ≤ (z82).toInt := by have a0 := h2; unfold In at a0; have a1 := h1; unfold In at a1; have a2 := i34a; unfold In at a2; have a3 := i34; unfold In at a3; have a4 := j26_4; unfold In at a4; have a5 := j26_3; unfold In at a5; have a6 := i74; unfold In at a6; have a7 := t_add e73 i60 i72 rfl; have a8 := i72; unfold In at a8; have a9 := t_sub e72 i42x27 (in_c 48 rfl) rfl; have a10 := (in_c 48 rfl); unfold In at a10; have a11 := i42x27; unfold In at a11; have a12 := i60; unfold In at a12; have a13 := (t_mulc 10 (Or.inr e60) j26_4 rfl).1; have a14 := i53; unfold In at a14; have a15 := t_add e48 j26_3 (in_c 1 rfl) rfl; have a16 := (in_c 1 rfl); unfold In at a16; have a17 := i82; unfold In at a17; have a18 := t_add e82 i34 (in_c 1 rfl) rfl; omega
                  have n26c : 0 ≤ (z73).toInt ∧ ((z48).toInt ≤ (x2).toInt → (z73).toInt < (10 : Int) ^ ((z48).toInt).toNat) ∧ ((x2).toInt < (z48).toInt → (z73).toInt < (10 : Int) ^ ((x2).toInt).toNat) := by have e7 : z73.toInt = y26_4.toInt * 10 + z72.toInt := (by have a0 := h2; unfold In at a0; have a1 := h1; unfold In at a1; have a2 := i34a; unfold In at a2; have a3 := i34; unfold In at a3; have a4 := j26_4; unfold In at a4; have a5 := j26_3; unfold In at a5; have a6 := i74; unfold In at a6; have a7 := t_add e73 i60 i72 rfl; have a8 := i72; unfold In at a8; have a9 := t_sub e72 i42x27 (in_c 48 rfl) rfl; have a10 := (in_c 48 rfl); unfold In at a10; have a11 := i42x27; unfold In at a11; have a12 := i60; unfold In at a12; have a13 := (t_mulc 10 (Or.inr e60) j26_4 rfl).1; have a14 := i53; unfold In at a14; have a15 := t_add e48 j26_3 (in_c 1 rfl) rfl; have a16 := (in_c 1 rfl); unfold In at a16; have a17 := i82; unfold In at a17; have a18 := t_add e82 i34 (in_c 1 rfl) rfl; omega); have e8 : z48.toInt = y26_3.toInt + 1 := (by have a0 := h2; unfold In at a0; have a1 := h1; unfold In at a1; have a2 := i34a; unfold In at a2; have a3 := i34; unfold In at a3; have a4 := j26_4; unfold In at a4; have a5 := j26_3; unfold In at a5; have a6 := i74; unfold In at a6; have a7 := t_add e73 i60 i72 rfl; have a8 := i72; unfold In at a8; have a9 := t_sub e72 i42x27 (in_c 48 rfl) rfl; have a10 := (in_c 48 rfl); unfold In at a10; have a11 := i42x27; unfold In at a11; have a12 := i60; unfold In at a12; have a13 := (t_mulc 10 (Or.inr e60) j26_4 rfl).1; have a14 := i53; unfold In at a14; have a15 := t_add e48 j26_3 (in_c 1 rfl) rfl; have a16 := (in_c 1 rfl); unfold In at a16; have a17 := i82; unfold In at a17; have a18 := t_add e82 i34 (in_c 1 rfl) rfl; omega); exact ⟨by rw [e7]; exact hq.1, fun _ => by rw [e7, e8]; exact hq.2, fun h => absurd h (by have a0 := h2; unfold In at a0; have a1 := h1; unfold In at a1; have a2 := i34a; unfold In at a2; have a3 := i34; unfold In at a3; have a4 := j26_4; unfold In at a4; have a5 := j26_3; unfold In at a5; have a6 := i74; unfold In at a6; have a7 := t_add e73 i60 i72 rfl; have a8 := i72; unfold In at a8; have a9 := t_sub e72 i42x27 (in_c 48 rfl) rfl; have a10 := (in_c 48 rfl); unfold In at a10; have a11 := i42x27; unfold In at a11; have a12 := i60; unfold In at a12; have a13 := (t_mulc 10 (Or.inr e60) j26_4 rfl).1; have a14 := i53; unfold In at a14; have a15 := t_add e48 j26_3 (in_c 1 rfl) rfl; have a16 := (in_c 1 rfl); unfold In at a16; have a17 := i82; unfold In at a17; have a18 := t_add e82 i34 (in_c 1 rfl) rfl; omega)⟩
                  have m26 : (u_46_1).toInt - (z82).toInt < ((k26 : Nat) : Int) := by have a0 := h2; unfold In at a0; have a1 := h1; unfold In at a1; have a2 := i34a; unfold In at a2; have a3 := i34; unfold In at a3; have a4 := j26_4; unfold In at a4; have a5 := j26_3; unfold In at a5; have a6 := i74; unfold In at a6; have a7 := t_add e73 i60 i72 rfl; have a8 := i72; unfold In at a8; have a9 := t_sub e72 i42x27 (in_c 48 rfl) rfl; have a10 := (in_c 48 rfl); unfold In at a10; have a11 := i42x27; unfold In at a11; have a12 := i60; unfold In at a12; have a13 := (t_mulc 10 (Or.inr e60) j26_4 rfl).1; have a14 := i53; unfold In at a14; have a15 := t_add e48 j26_3 (in_c 1 rfl) rfl; have a16 := (in_c 1 rfl); unfold In at a16; have a17 := i82; unfold In at a17; have a18 := t_add e82 i34 (in_c 1 rfl) rfl; omega
                  exact gg_w (by first | exact Nat.le_add_right _ _ | exact gw2 | exact gw3 | exact gwe rfl | exact gwf rfl | exact gwg rfl | exact gwh rfl | omega) (gg_f (gf_cons rfl (gf_cons rfl (gf_cons rfl (gf_cons rfl (gf_cons rfl gf_nil))))) (ih26  (sF sc26 46 2 z82) z48 z73 z82 hI83 (fr_sF rfl hFc26) (in_w 0 1000 i53 rfl) (in_w 0 9999999 i74 rfl) v26 n26 n26a n26b n26c m26))
  refine g_enter2 (k := 173) (N := 901801) (by first | exact dq1 hd rfl | exact dq0 hd rfl | exact dq2 hd rfl | exact dq3 hd rfl | omega) rfl (Nat.le_of_ble_eq_true rfl) ?_
  refine g_iconst 0 1 (gd rfl) rfl rfl ?_
  refine g_istore_n 2 (gd rfl) rfl (Nat.le_of_ble_eq_true rfl) ?_
  refine g_iconst 0 3 (gd rfl) rfl rfl ?_
  refine g_istore 5 (gd rfl) rfl (Nat.le_of_ble_eq_true rfl) ?_
  refine g_aload_n 6 (gd rfl) rfl rfl ?_
  refine g_iload_n 7 (gd rfl) rfl rfl ?_
  refine g_if_eq 10 19 (gd rfl) rfl rfl (fun c7 => ?_) (fun c7 => ?_)
  · skip
    have i7 := z_eq 0 0 c7 h1 rfl
    refine g_aload_n 20 (gd rfl) rfl rfl ?_
    refine g_getI 23 (gd rfl) rfl rfl rfl (fun z20 e20 => ?_)
    have q20 : u_46_2 = z20 := (e_46_2).trans e20.symm
    subst q20
    refine g_putI 26 (gd rfl) rfl rfl rfl rfl ?_
    have hI23 := inv_sF (q := 46) (j := 2) hI rfl (in_w 0 1000 (inv_F hI 0 1000 rfl e_46_2) rfl)
    have v26 : u_46_2 = (sF s 46 2 u_46_2).2.2.1 46 2 := sF_get
    have n26 : (u_46_2).toInt ≤ (u_46_1).toInt := by have a0 := (inv_F hI 0 1000 rfl e_46_1); unfold In at a0; have a1 := (inv_F hI 0 1000 rfl e_46_2); unfold In at a1; have a2 := h2; unfold In at a2; have a3 := i7; unfold In at a3; have a4 := (in_c 0 rfl); unfold In at a4; omega
    have n26a : (u_46_2).toInt + (x1).toInt ≤ (u_46_2).toInt := by have a0 := (inv_F hI 0 1000 rfl e_46_1); unfold In at a0; have a1 := (inv_F hI 0 1000 rfl e_46_2); unfold In at a1; have a2 := h2; unfold In at a2; have a3 := i7; unfold In at a3; have a4 := (in_c 0 rfl); unfold In at a4; omega
    have n26b : ((Int32.ofInt 0)).toInt ≤ (u_46_2).toInt := by have a0 := (inv_F hI 0 1000 rfl e_46_1); unfold In at a0; have a1 := (inv_F hI 0 1000 rfl e_46_2); unfold In at a1; have a2 := h2; unfold In at a2; have a3 := i7; unfold In at a3; have a4 := (in_c 0 rfl); unfold In at a4; omega
    have n26c : 0 ≤ ((Int32.ofInt 0)).toInt ∧ (((Int32.ofInt 0)).toInt ≤ (x2).toInt → ((Int32.ofInt 0)).toInt < (10 : Int) ^ (((Int32.ofInt 0)).toInt).toNat) ∧ ((x2).toInt < ((Int32.ofInt 0)).toInt → ((Int32.ofInt 0)).toInt < (10 : Int) ^ ((x2).toInt).toNat) := by exact ⟨by decide, fun _ => by decide, fun h => absurd h (by have h9 : (Int32.ofInt 0).toInt = 0 := rfl; have a0 := (inv_F hI 0 1000 rfl e_46_1); unfold In at a0; have a1 := (inv_F hI 0 1000 rfl e_46_2); unfold In at a1; have a2 := h2; unfold In at a2; have a3 := i7; unfold In at a3; have a4 := (in_c 0 rfl); unfold In at a4; omega)⟩
    have m26 : (u_46_1).toInt - (u_46_2).toInt < ((1001 : Nat) : Int) := by have a0 := (inv_F hI 0 1000 rfl e_46_1); unfold In at a0; have a1 := (inv_F hI 0 1000 rfl e_46_2); unfold In at a1; have a2 := h2; unfold In at a2; have a3 := i7; unfold In at a3; have a4 := (in_c 0 rfl); unfold In at a4; omega
    exact gg_w (by first | exact Nat.le_of_ble_eq_true rfl | omega) (gg_f (gf_cons rfl (gf_cons rfl (gf_cons rfl (gf_cons rfl (gf_cons rfl gf_nil))))) (ct26 1001 (sF s 46 2 u_46_2) (Int32.ofInt 0) (Int32.ofInt 0) u_46_2 hI23 (fr_sF rfl fr_rf) (in_w 0 1000 (in_c 0 rfl) rfl) (in_w 0 9999999 (in_c 0 rfl) rfl) v26 n26 n26a n26b n26c m26))
  · skip
    have i7 := z_ne 1 1 c7 h1 rfl
    refine g_aload_n 11 (gd rfl) rfl rfl ?_
    refine g_getI 14 (gd rfl) rfl rfl rfl (fun z11 e11 => ?_)
    have q11 : u_46_2 = z11 := (e_46_2).trans e11.symm
    subst q11
    refine g_iconst 1 15 (gd rfl) rfl rfl ?_
    refine g_iadd 16 (gd rfl) rfl (fun z15 e15 => ?_)
    have i15 := in_add 1 1001 e15 (inv_F hI 0 1000 rfl e_46_2) (in_c 1 rfl) rfl rfl
    refine g_goto 23 (gd rfl) rfl ?_
    have i23 : In z15 0 1000 := by have a0 := (inv_F hI 0 1000 rfl e_46_1); unfold In at a0; have a1 := (inv_F hI 0 1000 rfl e_46_2); unfold In at a1; have a2 := h2; unfold In at a2; have a3 := i7; unfold In at a3; have a4 := (in_c 0 rfl); unfold In at a4; have a5 := i15; unfold In at a5; have a6 := t_add e15 (inv_F hI 0 1000 rfl e_46_2) (in_c 1 rfl) rfl; have a7 := (in_c 1 rfl); unfold In at a7; exact ⟨by omega, by omega⟩
    refine g_putI 26 (gd rfl) rfl rfl rfl rfl ?_
    have hI23 := inv_sF (q := 46) (j := 2) hI rfl (in_w 0 1000 i23 rfl)
    have v26 : z15 = (sF s 46 2 z15).2.2.1 46 2 := sF_get
    have n26 : (z15).toInt ≤ (u_46_1).toInt := by have a0 := (inv_F hI 0 1000 rfl e_46_1); unfold In at a0; have a1 := (inv_F hI 0 1000 rfl e_46_2); unfold In at a1; have a2 := h2; unfold In at a2; have a3 := i7; unfold In at a3; have a4 := (in_c 0 rfl); unfold In at a4; have a5 := i23; unfold In at a5; have a6 := t_add e15 (inv_F hI 0 1000 rfl e_46_2) (in_c 1 rfl) rfl; have a7 := (in_c 1 rfl); unfold In at a7; omega
    have n26a : (u_46_2).toInt + (x1).toInt ≤ (z15).toInt := by have a0 := (inv_F hI 0 1000 rfl e_46_1); unfold In at a0; have a1 := (inv_F hI 0 1000 rfl e_46_2); unfold In at a1; have a2 := h2; unfold In at a2; have a3 := i7; unfold In at a3; have a4 := (in_c 0 rfl); unfold In at a4; have a5 := i23; unfold In at a5; have a6 := t_add e15 (inv_F hI 0 1000 rfl e_46_2) (in_c 1 rfl) rfl; have a7 := (in_c 1 rfl); unfold In at a7; omega
    have n26b : ((Int32.ofInt 0)).toInt ≤ (z15).toInt := by have a0 := (inv_F hI 0 1000 rfl e_46_1); unfold In at a0; have a1 := (inv_F hI 0 1000 rfl e_46_2); unfold In at a1; have a2 := h2; unfold In at a2; have a3 := i7; unfold In at a3; have a4 := (in_c 0 rfl); unfold In at a4; have a5 := i23; unfold In at a5; have a6 := t_add e15 (inv_F hI 0 1000 rfl e_46_2) (in_c 1 rfl) rfl; have a7 := (in_c 1 rfl); unfold In at a7; omega
    have n26c : 0 ≤ ((Int32.ofInt 0)).toInt ∧ (((Int32.ofInt 0)).toInt ≤ (x2).toInt → ((Int32.ofInt 0)).toInt < (10 : Int) ^ (((Int32.ofInt 0)).toInt).toNat) ∧ ((x2).toInt < ((Int32.ofInt 0)).toInt → ((Int32.ofInt 0)).toInt < (10 : Int) ^ ((x2).toInt).toNat) := by exact ⟨by decide, fun _ => by decide, fun h => absurd h (by have h9 : (Int32.ofInt 0).toInt = 0 := rfl; have a0 := (inv_F hI 0 1000 rfl e_46_1); unfold In at a0; have a1 := (inv_F hI 0 1000 rfl e_46_2); unfold In at a1; have a2 := h2; unfold In at a2; have a3 := i7; unfold In at a3; have a4 := (in_c 0 rfl); unfold In at a4; have a5 := i23; unfold In at a5; have a6 := t_add e15 (inv_F hI 0 1000 rfl e_46_2) (in_c 1 rfl) rfl; have a7 := (in_c 1 rfl); unfold In at a7; omega)⟩
    have m26 : (u_46_1).toInt - (z15).toInt < ((1001 : Nat) : Int) := by have a0 := (inv_F hI 0 1000 rfl e_46_1); unfold In at a0; have a1 := (inv_F hI 0 1000 rfl e_46_2); unfold In at a1; have a2 := h2; unfold In at a2; have a3 := i7; unfold In at a3; have a4 := (in_c 0 rfl); unfold In at a4; have a5 := i23; unfold In at a5; have a6 := t_add e15 (inv_F hI 0 1000 rfl e_46_2) (in_c 1 rfl) rfl; have a7 := (in_c 1 rfl); unfold In at a7; omega
    exact gg_w (by first | exact Nat.le_of_ble_eq_true rfl | omega) (gg_f (gf_cons rfl (gf_cons rfl (gf_cons rfl (gf_cons rfl (gf_cons rfl gf_nil))))) (ct26 1001 (sF s 46 2 z15) (Int32.ofInt 0) (Int32.ofInt 0) z15 hI23 (fr_sF rfl fr_rf) (in_w 0 1000 (in_c 0 rfl) rfl) (in_w 0 9999999 (in_c 0 rfl) rfl) v26 n26 n26a n26b n26c m26))

def fm_57_102 : FM := ([104], [], [(102, 4)], [])
/-- GraphHouse$Engine.emit -/
theorem k_57_102 {Z : AmZ} {A : Nat → Nat} {s : GS} {ex : va_W} {d : Nat} {X : AmX} {x1 : Int32} {u_102_4 : Int32} (hd : 1 ≤ d) (hI : Inv s) (e_102_4 : u_102_4 = s.2.2.1 102 4) (p_0 : (u_102_4).toInt ≤ 119) : GC Z d 57 [.ref (A 102), .int x1] (WW Z A s ++ ex) 0 0 (fun v u => ∃ t : GS, Inv t ∧ Fr fm_57_102 s t ∧ ((t.2.2.1 102 4).toInt = (s.2.2.1 102 4).toInt + 1) ∧ ∃ z : Int32, v = some (.int z) ∧ u = WW Z A t ++ ex ∧ In z 1 1 ∧ (t.1 104 = upd (s.1 104) (s.2.2.1 102 4).toNatClampNeg x1)) X := by
  intro post xp hP hX
  refine g_enter2 (k := 57) (N := 900) (by first | exact dq1 hd rfl | exact dq0 hd rfl | exact dq2 hd rfl | exact dq3 hd rfl | omega) rfl (Nat.le_of_ble_eq_true rfl) ?_
  refine g_aload_n 1 (gd rfl) rfl rfl ?_
  refine g_getI 4 (gd rfl) rfl rfl rfl (fun z1 e1 => ?_)
  have q1 : u_102_4 = z1 := (e_102_4).trans e1.symm
  subst q1
  refine g_bipush 120 6 (gd rfl) rfl rfl ?_
  refine g_cmp_ge 9 29 (gd rfl) rfl rfl (fun c6 => ?_) (fun c6 => ?_)
  · skip
    have i6 := r_le2 120 120 c6 (in_c 120 rfl) (inv_F hI 0 120 rfl e_102_4) rfl
    exfalso
    have a0 := i6; unfold In at a0; omega
  · skip
    have i6 := r_lt1 0 119 c6 (inv_F hI 0 120 rfl e_102_4) (in_c 120 rfl) rfl
    refine g_aload_n 10 (gd rfl) rfl rfl ?_
    refine g_getA (q2 := 104) 13 (gd rfl) rfl rfl rfl rfl ?_
    refine g_aload_n 14 (gd rfl) rfl rfl ?_
    refine g_getI 17 (gd rfl) rfl rfl rfl (fun z14 e14 => ?_)
    have q14 : u_102_4 = z14 := (e_102_4).trans e14.symm
    subst q14
    refine g_iload_n 18 (gd rfl) rfl rfl ?_
    refine g_iastore 19 (gd rfl) rfl (n := 120) rfl (in_ix i6 rfl) ?_
    have hI18 := inv_sI (q := 104) (j := u_102_4.toNatClampNeg) hI rfl (in_w (-2147483648) 2147483647 (i_rng x1) rfl)
    refine g_aload_n 20 (gd rfl) rfl rfl ?_
    refine g_dup 21 (gd rfl) rfl rfl ?_
    refine g_getI 24 (gd rfl) rfl rfl rfl (fun z21 e21 => ?_)
    have q21 : u_102_4 = z21 := (sI_F (e_102_4)).trans e21.symm
    subst q21
    refine g_iconst 1 25 (gd rfl) rfl rfl ?_
    refine g_iadd 26 (gd rfl) rfl (fun z25 e25 => ?_)
    have i25 := in_add 1 120 e25 i6 (in_c 1 rfl) rfl rfl
    refine g_putI 29 (gd rfl) rfl rfl rfl rfl ?_
    have hI26 := inv_sF (q := 102) (j := 4) hI18 rfl (in_w 0 120 i25 rfl)
    refine g_iconst 1 30 (gd rfl) rfl rfl ?_
    have n30 : (sF (sI s 104 u_102_4.toNatClampNeg x1) 102 4 z25).1 104 = upd (s.1 104) (s.2.2.1 102 4).toNatClampNeg x1 := by rw [← e_102_4]; simp [sI, sF]
    have n30a : (z25).toInt = (u_102_4).toInt + 1 := by have a0 := i6; unfold In at a0; have a1 := i25; unfold In at a1; have a2 := t_add e25 i6 (in_c 1 rfl) rfl; have a3 := (in_c 1 rfl); unfold In at a3; omega
    have n30b : ((sF (sI s 104 u_102_4.toNatClampNeg x1) 102 4 z25).2.2.1 102 4).toInt = (s.2.2.1 102 4).toInt + 1 := by have b0 : z25 = (sF (sI s 104 u_102_4.toNatClampNeg x1) 102 4 z25).2.2.1 102 4 := sF_get; first | (rw [← b0, ← e_102_4]; exact n30a) | (rw [← b0]; exact n30a)
    exact g_ireturn (gd rfl) rfl (nb01 (in_w 0 1 (in_c 1 rfl) rfl)) (hP _ _ ⟨(sF (sI s 104 u_102_4.toNatClampNeg x1) 102 4 z25), hI26, (fr_sF rfl (fr_sI rfl fr_rf)), n30b, (Int32.ofInt 1), rfl, rfl, in_w 1 1 (in_c 1 rfl) rfl, n30⟩)

def fm_105_2 : FM := ([4], [], [(2, 2), (2, 3)], [])
def fm_132_1_2 : FM := ([4, 5, 6, 7, 8], [], [(2, 2), (2, 3)], [])
def fm_133_1_2 : FM := ([6, 7, 8], [], [], [])
def fm_131_1_2 : FM := ([3, 4, 5, 6, 7, 8], [], [(2, 0), (2, 1), (2, 2), (2, 3)], [])
def fm_105_32 : FM := ([34], [], [(32, 2), (32, 3)], [])
def fm_132_1_32 : FM := ([34, 35, 36, 37, 38], [], [(32, 2), (32, 3)], [])
def fm_133_1_32 : FM := ([36, 37, 38], [], [], [])
def fm_129_1 : FM := ([3, 4, 5, 6, 7, 8, 30], [], [(2, 0), (2, 1), (2, 2), (2, 3), (30, 0)], [])
end
section
/-! methods, by vc.py -/
def fm_125_1 : FM := ([3, 4, 5, 6, 7, 8, 30], [], [(2, 0), (2, 1), (2, 2), (2, 3), (30, 0)], [])
def fm_124_1 : FM := ([3, 4, 5, 6, 7, 8, 30], [], [(2, 0), (2, 1), (2, 2), (2, 3), (30, 0)], [])
def fm_126_1 : FM := ([3, 4, 5, 6, 7, 8, 30], [], [(2, 0), (2, 1), (2, 2), (2, 3), (30, 0)], [])
def fm_127_1 : FM := ([3, 4, 5, 6, 7, 8, 30], [], [(2, 0), (2, 1), (2, 2), (2, 3), (30, 0)], [])
def fm_128_1 : FM := ([3, 4, 5, 6, 7, 8, 30], [], [(2, 0), (2, 1), (2, 2), (2, 3), (30, 0)], [])
def fm_138_1 : FM := ([3, 4, 5, 6, 7, 8, 30], [], [(2, 0), (2, 1), (2, 2), (2, 3), (30, 0)], [])
def fm_212_0 : FM := ([3, 4, 5, 6, 7, 8, 30], [], [(2, 0), (2, 1), (2, 2), (2, 3), (30, 0)], [])
def fm_214_0 : FM := ([3, 4, 5, 6, 7, 8, 30], [], [(2, 0), (2, 1), (2, 2), (2, 3), (30, 0)], [])
def fm_213_0 : FM := ([3, 4, 5, 6, 7, 8, 30], [], [(2, 0), (2, 1), (2, 2), (2, 3), (30, 0)], [])
def fm_215_0 : FM := ([3, 4, 5, 6, 7, 8, 30], [], [(2, 0), (2, 1), (2, 2), (2, 3), (30, 0)], [])
end
