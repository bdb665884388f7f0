/-! methods, by vc.py -/
def fm_364 : FM := ([158, 159], [], [], [])
/-- GraphHouseModel.rings -/
theorem k_364 {Z : AmZ} {A : Nat → Nat} {s : GS} {ex : va_W} {d : Nat} {X : AmX} {x1 : Int32} {x2 : Int32} (hd : 1 ≤ d) (hI : Inv s) (h1 : In x1 1 32) (h2 : In x2 0 31) (q_0 : TP s (x1).toInt (x2).toInt) : GC Z d 364 [.ref (A 109), .int x1, .int x2] (WW Z A s ++ ex) 0 0 (fun v u => ∃ t : GS, Inv t ∧ Fr fm_364 s t ∧ ∃ z : Int32, v = some (.int z) ∧ u = WW Z A t ++ ex ∧ In z 0 32 ∧ ((z).toInt ≤ (x1).toInt) ∧ (∀ k : Nat, (k : Int) < (x1).toInt → 0 ≤ (t.1 158 k).toInt ∧ (t.1 158 k).toInt < (z).toInt)) X := by
  intro post xp hP hX
  have ct173 : ∀ (k173 : Nat) (sc173 : GS) (y173_3 : Int32) (y173_4 : Int32), Inv sc173 → Fr fm_364 s sc173 → (In y173_3 0 32) → (In y173_4 0 32) → (0 ≤ (y173_3).toInt) → ((y173_3).toInt + (cM (sc173.1 158) (x1).toNatClampNeg : Int) ≤ (x1).toInt) → (∀ k : Nat, (k : Int) < (x1).toInt → (sc173.1 158 k).toInt < (y173_3).toInt) → (∀ k : Nat, (k : Int) < (y173_4).toInt → 0 ≤ (sc173.1 158 k).toInt) → 32 - (y173_4).toInt < (k173 : Int) → GG Z (d - 1) 364 post (gx xp) (1 + k173 * 900) 173 (fun j => xlook j [(0, .ref (A 109)), (1, .int x1), (2, .int x2), (3, .int y173_3), (4, .int y173_4)]) [] (WW Z A sc173 ++ ex) 0 0 := by
    intro k173
    induction k173 with
    | zero => intro sc173 y173_3 y173_4 hIc173 hFc173 j173_3 j173_4 n173_0 g173_0 g173_1 g173_2 mm173; exact m_no mm173 j173_4 rfl
    | succ k173 ih173 =>
      intro sc173 y173_3 y173_4 hIc173 hFc173 j173_3 j173_4 n173_0 g173_0 g173_1 g173_2 mm173
      refine gg_w (M := 1 + k173 * 900 + 900) (by omega) ?_
      refine g_iload 175 (gd rfl) rfl rfl ?_
      refine g_iload_n 176 (gd rfl) rfl rfl ?_
      refine g_cmp_ge 179 206 (gd rfl) rfl rfl (fun c176 => ?_) (fun c176 => ?_)
      · skip
        have i176 := r_le2 1 32 c176 h1 j173_4 rfl
        refine g_iload_n 207 (gd rfl) rfl rfl ?_
        have n207 : (y173_3).toInt ≤ (x1).toInt := by have hc := g173_0; have a0 := h2; unfold In at a0; have a1 := h1; unfold In at a1; have a2 := i176; unfold In at a2; have a3 := j173_3; unfold In at a3; omega
        have n207a : ∀ k : Nat, (k : Int) < (x1).toInt → 0 ≤ (sc173.1 158 k).toInt ∧ (sc173.1 158 k).toInt < (y173_3).toInt := by exact fun k hk => ⟨g173_2 k (by have a0 := h2; unfold In at a0; have a1 := h1; unfold In at a1; have a2 := i176; unfold In at a2; have a3 := j173_3; unfold In at a3; omega), g173_1 k hk⟩
        exact g_ireturn (gd rfl) rfl rfl (hP _ _ ⟨sc173, hIc173, hFc173, y173_3, rfl, rfl, in_w 0 32 j173_3 rfl, n207, n207a⟩)
      · skip
        have i176 := r_lt1 0 31 c176 j173_4 h1 rfl
        refine g_aload_n 180 (gd rfl) rfl rfl ?_
        refine g_getA (q2 := 158) 183 (gd rfl) rfl rfl rfl rfl ?_
        refine g_iload 185 (gd rfl) rfl rfl ?_
        refine g_iaload 186 (gd rfl) rfl (n := 32) rfl (in_ix i176 rfl) (fun z185 e185 => ?_)
        refine g_if_ge 189 200 (gd rfl) rfl rfl (fun c186 => ?_) (fun c186 => ?_)
        · skip
          have i186 := z_ge 0 2147483647 c186 (i_rng z185) rfl
          first | (have n173q : (y173_3).toInt + (cM (sc173.1 158) (x1).toNatClampNeg : Int) ≤ (x1).toInt := (by rw [sI_q]; have hu := up_cm (f := sc173.1 158) (y := y173_4) (b := y173_3) (n := x1.toNatClampNeg) (by rw [← e185]; exact c186) (by have a0 := h2; unfold In at a0; have a1 := h1; unfold In at a1; have a2 := i176; unfold In at a2; have a3 := j173_3; unfold In at a3; omega) (by show y173_4.toInt.toNat < x1.toInt.toNat; have a0 := h2; unfold In at a0; have a1 := h1; unfold In at a1; have a2 := i176; unfold In at a2; have a3 := j173_3; unfold In at a3; omega); have hc := g173_0; have a0 := h2; unfold In at a0; have a1 := h1; unfold In at a1; have a2 := i176; unfold In at a2; have a3 := j173_3; unfold In at a3; omega)) | skip
          refine g_iinc 203 (gd rfl) rfl rfl (Nat.le_of_ble_eq_true rfl) (fun z200 e200 => ?_)
          have i200 := in_add 1 32 e200 i176 (in_c 1 rfl) rfl rfl
          refine g_goto 173 (gd rfl) rfl ?_
          have n173 : 0 ≤ (y173_3).toInt := by have a0 := h2; unfold In at a0; have a1 := h1; unfold In at a1; have a2 := i176; unfold In at a2; have a3 := j173_3; unfold In at a3; have a4 := i200; unfold In at a4; have a5 := t_add e200 i176 (in_c 1 rfl) rfl; have a6 := (in_c 1 rfl); unfold In at a6; omega
          have n173a : (y173_3).toInt + (cM (sc173.1 158) (x1).toNatClampNeg : Int) ≤ (x1).toInt := by first | exact n173q | exact g173_0 | exact g32_0
          have n173b : ∀ k : Nat, (k : Int) < (x1).toInt → (sc173.1 158 k).toInt < (y173_3).toInt := by first | exact g173_1 | exact g32_1 | (intro k hk; rw [sI_q]; exact up_lt (fun c => by have h := g173_1 k hk; have a0 := h2; unfold In at a0; have a1 := h1; unfold In at a1; have a2 := i176; unfold In at a2; have a3 := j173_3; unfold In at a3; have a4 := i200; unfold In at a4; have a5 := t_add e200 i176 (in_c 1 rfl) rfl; have a6 := (in_c 1 rfl); unfold In at a6; omega) (by have a0 := h2; unfold In at a0; have a1 := h1; unfold In at a1; have a2 := i176; unfold In at a2; have a3 := j173_3; unfold In at a3; have a4 := i200; unfold In at a4; have a5 := t_add e200 i176 (in_c 1 rfl) rfl; have a6 := (in_c 1 rfl); unfold In at a6; omega))
          have n173c : ∀ k : Nat, (k : Int) < (z200).toInt → 0 ≤ (sc173.1 158 k).toInt := by first | (intro k hk; exfalso; have h0 : (Int32.ofInt 0).toInt = 0 := rfl; omega) | (intro k hk; have e4 : y173_4.toNatClampNeg = y173_4.toInt.toNat := rfl; first | (by_cases c : (k : Int) < y173_4.toInt; exact g173_2 k c; (rw [show k = y173_4.toNatClampNeg from (by have a0 := h2; unfold In at a0; have a1 := h1; unfold In at a1; have a2 := i176; unfold In at a2; have a3 := j173_3; unfold In at a3; have a4 := i200; unfold In at a4; have a5 := t_add e200 i176 (in_c 1 rfl) rfl; have a6 := (in_c 1 rfl); unfold In at a6; omega), ← e185]; exact c186)) | (rw [sI_q]; unfold upd; by_cases c : k = y173_4.toNatClampNeg; (rw [if_pos c]; have a0 := h2; unfold In at a0; have a1 := h1; unfold In at a1; have a2 := i176; unfold In at a2; have a3 := j173_3; unfold In at a3; have a4 := i200; unfold In at a4; have a5 := t_add e200 i176 (in_c 1 rfl) rfl; have a6 := (in_c 1 rfl); unfold In at a6; omega); (rw [if_neg c]; exact g173_2 k (by have a0 := h2; unfold In at a0; have a1 := h1; unfold In at a1; have a2 := i176; unfold In at a2; have a3 := j173_3; unfold In at a3; have a4 := i200; unfold In at a4; have a5 := t_add e200 i176 (in_c 1 rfl) rfl; have a6 := (in_c 1 rfl); unfold In at a6; omega))))
          exact gg_w (by omega) (gg_f (gf_cons rfl (gf_cons rfl (gf_cons rfl (gf_cons rfl (gf_cons rfl gf_nil))))) (ih173 sc173 y173_3 z200 hIc173 hFc173 (in_w 0 32 j173_3 rfl) (in_w 0 32 i200 rfl) n173 n173a n173b n173c (m_up mm173 (t_add e200 i176 (in_c 1 rfl) rfl) (in_w 1 1 (in_c 1 rfl) rfl))))
        · skip
          have i186 := z_lt (-2147483648) (-1) c186 (i_rng z185) rfl
          refine g_aload_n 190 (gd rfl) rfl rfl ?_
          refine g_getA (q2 := 158) 193 (gd rfl) rfl rfl rfl rfl ?_
          refine g_iload 195 (gd rfl) rfl rfl ?_
          refine g_iload_n 196 (gd rfl) rfl rfl ?_
          refine g_iastore 197 (gd rfl) rfl (n := 32) rfl (in_ix i176 rfl) ?_
          have hI196 := inv_sI (q := 158) (j := y173_4.toNatClampNeg) hIc173 rfl (in_w (-2147483648) 2147483647 j173_3 rfl)
          refine g_iinc 200 (gd rfl) rfl rfl (Nat.le_of_ble_eq_true rfl) (fun z197 e197 => ?_)
          have i197 := in_add 1 33 e197 j173_3 (in_c 1 rfl) rfl rfl
          first | (have n173q : (z197).toInt + (cM ((sI sc173 158 y173_4.toNatClampNeg y173_3).1 158) (x1).toNatClampNeg : Int) ≤ (x1).toInt := (by rw [sI_q]; have hu := up_cm (f := sc173.1 158) (y := y173_4) (b := y173_3) (n := x1.toNatClampNeg) (by rw [← e185]; exact c186) (by have a0 := h2; unfold In at a0; have a1 := h1; unfold In at a1; have a2 := i176; unfold In at a2; have a3 := j173_3; unfold In at a3; have a4 := i197; unfold In at a4; have a5 := t_add e197 j173_3 (in_c 1 rfl) rfl; have a6 := (in_c 1 rfl); unfold In at a6; omega) (by show y173_4.toInt.toNat < x1.toInt.toNat; have a0 := h2; unfold In at a0; have a1 := h1; unfold In at a1; have a2 := i176; unfold In at a2; have a3 := j173_3; unfold In at a3; have a4 := i197; unfold In at a4; have a5 := t_add e197 j173_3 (in_c 1 rfl) rfl; have a6 := (in_c 1 rfl); unfold In at a6; omega); have hc := g173_0; have a0 := h2; unfold In at a0; have a1 := h1; unfold In at a1; have a2 := i176; unfold In at a2; have a3 := j173_3; unfold In at a3; have a4 := i197; unfold In at a4; have a5 := t_add e197 j173_3 (in_c 1 rfl) rfl; have a6 := (in_c 1 rfl); unfold In at a6; omega)) | skip
          refine g_iinc 203 (gd rfl) rfl rfl (Nat.le_of_ble_eq_true rfl) (fun z200 e200 => ?_)
          have i200 := in_add 1 32 e200 i176 (in_c 1 rfl) rfl rfl
          refine g_goto 173 (gd rfl) rfl ?_
          have i173 : In z197 0 32 := by first | (exact ⟨by have a0 := h2; unfold In at a0; have a1 := h1; unfold In at a1; have a2 := i176; unfold In at a2; have a3 := j173_3; unfold In at a3; have a4 := i200; unfold In at a4; have a5 := t_add e200 i176 (in_c 1 rfl) rfl; have a6 := (in_c 1 rfl); unfold In at a6; have a7 := i197; unfold In at a7; have a8 := t_add e197 j173_3 (in_c 1 rfl) rfl; omega, by have a0 := h2; unfold In at a0; have a1 := h1; unfold In at a1; have a2 := i176; unfold In at a2; have a3 := j173_3; unfold In at a3; have a4 := i200; unfold In at a4; have a5 := t_add e200 i176 (in_c 1 rfl) rfl; have a6 := (in_c 1 rfl); unfold In at a6; have a7 := i197; unfold In at a7; have a8 := t_add e197 j173_3 (in_c 1 rfl) rfl; omega⟩) | (have hc := n173q; exact ⟨by have a0 := h2; unfold In at a0; have a1 := h1; unfold In at a1; have a2 := i176; unfold In at a2; have a3 := j173_3; unfold In at a3; have a4 := i200; unfold In at a4; have a5 := t_add e200 i176 (in_c 1 rfl) rfl; have a6 := (in_c 1 rfl); unfold In at a6; have a7 := i197; unfold In at a7; have a8 := t_add e197 j173_3 (in_c 1 rfl) rfl; omega, by have a0 := h2; unfold In at a0; have a1 := h1; unfold In at a1; have a2 := i176; unfold In at a2; have a3 := j173_3; unfold In at a3; have a4 := i200; unfold In at a4; have a5 := t_add e200 i176 (in_c 1 rfl) rfl; have a6 := (in_c 1 rfl); unfold In at a6; have a7 := i197; unfold In at a7; have a8 := t_add e197 j173_3 (in_c 1 rfl) rfl; omega⟩)
          have n173 : 0 ≤ (z197).toInt := by have a0 := h2; unfold In at a0; have a1 := h1; unfold In at a1; have a2 := i176; unfold In at a2; have a3 := j173_3; unfold In at a3; have a4 := i200; unfold In at a4; have a5 := t_add e200 i176 (in_c 1 rfl) rfl; have a6 := (in_c 1 rfl); unfold In at a6; have a7 := i173; unfold In at a7; have a8 := t_add e197 j173_3 (in_c 1 rfl) rfl; omega
          have n173a : (z197).toInt + (cM ((sI sc173 158 y173_4.toNatClampNeg y173_3).1 158) (x1).toNatClampNeg : Int) ≤ (x1).toInt := by first | exact n173q | exact g173_0 | exact g32_0
          have n173b : ∀ k : Nat, (k : Int) < (x1).toInt → ((sI sc173 158 y173_4.toNatClampNeg y173_3).1 158 k).toInt < (z197).toInt := by first | exact g173_1 | exact g32_1 | (intro k hk; rw [sI_q]; exact up_lt (fun c => by have h := g173_1 k hk; have a0 := h2; unfold In at a0; have a1 := h1; unfold In at a1; have a2 := i176; unfold In at a2; have a3 := j173_3; unfold In at a3; have a4 := i200; unfold In at a4; have a5 := t_add e200 i176 (in_c 1 rfl) rfl; have a6 := (in_c 1 rfl); unfold In at a6; have a7 := i173; unfold In at a7; have a8 := t_add e197 j173_3 (in_c 1 rfl) rfl; omega) (by have a0 := h2; unfold In at a0; have a1 := h1; unfold In at a1; have a2 := i176; unfold In at a2; have a3 := j173_3; unfold In at a3; have a4 := i200; unfold In at a4; have a5 := t_add e200 i176 (in_c 1 rfl) rfl; have a6 := (in_c 1 rfl); unfold In at a6; have a7 := i173; unfold In at a7; have a8 := t_add e197 j173_3 (in_c 1 rfl) rfl; omega))
          have n173c : ∀ k : Nat, (k : Int) < (z200).toInt → 0 ≤ ((sI sc173 158 y173_4.toNatClampNeg y173_3).1 158 k).toInt := by first | (intro k hk; exfalso; have h0 : (Int32.ofInt 0).toInt = 0 := rfl; omega) | (intro k hk; have e4 : y173_4.toNatClampNeg = y173_4.toInt.toNat := rfl; first | (by_cases c : (k : Int) < y173_4.toInt; exact g173_2 k c; (rw [show k = y173_4.toNatClampNeg from (by have a0 := h2; unfold In at a0; have a1 := h1; unfold In at a1; have a2 := i176; unfold In at a2; have a3 := j173_3; unfold In at a3; have a4 := i200; unfold In at a4; have a5 := t_add e200 i176 (in_c 1 rfl) rfl; have a6 := (in_c 1 rfl); unfold In at a6; have a7 := i173; unfold In at a7; have a8 := t_add e197 j173_3 (in_c 1 rfl) rfl; omega), ← e185]; exact c186)) | (rw [sI_q]; unfold upd; by_cases c : k = y173_4.toNatClampNeg; (rw [if_pos c]; have a0 := h2; unfold In at a0; have a1 := h1; unfold In at a1; have a2 := i176; unfold In at a2; have a3 := j173_3; unfold In at a3; have a4 := i200; unfold In at a4; have a5 := t_add e200 i176 (in_c 1 rfl) rfl; have a6 := (in_c 1 rfl); unfold In at a6; have a7 := i173; unfold In at a7; have a8 := t_add e197 j173_3 (in_c 1 rfl) rfl; omega); (rw [if_neg c]; exact g173_2 k (by have a0 := h2; unfold In at a0; have a1 := h1; unfold In at a1; have a2 := i176; unfold In at a2; have a3 := j173_3; unfold In at a3; have a4 := i200; unfold In at a4; have a5 := t_add e200 i176 (in_c 1 rfl) rfl; have a6 := (in_c 1 rfl); unfold In at a6; have a7 := i173; unfold In at a7; have a8 := t_add e197 j173_3 (in_c 1 rfl) rfl; omega))))
          exact gg_w (by omega) (gg_f (gf_cons rfl (gf_cons rfl (gf_cons rfl (gf_cons rfl (gf_cons rfl gf_nil))))) (ih173 (sI sc173 158 y173_4.toNatClampNeg y173_3) z197 z200 hI196 (fr_sI rfl hFc173) i173 (in_w 0 32 i200 rfl) n173 n173a n173b n173c (m_up mm173 (t_add e200 i176 (in_c 1 rfl) rfl) (in_w 1 1 (in_c 1 rfl) rfl))))
  have ct32 : ∀ (k32 : Nat) (sc32 : GS) (y32_3 : Int32) (y32_4 : Int32), Inv sc32 → Fr fm_364 s sc32 → (In y32_3 0 32) → (In y32_4 0 32) → (0 ≤ (y32_3).toInt) → ((y32_3).toInt + (cM (sc32.1 158) (x1).toNatClampNeg : Int) ≤ (x1).toInt) → (∀ k : Nat, (k : Int) < (x1).toInt → (sc32.1 158 k).toInt < (y32_3).toInt) → (∀ k : Nat, (k : Int) < (x1).toInt → (sc32.1 159 k).toInt < (y32_4).toInt) → 32 - (y32_4).toInt < (k32 : Int) → GG Z (d - 1) 364 post (gx xp) (29702 + k32 * 63902) 32 (fun j => xlook j [(0, .ref (A 109)), (1, .int x1), (2, .int x2), (3, .int y32_3), (4, .int y32_4)]) [] (WW Z A sc32 ++ ex) 0 0 := by
    intro k32
    induction k32 with
    | zero => intro sc32 y32_3 y32_4 hIc32 hFc32 j32_3 j32_4 n32_0 g32_0 g32_1 g32_2 mm32; exact m_no mm32 j32_4 rfl
    | succ k32 ih32 =>
      intro sc32 y32_3 y32_4 hIc32 hFc32 j32_3 j32_4 n32_0 g32_0 g32_1 g32_2 mm32
      refine gg_w (M := 29702 + k32 * 63902 + 63902) (by omega) ?_
      have ct126 : ∀ (k126 : Nat) (sc126 : GS) (y126_5 : Int32) (y126_6 : Int32), Inv sc126 → Fr fm_364 s sc126 → (In y32_4 0 31) → (In y126_5 0 31) → (In y126_6 0 31) → ((y126_6).toInt < (x1).toInt) → (0 ≤ (y126_6).toInt) → (((y32_3).toInt + (cM (sc126.1 158) (x1).toNatClampNeg : Int) ≤ (x1).toInt ∧ (sc126.1 158 (y126_6).toNatClampNeg).toInt < 0) ∨ (y32_3).toInt + 1 + (cM (sc126.1 158) (x1).toNatClampNeg : Int) ≤ (x1).toInt) → (∀ k : Nat, (k : Int) < (x1).toInt → (sc126.1 158 k).toInt < (y32_3).toInt + 1) → (∀ k : Nat, (k : Int) < (x1).toInt → (sc126.1 159 k).toInt < (y32_4).toInt + 1) → (VD s (sc126.1 159) (x1).toInt (x2).toInt (y32_4).toInt) → ((sc126.1 159 (y126_6).toNatClampNeg).toInt = (y32_4).toInt) → cM (sc126.1 158) (x1).toNatClampNeg < k126 → GG Z (d - 1) 364 post (gx xp) (29702 + k32 * 63902 + 1 + k126 * 900) 126 (fun j => xlook j [(0, .ref (A 109)), (1, .int x1), (2, .int x2), (3, .int y32_3), (4, .int y32_4), (5, .int y126_5), (6, .int y126_6)]) [] (WW Z A sc126 ++ ex) 0 0 := by
        intro k126
        induction k126 with
        | zero => intro sc126 y126_5 y126_6 hIc126 hFc126 j126_4 j126_5 j126_6 n126_0 n126_1 g126_0 g126_1 g126_2 g126_3 g126_4 mm126; exact absurd mm126 (Nat.not_lt_zero _)
        | succ k126 ih126 =>
          intro sc126 y126_5 y126_6 hIc126 hFc126 j126_4 j126_5 j126_6 n126_0 n126_1 g126_0 g126_1 g126_2 g126_3 g126_4 mm126
          refine gg_w (M := 29702 + k32 * 63902 + 1 + k126 * 900 + 900) (by omega) ?_
          refine g_aload_n 127 (gd rfl) rfl rfl ?_
          refine g_getA (q2 := 158) 130 (gd rfl) rfl rfl rfl rfl ?_
          refine g_iload 132 (gd rfl) rfl rfl ?_
          refine g_iaload 133 (gd rfl) rfl (n := 32) rfl (in_ix j126_6 rfl) (fun z132 e132 => ?_)
          refine g_if_ge 136 161 (gd rfl) rfl rfl (fun c133 => ?_) (fun c133 => ?_)
          · skip
            have i133 := z_ge 0 2147483647 c133 (i_rng z132) rfl
            have n126q : (y32_3).toInt + 1 + (cM (sc126.1 158) (x1).toNatClampNeg : Int) ≤ (x1).toInt := (by rcases g126_0 with hg | hg; (exfalso; rw [← e132] at hg; have hz := c133; omega); exact hg)
            refine g_iinc 164 (gd rfl) rfl rfl (Nat.le_of_ble_eq_true rfl) (fun z161 e161 => ?_)
            have i161 := in_add 1 33 e161 j32_3 (in_c 1 rfl) rfl rfl
            refine g_iinc 167 (gd rfl) rfl rfl (Nat.le_of_ble_eq_true rfl) (fun z164 e164 => ?_)
            have i164 := in_add 1 32 e164 j126_4 (in_c 1 rfl) rfl rfl
            refine g_goto 32 (gd rfl) rfl ?_
            have i32 : In z161 0 32 := by first | (exact ⟨by have a0 := j126_4; unfold In at a0; have a1 := j32_3; unfold In at a1; have a2 := h2; unfold In at a2; have a3 := h1; unfold In at a3; have a4 := j126_6; unfold In at a4; have a5 := j126_5; unfold In at a5; have a6 := i164; unfold In at a6; have a7 := t_add e164 j126_4 (in_c 1 rfl) rfl; have a8 := (in_c 1 rfl); unfold In at a8; have a9 := i161; unfold In at a9; have a10 := t_add e161 j32_3 (in_c 1 rfl) rfl; omega, by have a0 := j126_4; unfold In at a0; have a1 := j32_3; unfold In at a1; have a2 := h2; unfold In at a2; have a3 := h1; unfold In at a3; have a4 := j126_6; unfold In at a4; have a5 := j126_5; unfold In at a5; have a6 := i164; unfold In at a6; have a7 := t_add e164 j126_4 (in_c 1 rfl) rfl; have a8 := (in_c 1 rfl); unfold In at a8; have a9 := i161; unfold In at a9; have a10 := t_add e161 j32_3 (in_c 1 rfl) rfl; omega⟩) | (have hc := n126q; exact ⟨by have a0 := j126_4; unfold In at a0; have a1 := j32_3; unfold In at a1; have a2 := h2; unfold In at a2; have a3 := h1; unfold In at a3; have a4 := j126_6; unfold In at a4; have a5 := j126_5; unfold In at a5; have a6 := i164; unfold In at a6; have a7 := t_add e164 j126_4 (in_c 1 rfl) rfl; have a8 := (in_c 1 rfl); unfold In at a8; have a9 := i161; unfold In at a9; have a10 := t_add e161 j32_3 (in_c 1 rfl) rfl; omega, by have a0 := j126_4; unfold In at a0; have a1 := j32_3; unfold In at a1; have a2 := h2; unfold In at a2; have a3 := h1; unfold In at a3; have a4 := j126_6; unfold In at a4; have a5 := j126_5; unfold In at a5; have a6 := i164; unfold In at a6; have a7 := t_add e164 j126_4 (in_c 1 rfl) rfl; have a8 := (in_c 1 rfl); unfold In at a8; have a9 := i161; unfold In at a9; have a10 := t_add e161 j32_3 (in_c 1 rfl) rfl; omega⟩)
            have n32 : 0 ≤ (z161).toInt := by have a0 := j126_4; unfold In at a0; have a1 := j32_3; unfold In at a1; have a2 := h2; unfold In at a2; have a3 := h1; unfold In at a3; have a4 := j126_6; unfold In at a4; have a5 := j126_5; unfold In at a5; have a6 := i164; unfold In at a6; have a7 := t_add e164 j126_4 (in_c 1 rfl) rfl; have a8 := (in_c 1 rfl); unfold In at a8; have a9 := i32; unfold In at a9; have a10 := t_add e161 j32_3 (in_c 1 rfl) rfl; omega
            have n32a : (z161).toInt + (cM (sc126.1 158) (x1).toNatClampNeg : Int) ≤ (x1).toInt := by first | exact g42_0 | (rcases g126_0 with hg | hg; (exfalso; rw [← e132] at hg; have hz := c133; omega); have a0 := j126_4; unfold In at a0; have a1 := j32_3; unfold In at a1; have a2 := h2; unfold In at a2; have a3 := h1; unfold In at a3; have a4 := j126_6; unfold In at a4; have a5 := j126_5; unfold In at a5; have a6 := i164; unfold In at a6; have a7 := t_add e164 j126_4 (in_c 1 rfl) rfl; have a8 := (in_c 1 rfl); unfold In at a8; have a9 := i32; unfold In at a9; have a10 := t_add e161 j32_3 (in_c 1 rfl) rfl; omega) | (have hc := cM_le (sc126.1 158) (x1).toNatClampNeg; have h0 : (Int32.ofInt 0).toInt = 0 := rfl; have hmn : ((x1).toNatClampNeg : Int) = (x1).toInt := (by show (((x1).toInt.toNat : Nat) : Int) = _; have a0 := j126_4; unfold In at a0; have a1 := j32_3; unfold In at a1; have a2 := h2; unfold In at a2; have a3 := h1; unfold In at a3; have a4 := j126_6; unfold In at a4; have a5 := j126_5; unfold In at a5; have a6 := i164; unfold In at a6; have a7 := t_add e164 j126_4 (in_c 1 rfl) rfl; have a8 := (in_c 1 rfl); unfold In at a8; have a9 := i32; unfold In at a9; have a10 := t_add e161 j32_3 (in_c 1 rfl) rfl; omega); omega)
            have n32b : ∀ k : Nat, (k : Int) < (x1).toInt → (sc126.1 158 k).toInt < (z161).toInt := by first | exact g42_1 | (intro k hk; have h := g126_1 k hk; have a0 := j126_4; unfold In at a0; have a1 := j32_3; unfold In at a1; have a2 := h2; unfold In at a2; have a3 := h1; unfold In at a3; have a4 := j126_6; unfold In at a4; have a5 := j126_5; unfold In at a5; have a6 := i164; unfold In at a6; have a7 := t_add e164 j126_4 (in_c 1 rfl) rfl; have a8 := (in_c 1 rfl); unfold In at a8; have a9 := i32; unfold In at a9; have a10 := t_add e161 j32_3 (in_c 1 rfl) rfl; omega) | exact fun k hk => (g2_0 k (by have a0 := j126_4; unfold In at a0; have a1 := j32_3; unfold In at a1; have a2 := h2; unfold In at a2; have a3 := h1; unfold In at a3; have a4 := j126_6; unfold In at a4; have a5 := j126_5; unfold In at a5; have a6 := i164; unfold In at a6; have a7 := t_add e164 j126_4 (in_c 1 rfl) rfl; have a8 := (in_c 1 rfl); unfold In at a8; have a9 := i32; unfold In at a9; have a10 := t_add e161 j32_3 (in_c 1 rfl) rfl; omega)).1
            have n32c : ∀ k : Nat, (k : Int) < (x1).toInt → (sc126.1 159 k).toInt < (z164).toInt := by first | (intro k hk; have h := g42_2 k hk; have a0 := j126_4; unfold In at a0; have a1 := j32_3; unfold In at a1; have a2 := h2; unfold In at a2; have a3 := h1; unfold In at a3; have a4 := j126_6; unfold In at a4; have a5 := j126_5; unfold In at a5; have a6 := i164; unfold In at a6; have a7 := t_add e164 j126_4 (in_c 1 rfl) rfl; have a8 := (in_c 1 rfl); unfold In at a8; have a9 := i32; unfold In at a9; have a10 := t_add e161 j32_3 (in_c 1 rfl) rfl; omega) | (intro k hk; have h := g126_2 k hk; have a0 := j126_4; unfold In at a0; have a1 := j32_3; unfold In at a1; have a2 := h2; unfold In at a2; have a3 := h1; unfold In at a3; have a4 := j126_6; unfold In at a4; have a5 := j126_5; unfold In at a5; have a6 := i164; unfold In at a6; have a7 := t_add e164 j126_4 (in_c 1 rfl) rfl; have a8 := (in_c 1 rfl); unfold In at a8; have a9 := i32; unfold In at a9; have a10 := t_add e161 j32_3 (in_c 1 rfl) rfl; omega) | exact fun k hk => (g2_0 k (by have a0 := j126_4; unfold In at a0; have a1 := j32_3; unfold In at a1; have a2 := h2; unfold In at a2; have a3 := h1; unfold In at a3; have a4 := j126_6; unfold In at a4; have a5 := j126_5; unfold In at a5; have a6 := i164; unfold In at a6; have a7 := t_add e164 j126_4 (in_c 1 rfl) rfl; have a8 := (in_c 1 rfl); unfold In at a8; have a9 := i32; unfold In at a9; have a10 := t_add e161 j32_3 (in_c 1 rfl) rfl; omega)).2
            exact gg_w (by omega) (gg_f (gf_cons rfl (gf_cons rfl (gf_cons rfl (gf_cons rfl (gf_cons rfl gf_nil))))) (ih32 sc126 z161 z164 hIc126 hFc126 i32 (in_w 0 32 i164 rfl) n32 n32a n32b n32c (m_up mm32 (t_add e164 j126_4 (in_c 1 rfl) rfl) (in_w 1 1 (in_c 1 rfl) rfl))))
          · skip
            have i133 := z_lt (-2147483648) (-1) c133 (i_rng z132) rfl
            refine g_aload_n 137 (gd rfl) rfl rfl ?_
            refine g_getA (q2 := 158) 140 (gd rfl) rfl rfl rfl rfl ?_
            refine g_iload 142 (gd rfl) rfl rfl ?_
            refine g_iload_n 143 (gd rfl) rfl rfl ?_
            refine g_iastore 144 (gd rfl) rfl (n := 32) rfl (in_ix j126_6 rfl) ?_
            have hI143 := inv_sI (q := 158) (j := y126_6.toNatClampNeg) hIc126 rfl (in_w (-2147483648) 2147483647 j32_3 rfl)
            refine g_aload_n 145 (gd rfl) rfl rfl ?_
            refine g_getA (q2 := 153) 148 (gd rfl) rfl rfl rfl rfl ?_
            refine g_aload_n 149 (gd rfl) rfl rfl ?_
            refine g_getA (q2 := 157) 152 (gd rfl) rfl rfl rfl rfl ?_
            refine g_iload 154 (gd rfl) rfl rfl ?_
            refine g_iaload 155 (gd rfl) rfl (n := 32) rfl (in_ix j126_6 rfl) (fun z154 e154 => ?_)
            have i154 := inv_I hI143 (n := 32) (t := 0) (-1) 159 rfl (in_ix j126_6 rfl) rfl e154
            have i155 : In z154 0 159 := by have hq := (g126_3 y126_6.toNatClampNeg (by show ((y126_6.toInt.toNat : Nat) : Int) < _; have a0 := j126_4; unfold In at a0; have a1 := j32_3; unfold In at a1; have a2 := h2; unfold In at a2; have a3 := h1; unfold In at a3; have a4 := j126_6; unfold In at a4; have a5 := j126_5; unfold In at a5; omega) g126_4).1; have hne : y126_6.toInt ≠ x2.toInt := (by have e6 : y126_6.toNatClampNeg = y126_6.toInt.toNat := rfl; have a0 := j126_4; unfold In at a0; have a1 := j32_3; unfold In at a1; have a2 := h2; unfold In at a2; have a3 := h1; unfold In at a3; have a4 := j126_6; unfold In at a4; have a5 := j126_5; unfold In at a5; omega); have h := (tp_u (t := (sI sc126 158 y126_6.toNatClampNeg y32_3)) (y := y126_6) (b := z154) (f := y126_6) q_0 (by have a0 := j126_4; unfold In at a0; have a1 := j32_3; unfold In at a1; have a2 := h2; unfold In at a2; have a3 := h1; unfold In at a3; have a4 := j126_6; unfold In at a4; have a5 := j126_5; unfold In at a5; omega) (by have a0 := j126_4; unfold In at a0; have a1 := j32_3; unfold In at a1; have a2 := h2; unfold In at a2; have a3 := h1; unfold In at a3; have a4 := j126_6; unfold In at a4; have a5 := j126_5; unfold In at a5; omega) (by have a0 := j126_4; unfold In at a0; have a1 := j32_3; unfold In at a1; have a2 := h2; unfold In at a2; have a3 := h1; unfold In at a3; have a4 := j126_6; unfold In at a4; have a5 := j126_5; unfold In at a5; omega) e154 ((sI_p rfl).trans (hFc126.1 157 rfl))); exact ⟨h.1, i154.2⟩
            refine g_iaload 156 (gd rfl) rfl (n := 160) rfl (in_ix i155 rfl) (fun z155 e155 => ?_)
            have i155a := inv_I hI143 (n := 160) (t := 0) 0 31 rfl (in_ix i155 rfl) rfl e155
            have hq := g126_3 y126_6.toNatClampNeg (by show ((y126_6.toInt.toNat : Nat) : Int) < _; have a0 := j126_4; unfold In at a0; have a1 := j32_3; unfold In at a1; have a2 := h2; unfold In at a2; have a3 := h1; unfold In at a3; have a4 := j126_6; unfold In at a4; have a5 := j126_5; unfold In at a5; omega) g126_4; have hne : y126_6.toInt ≠ x2.toInt := (by have e6 : y126_6.toNatClampNeg = y126_6.toInt.toNat := rfl; have a0 := j126_4; unfold In at a0; have a1 := j32_3; unfold In at a1; have a2 := h2; unfold In at a2; have a3 := h1; unfold In at a3; have a4 := j126_6; unfold In at a4; have a5 := j126_5; unfold In at a5; omega); have hz88 := ((tp_u (t := (sI sc126 158 y126_6.toNatClampNeg y32_3)) (y := y126_6) (b := z154) (f := z155) q_0 (by have a0 := j126_4; unfold In at a0; have a1 := j32_3; unfold In at a1; have a2 := h2; unfold In at a2; have a3 := h1; unfold In at a3; have a4 := j126_6; unfold In at a4; have a5 := j126_5; unfold In at a5; omega) (by have a0 := j126_4; unfold In at a0; have a1 := j32_3; unfold In at a1; have a2 := h2; unfold In at a2; have a3 := h1; unfold In at a3; have a4 := j126_6; unfold In at a4; have a5 := j126_5; unfold In at a5; omega) (by have a0 := j126_4; unfold In at a0; have a1 := j32_3; unfold In at a1; have a2 := h2; unfold In at a2; have a3 := h1; unfold In at a3; have a4 := j126_6; unfold In at a4; have a5 := j126_5; unfold In at a5; omega) e154 ((sI_p rfl).trans (hFc126.1 157 rfl)))).2 e155 ((sI_p rfl).trans (hFc126.1 153 rfl)); have hz89 : (z155).toInt = (nx s y126_6.toNatClampNeg : Int) := hz88.2 i155a.1; have hy89 := hz88.1; have hx156 := hq.2; have hy156 : z155.toNatClampNeg = nx s y126_6.toNatClampNeg := (by have e6 : z155.toNatClampNeg = z155.toInt.toNat := rfl; omega)
            refine g_istore 158 (gd rfl) rfl (Nat.le_of_ble_eq_true rfl) ?_
            refine g_goto 126 (gd rfl) rfl ?_
            have n126 : (z155).toInt < (x1).toInt := by have a0 := j126_4; unfold In at a0; have a1 := j32_3; unfold In at a1; have a2 := h2; unfold In at a2; have a3 := h1; unfold In at a3; have a4 := j126_6; unfold In at a4; have a5 := j126_5; unfold In at a5; have a6 := i155a; unfold In at a6; omega
            have n126a : 0 ≤ (z155).toInt := by have a0 := j126_4; unfold In at a0; have a1 := j32_3; unfold In at a1; have a2 := h2; unfold In at a2; have a3 := h1; unfold In at a3; have a4 := j126_6; unfold In at a4; have a5 := j126_5; unfold In at a5; have a6 := i155a; unfold In at a6; omega
            have n126b : ((y32_3).toInt + (cM ((sI sc126 158 y126_6.toNatClampNeg y32_3).1 158) (x1).toNatClampNeg : Int) ≤ (x1).toInt ∧ ((sI sc126 158 y126_6.toNatClampNeg y32_3).1 158 (z155).toNatClampNeg).toInt < 0) ∨ (y32_3).toInt + 1 + (cM ((sI sc126 158 y126_6.toNatClampNeg y32_3).1 158) (x1).toNatClampNeg : Int) ≤ (x1).toInt := by first | (right; rw [sI_q]; have hu := up_cm (f := sc126.1 158) (y := y126_6) (b := y32_3) (n := x1.toNatClampNeg) (by rw [← e132]; exact c133) (by have a0 := j126_4; unfold In at a0; have a1 := j32_3; unfold In at a1; have a2 := h2; unfold In at a2; have a3 := h1; unfold In at a3; have a4 := j126_6; unfold In at a4; have a5 := j126_5; unfold In at a5; have a6 := i155a; unfold In at a6; omega) (by show y126_6.toInt.toNat < x1.toInt.toNat; have a0 := j126_4; unfold In at a0; have a1 := j32_3; unfold In at a1; have a2 := h2; unfold In at a2; have a3 := h1; unfold In at a3; have a4 := j126_6; unfold In at a4; have a5 := j126_5; unfold In at a5; have a6 := i155a; unfold In at a6; omega); rcases g126_0 with hg | hg; (have a0 := j126_4; unfold In at a0; have a1 := j32_3; unfold In at a1; have a2 := h2; unfold In at a2; have a3 := h1; unfold In at a3; have a4 := j126_6; unfold In at a4; have a5 := j126_5; unfold In at a5; have a6 := i155a; unfold In at a6; omega); (have a0 := j126_4; unfold In at a0; have a1 := j32_3; unfold In at a1; have a2 := h2; unfold In at a2; have a3 := h1; unfold In at a3; have a4 := j126_6; unfold In at a4; have a5 := j126_5; unfold In at a5; have a6 := i155a; unfold In at a6; omega)) | exact Or.inl ⟨g42_0, by rw [← e106]; exact c107⟩
            have n126c : ∀ k : Nat, (k : Int) < (x1).toInt → ((sI sc126 158 y126_6.toNatClampNeg y32_3).1 158 k).toInt < (y32_3).toInt + 1 := by first | (intro k hk; rw [sI_q]; exact up_lt (fun c => g126_1 k hk) (by have a0 := j126_4; unfold In at a0; have a1 := j32_3; unfold In at a1; have a2 := h2; unfold In at a2; have a3 := h1; unfold In at a3; have a4 := j126_6; unfold In at a4; have a5 := j126_5; unfold In at a5; have a6 := i155a; unfold In at a6; omega)) | (intro k hk; have h := g42_1 k hk; have a0 := j126_4; unfold In at a0; have a1 := j32_3; unfold In at a1; have a2 := h2; unfold In at a2; have a3 := h1; unfold In at a3; have a4 := j126_6; unfold In at a4; have a5 := j126_5; unfold In at a5; have a6 := i155a; unfold In at a6; omega)
            have n126d : ∀ k : Nat, (k : Int) < (x1).toInt → ((sI sc126 158 y126_6.toNatClampNeg y32_3).1 159 k).toInt < (y32_4).toInt + 1 := by first | (rw [sI_p rfl]; exact g126_2) | exact g42_2
            have n126e : VD s ((sI sc126 158 y126_6.toNatClampNeg y32_3).1 159) (x1).toInt (x2).toInt (y32_4).toInt := by first | (rw [sI_p rfl]; exact g126_3) | exact vc_e g42_3 (by have a0 := j126_4; unfold In at a0; have a1 := j32_3; unfold In at a1; have a2 := h2; unfold In at a2; have a3 := h1; unfold In at a3; have a4 := j126_6; unfold In at a4; have a5 := j126_5; unfold In at a5; have a6 := i155a; unfold In at a6; omega) (by rw [← e116]; exact c119)
            have n126f : ((sI sc126 158 y126_6.toNatClampNeg y32_3).1 159 (z155).toNatClampNeg).toInt = (y32_4).toInt := by first | (rw [sI_p rfl, hy156]; exact hx156) | (rw [← e116]; exact c119)
            have m126 : cM ((sI sc126 158 y126_6.toNatClampNeg y32_3).1 158) (x1).toNatClampNeg < k126 := by rw [sI_q]; have hu := up_cm (f := sc126.1 158) (y := y126_6) (b := y32_3) (n := x1.toNatClampNeg) (by rw [← e132]; exact c133) (by have a0 := j126_4; unfold In at a0; have a1 := j32_3; unfold In at a1; have a2 := h2; unfold In at a2; have a3 := h1; unfold In at a3; have a4 := j126_6; unfold In at a4; have a5 := j126_5; unfold In at a5; have a6 := i155a; unfold In at a6; omega) (by show y126_6.toInt.toNat < x1.toInt.toNat; have a0 := j126_4; unfold In at a0; have a1 := j32_3; unfold In at a1; have a2 := h2; unfold In at a2; have a3 := h1; unfold In at a3; have a4 := j126_6; unfold In at a4; have a5 := j126_5; unfold In at a5; have a6 := i155a; unfold In at a6; omega); have hm := mm126; omega
            exact gg_w (by omega) (gg_f (gf_cons rfl (gf_cons rfl (gf_cons rfl (gf_cons rfl (gf_cons rfl (gf_cons rfl (gf_cons rfl gf_nil))))))) (ih126  (sI sc126 158 y126_6.toNatClampNeg y32_3) y126_5 z155 hI143 (fr_sI rfl hFc126) (in_w 0 31 j126_4 rfl) (in_w 0 31 j126_5 rfl) (in_w 0 31 i155a rfl) n126 n126a n126b n126c n126d n126e n126f m126))
      have ct42 : ∀ (k42 : Nat) (sc42 : GS) (y42_5 : Int32), Inv sc42 → Fr fm_364 s sc42 → (In y32_4 0 31) → (In y42_5 0 31) → ((y42_5).toInt < (x1).toInt) → (0 ≤ (y42_5).toInt) → ((y32_3).toInt + (cM (sc42.1 158) (x1).toNatClampNeg : Int) ≤ (x1).toInt) → (∀ k : Nat, (k : Int) < (x1).toInt → (sc42.1 158 k).toInt < (y32_3).toInt) → (∀ k : Nat, (k : Int) < (x1).toInt → (sc42.1 159 k).toInt < (y32_4).toInt + 1) → (VC s (sc42.1 159) (x1).toInt (x2).toInt (y32_4).toInt (y42_5).toInt) → cM (sc42.1 159) (x1).toNatClampNeg < k42 → GG Z (d - 1) 364 post (gx xp) (29702 + k32 * 63902 + 29702 + k42 * 900) 42 (fun j => xlook j [(0, .ref (A 109)), (1, .int x1), (2, .int x2), (3, .int y32_3), (4, .int y32_4), (5, .int y42_5)]) [] (WW Z A sc42 ++ ex) 0 0 := by
        intro k42
        induction k42 with
        | zero => intro sc42 y42_5 hIc42 hFc42 j42_4 j42_5 n42_0 n42_1 g42_0 g42_1 g42_2 g42_3 mm42; exact absurd mm42 (Nat.not_lt_zero _)
        | succ k42 ih42 =>
          intro sc42 y42_5 hIc42 hFc42 j42_4 j42_5 n42_0 n42_1 g42_0 g42_1 g42_2 g42_3 mm42
          refine gg_w (M := 29702 + k32 * 63902 + 29702 + k42 * 900 + 900) (by omega) ?_
          refine g_iload 44 (gd rfl) rfl rfl ?_
          refine g_iload_n 45 (gd rfl) rfl rfl ?_
          refine g_cmp_eq 48 94 (gd rfl) rfl rfl (fun c45 => ?_) (fun c45 => ?_)
          · skip
            refine g_iload 96 (gd rfl) rfl rfl ?_
            refine g_iload_n 97 (gd rfl) rfl rfl ?_
            refine g_cmp_eq 100 164 (gd rfl) rfl rfl (fun c97 => ?_) (fun c97 => ?_)
            · skip
              refine g_iinc 167 (gd rfl) rfl rfl (Nat.le_of_ble_eq_true rfl) (fun z164 e164 => ?_)
              have i164 := in_add 1 32 e164 j42_4 (in_c 1 rfl) rfl rfl
              refine g_goto 32 (gd rfl) rfl ?_
              have n32 : 0 ≤ (y32_3).toInt := by have a0 := j42_4; unfold In at a0; have a1 := j32_3; unfold In at a1; have a2 := h2; unfold In at a2; have a3 := h1; unfold In at a3; have a4 := j42_5; unfold In at a4; have a5 := i164; unfold In at a5; have a6 := t_add e164 j42_4 (in_c 1 rfl) rfl; have a7 := (in_c 1 rfl); unfold In at a7; omega
              have n32a : (y32_3).toInt + (cM (sc42.1 158) (x1).toNatClampNeg : Int) ≤ (x1).toInt := by first | exact g42_0 | (rcases g126_0 with hg | hg; (exfalso; rw [← e132] at hg; have hz := c133; omega); have a0 := j42_4; unfold In at a0; have a1 := j32_3; unfold In at a1; have a2 := h2; unfold In at a2; have a3 := h1; unfold In at a3; have a4 := j42_5; unfold In at a4; have a5 := i164; unfold In at a5; have a6 := t_add e164 j42_4 (in_c 1 rfl) rfl; have a7 := (in_c 1 rfl); unfold In at a7; omega) | (have hc := cM_le (sc42.1 158) (x1).toNatClampNeg; have h0 : (Int32.ofInt 0).toInt = 0 := rfl; have hmn : ((x1).toNatClampNeg : Int) = (x1).toInt := (by show (((x1).toInt.toNat : Nat) : Int) = _; have a0 := j42_4; unfold In at a0; have a1 := j32_3; unfold In at a1; have a2 := h2; unfold In at a2; have a3 := h1; unfold In at a3; have a4 := j42_5; unfold In at a4; have a5 := i164; unfold In at a5; have a6 := t_add e164 j42_4 (in_c 1 rfl) rfl; have a7 := (in_c 1 rfl); unfold In at a7; omega); omega)
              have n32b : ∀ k : Nat, (k : Int) < (x1).toInt → (sc42.1 158 k).toInt < (y32_3).toInt := by first | exact g42_1 | (intro k hk; have h := g126_1 k hk; have a0 := j42_4; unfold In at a0; have a1 := j32_3; unfold In at a1; have a2 := h2; unfold In at a2; have a3 := h1; unfold In at a3; have a4 := j42_5; unfold In at a4; have a5 := i164; unfold In at a5; have a6 := t_add e164 j42_4 (in_c 1 rfl) rfl; have a7 := (in_c 1 rfl); unfold In at a7; omega) | exact fun k hk => (g2_0 k (by have a0 := j42_4; unfold In at a0; have a1 := j32_3; unfold In at a1; have a2 := h2; unfold In at a2; have a3 := h1; unfold In at a3; have a4 := j42_5; unfold In at a4; have a5 := i164; unfold In at a5; have a6 := t_add e164 j42_4 (in_c 1 rfl) rfl; have a7 := (in_c 1 rfl); unfold In at a7; omega)).1
              have n32c : ∀ k : Nat, (k : Int) < (x1).toInt → (sc42.1 159 k).toInt < (z164).toInt := by first | (intro k hk; have h := g42_2 k hk; have a0 := j42_4; unfold In at a0; have a1 := j32_3; unfold In at a1; have a2 := h2; unfold In at a2; have a3 := h1; unfold In at a3; have a4 := j42_5; unfold In at a4; have a5 := i164; unfold In at a5; have a6 := t_add e164 j42_4 (in_c 1 rfl) rfl; have a7 := (in_c 1 rfl); unfold In at a7; omega) | (intro k hk; have h := g126_2 k hk; have a0 := j42_4; unfold In at a0; have a1 := j32_3; unfold In at a1; have a2 := h2; unfold In at a2; have a3 := h1; unfold In at a3; have a4 := j42_5; unfold In at a4; have a5 := i164; unfold In at a5; have a6 := t_add e164 j42_4 (in_c 1 rfl) rfl; have a7 := (in_c 1 rfl); unfold In at a7; omega) | exact fun k hk => (g2_0 k (by have a0 := j42_4; unfold In at a0; have a1 := j32_3; unfold In at a1; have a2 := h2; unfold In at a2; have a3 := h1; unfold In at a3; have a4 := j42_5; unfold In at a4; have a5 := i164; unfold In at a5; have a6 := t_add e164 j42_4 (in_c 1 rfl) rfl; have a7 := (in_c 1 rfl); unfold In at a7; omega)).2
              exact gg_w (by omega) (gg_f (gf_cons rfl (gf_cons rfl (gf_cons rfl (gf_cons rfl (gf_cons rfl gf_nil))))) (ih32 sc42 y32_3 z164 hIc42 hFc42 (in_w 0 32 j32_3 rfl) (in_w 0 32 i164 rfl) n32 n32a n32b n32c (m_up mm32 (t_add e164 j42_4 (in_c 1 rfl) rfl) (in_w 1 1 (in_c 1 rfl) rfl))))
            · skip
              refine g_aload_n 101 (gd rfl) rfl rfl ?_
              refine g_getA (q2 := 158) 104 (gd rfl) rfl rfl rfl rfl ?_
              refine g_iload 106 (gd rfl) rfl rfl ?_
              refine g_iaload 107 (gd rfl) rfl (n := 32) rfl (in_ix j42_5 rfl) (fun z106 e106 => ?_)
              refine g_if_ge 110 164 (gd rfl) rfl rfl (fun c107 => ?_) (fun c107 => ?_)
              · skip
                have i107 := z_ge 0 2147483647 c107 (i_rng z106) rfl
                refine g_iinc 167 (gd rfl) rfl rfl (Nat.le_of_ble_eq_true rfl) (fun z164 e164 => ?_)
                have i164 := in_add 1 32 e164 j42_4 (in_c 1 rfl) rfl rfl
                refine g_goto 32 (gd rfl) rfl ?_
                have n32 : 0 ≤ (y32_3).toInt := by have a0 := j42_4; unfold In at a0; have a1 := j32_3; unfold In at a1; have a2 := h2; unfold In at a2; have a3 := h1; unfold In at a3; have a4 := j42_5; unfold In at a4; have a5 := i164; unfold In at a5; have a6 := t_add e164 j42_4 (in_c 1 rfl) rfl; have a7 := (in_c 1 rfl); unfold In at a7; omega
                have n32a : (y32_3).toInt + (cM (sc42.1 158) (x1).toNatClampNeg : Int) ≤ (x1).toInt := by first | exact g42_0 | (rcases g126_0 with hg | hg; (exfalso; rw [← e132] at hg; have hz := c133; omega); have a0 := j42_4; unfold In at a0; have a1 := j32_3; unfold In at a1; have a2 := h2; unfold In at a2; have a3 := h1; unfold In at a3; have a4 := j42_5; unfold In at a4; have a5 := i164; unfold In at a5; have a6 := t_add e164 j42_4 (in_c 1 rfl) rfl; have a7 := (in_c 1 rfl); unfold In at a7; omega) | (have hc := cM_le (sc42.1 158) (x1).toNatClampNeg; have h0 : (Int32.ofInt 0).toInt = 0 := rfl; have hmn : ((x1).toNatClampNeg : Int) = (x1).toInt := (by show (((x1).toInt.toNat : Nat) : Int) = _; have a0 := j42_4; unfold In at a0; have a1 := j32_3; unfold In at a1; have a2 := h2; unfold In at a2; have a3 := h1; unfold In at a3; have a4 := j42_5; unfold In at a4; have a5 := i164; unfold In at a5; have a6 := t_add e164 j42_4 (in_c 1 rfl) rfl; have a7 := (in_c 1 rfl); unfold In at a7; omega); omega)
                have n32b : ∀ k : Nat, (k : Int) < (x1).toInt → (sc42.1 158 k).toInt < (y32_3).toInt := by first | exact g42_1 | (intro k hk; have h := g126_1 k hk; have a0 := j42_4; unfold In at a0; have a1 := j32_3; unfold In at a1; have a2 := h2; unfold In at a2; have a3 := h1; unfold In at a3; have a4 := j42_5; unfold In at a4; have a5 := i164; unfold In at a5; have a6 := t_add e164 j42_4 (in_c 1 rfl) rfl; have a7 := (in_c 1 rfl); unfold In at a7; omega) | exact fun k hk => (g2_0 k (by have a0 := j42_4; unfold In at a0; have a1 := j32_3; unfold In at a1; have a2 := h2; unfold In at a2; have a3 := h1; unfold In at a3; have a4 := j42_5; unfold In at a4; have a5 := i164; unfold In at a5; have a6 := t_add e164 j42_4 (in_c 1 rfl) rfl; have a7 := (in_c 1 rfl); unfold In at a7; omega)).1
                have n32c : ∀ k : Nat, (k : Int) < (x1).toInt → (sc42.1 159 k).toInt < (z164).toInt := by first | (intro k hk; have h := g42_2 k hk; have a0 := j42_4; unfold In at a0; have a1 := j32_3; unfold In at a1; have a2 := h2; unfold In at a2; have a3 := h1; unfold In at a3; have a4 := j42_5; unfold In at a4; have a5 := i164; unfold In at a5; have a6 := t_add e164 j42_4 (in_c 1 rfl) rfl; have a7 := (in_c 1 rfl); unfold In at a7; omega) | (intro k hk; have h := g126_2 k hk; have a0 := j42_4; unfold In at a0; have a1 := j32_3; unfold In at a1; have a2 := h2; unfold In at a2; have a3 := h1; unfold In at a3; have a4 := j42_5; unfold In at a4; have a5 := i164; unfold In at a5; have a6 := t_add e164 j42_4 (in_c 1 rfl) rfl; have a7 := (in_c 1 rfl); unfold In at a7; omega) | exact fun k hk => (g2_0 k (by have a0 := j42_4; unfold In at a0; have a1 := j32_3; unfold In at a1; have a2 := h2; unfold In at a2; have a3 := h1; unfold In at a3; have a4 := j42_5; unfold In at a4; have a5 := i164; unfold In at a5; have a6 := t_add e164 j42_4 (in_c 1 rfl) rfl; have a7 := (in_c 1 rfl); unfold In at a7; omega)).2
                exact gg_w (by omega) (gg_f (gf_cons rfl (gf_cons rfl (gf_cons rfl (gf_cons rfl (gf_cons rfl gf_nil))))) (ih32 sc42 y32_3 z164 hIc42 hFc42 (in_w 0 32 j32_3 rfl) (in_w 0 32 i164 rfl) n32 n32a n32b n32c (m_up mm32 (t_add e164 j42_4 (in_c 1 rfl) rfl) (in_w 1 1 (in_c 1 rfl) rfl))))
              · skip
                have i107 := z_lt (-2147483648) (-1) c107 (i_rng z106) rfl
                refine g_aload_n 111 (gd rfl) rfl rfl ?_
                refine g_getA (q2 := 159) 114 (gd rfl) rfl rfl rfl rfl ?_
                refine g_iload 116 (gd rfl) rfl rfl ?_
                refine g_iaload 117 (gd rfl) rfl (n := 32) rfl (in_ix j42_5 rfl) (fun z116 e116 => ?_)
                refine g_iload 119 (gd rfl) rfl rfl ?_
                refine g_cmp_ne 122 164 (gd rfl) rfl rfl (fun c119 => ?_) (fun c119 => ?_)
                · skip
                  refine g_iinc 167 (gd rfl) rfl rfl (Nat.le_of_ble_eq_true rfl) (fun z164 e164 => ?_)
                  have i164 := in_add 1 32 e164 j42_4 (in_c 1 rfl) rfl rfl
                  refine g_goto 32 (gd rfl) rfl ?_
                  have n32 : 0 ≤ (y32_3).toInt := by have a0 := j42_4; unfold In at a0; have a1 := j32_3; unfold In at a1; have a2 := h2; unfold In at a2; have a3 := h1; unfold In at a3; have a4 := j42_5; unfold In at a4; have a5 := i164; unfold In at a5; have a6 := t_add e164 j42_4 (in_c 1 rfl) rfl; have a7 := (in_c 1 rfl); unfold In at a7; omega
                  have n32a : (y32_3).toInt + (cM (sc42.1 158) (x1).toNatClampNeg : Int) ≤ (x1).toInt := by first | exact g42_0 | (rcases g126_0 with hg | hg; (exfalso; rw [← e132] at hg; have hz := c133; omega); have a0 := j42_4; unfold In at a0; have a1 := j32_3; unfold In at a1; have a2 := h2; unfold In at a2; have a3 := h1; unfold In at a3; have a4 := j42_5; unfold In at a4; have a5 := i164; unfold In at a5; have a6 := t_add e164 j42_4 (in_c 1 rfl) rfl; have a7 := (in_c 1 rfl); unfold In at a7; omega) | (have hc := cM_le (sc42.1 158) (x1).toNatClampNeg; have h0 : (Int32.ofInt 0).toInt = 0 := rfl; have hmn : ((x1).toNatClampNeg : Int) = (x1).toInt := (by show (((x1).toInt.toNat : Nat) : Int) = _; have a0 := j42_4; unfold In at a0; have a1 := j32_3; unfold In at a1; have a2 := h2; unfold In at a2; have a3 := h1; unfold In at a3; have a4 := j42_5; unfold In at a4; have a5 := i164; unfold In at a5; have a6 := t_add e164 j42_4 (in_c 1 rfl) rfl; have a7 := (in_c 1 rfl); unfold In at a7; omega); omega)
                  have n32b : ∀ k : Nat, (k : Int) < (x1).toInt → (sc42.1 158 k).toInt < (y32_3).toInt := by first | exact g42_1 | (intro k hk; have h := g126_1 k hk; have a0 := j42_4; unfold In at a0; have a1 := j32_3; unfold In at a1; have a2 := h2; unfold In at a2; have a3 := h1; unfold In at a3; have a4 := j42_5; unfold In at a4; have a5 := i164; unfold In at a5; have a6 := t_add e164 j42_4 (in_c 1 rfl) rfl; have a7 := (in_c 1 rfl); unfold In at a7; omega) | exact fun k hk => (g2_0 k (by have a0 := j42_4; unfold In at a0; have a1 := j32_3; unfold In at a1; have a2 := h2; unfold In at a2; have a3 := h1; unfold In at a3; have a4 := j42_5; unfold In at a4; have a5 := i164; unfold In at a5; have a6 := t_add e164 j42_4 (in_c 1 rfl) rfl; have a7 := (in_c 1 rfl); unfold In at a7; omega)).1
                  have n32c : ∀ k : Nat, (k : Int) < (x1).toInt → (sc42.1 159 k).toInt < (z164).toInt := by first | (intro k hk; have h := g42_2 k hk; have a0 := j42_4; unfold In at a0; have a1 := j32_3; unfold In at a1; have a2 := h2; unfold In at a2; have a3 := h1; unfold In at a3; have a4 := j42_5; unfold In at a4; have a5 := i164; unfold In at a5; have a6 := t_add e164 j42_4 (in_c 1 rfl) rfl; have a7 := (in_c 1 rfl); unfold In at a7; omega) | (intro k hk; have h := g126_2 k hk; have a0 := j42_4; unfold In at a0; have a1 := j32_3; unfold In at a1; have a2 := h2; unfold In at a2; have a3 := h1; unfold In at a3; have a4 := j42_5; unfold In at a4; have a5 := i164; unfold In at a5; have a6 := t_add e164 j42_4 (in_c 1 rfl) rfl; have a7 := (in_c 1 rfl); unfold In at a7; omega) | exact fun k hk => (g2_0 k (by have a0 := j42_4; unfold In at a0; have a1 := j32_3; unfold In at a1; have a2 := h2; unfold In at a2; have a3 := h1; unfold In at a3; have a4 := j42_5; unfold In at a4; have a5 := i164; unfold In at a5; have a6 := t_add e164 j42_4 (in_c 1 rfl) rfl; have a7 := (in_c 1 rfl); unfold In at a7; omega)).2
                  exact gg_w (by omega) (gg_f (gf_cons rfl (gf_cons rfl (gf_cons rfl (gf_cons rfl (gf_cons rfl gf_nil))))) (ih32 sc42 y32_3 z164 hIc42 hFc42 (in_w 0 32 j32_3 rfl) (in_w 0 32 i164 rfl) n32 n32a n32b n32c (m_up mm32 (t_add e164 j42_4 (in_c 1 rfl) rfl) (in_w 1 1 (in_c 1 rfl) rfl))))
                · skip
                  have i119 := r_eq1 0 31 c119 (i_rng z116) j42_4 rfl
                  refine g_iload 124 (gd rfl) rfl rfl ?_
                  refine g_istore 126 (gd rfl) rfl (Nat.le_of_ble_eq_true rfl) ?_
                  have n126 : (y42_5).toInt < (x1).toInt := by have a0 := j42_4; unfold In at a0; have a1 := j32_3; unfold In at a1; have a2 := h2; unfold In at a2; have a3 := h1; unfold In at a3; have a4 := j42_5; unfold In at a4; omega
                  have n126a : 0 ≤ (y42_5).toInt := by have a0 := j42_4; unfold In at a0; have a1 := j32_3; unfold In at a1; have a2 := h2; unfold In at a2; have a3 := h1; unfold In at a3; have a4 := j42_5; unfold In at a4; omega
                  have n126b : ((y32_3).toInt + (cM (sc42.1 158) (x1).toNatClampNeg : Int) ≤ (x1).toInt ∧ (sc42.1 158 (y42_5).toNatClampNeg).toInt < 0) ∨ (y32_3).toInt + 1 + (cM (sc42.1 158) (x1).toNatClampNeg : Int) ≤ (x1).toInt := by first | (right; rw [sI_q]; have hu := up_cm (f := sc126.1 158) (y := y126_6) (b := y32_3) (n := x1.toNatClampNeg) (by rw [← e132]; exact c133) (by have a0 := j42_4; unfold In at a0; have a1 := j32_3; unfold In at a1; have a2 := h2; unfold In at a2; have a3 := h1; unfold In at a3; have a4 := j42_5; unfold In at a4; omega) (by show y126_6.toInt.toNat < x1.toInt.toNat; have a0 := j42_4; unfold In at a0; have a1 := j32_3; unfold In at a1; have a2 := h2; unfold In at a2; have a3 := h1; unfold In at a3; have a4 := j42_5; unfold In at a4; omega); rcases g126_0 with hg | hg; (have a0 := j42_4; unfold In at a0; have a1 := j32_3; unfold In at a1; have a2 := h2; unfold In at a2; have a3 := h1; unfold In at a3; have a4 := j42_5; unfold In at a4; omega); (have a0 := j42_4; unfold In at a0; have a1 := j32_3; unfold In at a1; have a2 := h2; unfold In at a2; have a3 := h1; unfold In at a3; have a4 := j42_5; unfold In at a4; omega)) | exact Or.inl ⟨g42_0, by rw [← e106]; exact c107⟩
                  have n126c : ∀ k : Nat, (k : Int) < (x1).toInt → (sc42.1 158 k).toInt < (y32_3).toInt + 1 := by first | (intro k hk; rw [sI_q]; exact up_lt (fun c => g126_1 k hk) (by have a0 := j42_4; unfold In at a0; have a1 := j32_3; unfold In at a1; have a2 := h2; unfold In at a2; have a3 := h1; unfold In at a3; have a4 := j42_5; unfold In at a4; omega)) | (intro k hk; have h := g42_1 k hk; have a0 := j42_4; unfold In at a0; have a1 := j32_3; unfold In at a1; have a2 := h2; unfold In at a2; have a3 := h1; unfold In at a3; have a4 := j42_5; unfold In at a4; omega)
                  have n126d : ∀ k : Nat, (k : Int) < (x1).toInt → (sc42.1 159 k).toInt < (y32_4).toInt + 1 := by first | (rw [sI_p rfl]; exact g126_2) | exact g42_2
                  have n126e : VD s (sc42.1 159) (x1).toInt (x2).toInt (y32_4).toInt := by first | (rw [sI_p rfl]; exact g126_3) | exact vc_e g42_3 (by have a0 := j42_4; unfold In at a0; have a1 := j32_3; unfold In at a1; have a2 := h2; unfold In at a2; have a3 := h1; unfold In at a3; have a4 := j42_5; unfold In at a4; omega) (by rw [← e116]; exact c119)
                  have n126f : (sc42.1 159 (y42_5).toNatClampNeg).toInt = (y32_4).toInt := by first | (rw [sI_p rfl, hy156]; exact hx156) | (rw [← e116]; exact c119)
                  have m126 : cM (sc42.1 158) (x1).toNatClampNeg < 33 := by have hc := cM_le (sc42.1 158) (x1).toNatClampNeg; have hmn : x1.toNatClampNeg = x1.toInt.toNat := rfl; have a0 := j42_4; unfold In at a0; have a1 := j32_3; unfold In at a1; have a2 := h2; unfold In at a2; have a3 := h1; unfold In at a3; have a4 := j42_5; unfold In at a4; omega
                  exact gg_w (by omega) (gg_f (gf_cons rfl (gf_cons rfl (gf_cons rfl (gf_cons rfl (gf_cons rfl (gf_cons rfl (gf_cons rfl gf_nil))))))) (ct126 (33) sc42 y42_5 y42_5 hIc42 hFc42 (in_w 0 31 j42_4 rfl) (in_w 0 31 j42_5 rfl) (in_w 0 31 j42_5 rfl) n126 n126a n126b n126c n126d n126e n126f m126))
          · skip
            refine g_aload_n 49 (gd rfl) rfl rfl ?_
            refine g_getA (q2 := 159) 52 (gd rfl) rfl rfl rfl rfl ?_
            refine g_iload 54 (gd rfl) rfl rfl ?_
            refine g_iaload 55 (gd rfl) rfl (n := 32) rfl (in_ix j42_5 rfl) (fun z54 e54 => ?_)
            refine g_if_ge 58 94 (gd rfl) rfl rfl (fun c55 => ?_) (fun c55 => ?_)
            · skip
              have i55 := z_ge 0 2147483647 c55 (i_rng z54) rfl
              refine g_iload 96 (gd rfl) rfl rfl ?_
              refine g_iload_n 97 (gd rfl) rfl rfl ?_
              refine g_cmp_eq 100 164 (gd rfl) rfl rfl (fun c97 => ?_) (fun c97 => ?_)
              · skip
                refine g_iinc 167 (gd rfl) rfl rfl (Nat.le_of_ble_eq_true rfl) (fun z164 e164 => ?_)
                have i164 := in_add 1 32 e164 j42_4 (in_c 1 rfl) rfl rfl
                refine g_goto 32 (gd rfl) rfl ?_
                have n32 : 0 ≤ (y32_3).toInt := by have a0 := j42_4; unfold In at a0; have a1 := j32_3; unfold In at a1; have a2 := h2; unfold In at a2; have a3 := h1; unfold In at a3; have a4 := j42_5; unfold In at a4; have a5 := i164; unfold In at a5; have a6 := t_add e164 j42_4 (in_c 1 rfl) rfl; have a7 := (in_c 1 rfl); unfold In at a7; omega
                have n32a : (y32_3).toInt + (cM (sc42.1 158) (x1).toNatClampNeg : Int) ≤ (x1).toInt := by first | exact g42_0 | (rcases g126_0 with hg | hg; (exfalso; rw [← e132] at hg; have hz := c133; omega); have a0 := j42_4; unfold In at a0; have a1 := j32_3; unfold In at a1; have a2 := h2; unfold In at a2; have a3 := h1; unfold In at a3; have a4 := j42_5; unfold In at a4; have a5 := i164; unfold In at a5; have a6 := t_add e164 j42_4 (in_c 1 rfl) rfl; have a7 := (in_c 1 rfl); unfold In at a7; omega) | (have hc := cM_le (sc42.1 158) (x1).toNatClampNeg; have h0 : (Int32.ofInt 0).toInt = 0 := rfl; have hmn : ((x1).toNatClampNeg : Int) = (x1).toInt := (by show (((x1).toInt.toNat : Nat) : Int) = _; have a0 := j42_4; unfold In at a0; have a1 := j32_3; unfold In at a1; have a2 := h2; unfold In at a2; have a3 := h1; unfold In at a3; have a4 := j42_5; unfold In at a4; have a5 := i164; unfold In at a5; have a6 := t_add e164 j42_4 (in_c 1 rfl) rfl; have a7 := (in_c 1 rfl); unfold In at a7; omega); omega)
                have n32b : ∀ k : Nat, (k : Int) < (x1).toInt → (sc42.1 158 k).toInt < (y32_3).toInt := by first | exact g42_1 | (intro k hk; have h := g126_1 k hk; have a0 := j42_4; unfold In at a0; have a1 := j32_3; unfold In at a1; have a2 := h2; unfold In at a2; have a3 := h1; unfold In at a3; have a4 := j42_5; unfold In at a4; have a5 := i164; unfold In at a5; have a6 := t_add e164 j42_4 (in_c 1 rfl) rfl; have a7 := (in_c 1 rfl); unfold In at a7; omega) | exact fun k hk => (g2_0 k (by have a0 := j42_4; unfold In at a0; have a1 := j32_3; unfold In at a1; have a2 := h2; unfold In at a2; have a3 := h1; unfold In at a3; have a4 := j42_5; unfold In at a4; have a5 := i164; unfold In at a5; have a6 := t_add e164 j42_4 (in_c 1 rfl) rfl; have a7 := (in_c 1 rfl); unfold In at a7; omega)).1
                have n32c : ∀ k : Nat, (k : Int) < (x1).toInt → (sc42.1 159 k).toInt < (z164).toInt := by first | (intro k hk; have h := g42_2 k hk; have a0 := j42_4; unfold In at a0; have a1 := j32_3; unfold In at a1; have a2 := h2; unfold In at a2; have a3 := h1; unfold In at a3; have a4 := j42_5; unfold In at a4; have a5 := i164; unfold In at a5; have a6 := t_add e164 j42_4 (in_c 1 rfl) rfl; have a7 := (in_c 1 rfl); unfold In at a7; omega) | (intro k hk; have h := g126_2 k hk; have a0 := j42_4; unfold In at a0; have a1 := j32_3; unfold In at a1; have a2 := h2; unfold In at a2; have a3 := h1; unfold In at a3; have a4 := j42_5; unfold In at a4; have a5 := i164; unfold In at a5; have a6 := t_add e164 j42_4 (in_c 1 rfl) rfl; have a7 := (in_c 1 rfl); unfold In at a7; omega) | exact fun k hk => (g2_0 k (by have a0 := j42_4; unfold In at a0; have a1 := j32_3; unfold In at a1; have a2 := h2; unfold In at a2; have a3 := h1; unfold In at a3; have a4 := j42_5; unfold In at a4; have a5 := i164; unfold In at a5; have a6 := t_add e164 j42_4 (in_c 1 rfl) rfl; have a7 := (in_c 1 rfl); unfold In at a7; omega)).2
                exact gg_w (by omega) (gg_f (gf_cons rfl (gf_cons rfl (gf_cons rfl (gf_cons rfl (gf_cons rfl gf_nil))))) (ih32 sc42 y32_3 z164 hIc42 hFc42 (in_w 0 32 j32_3 rfl) (in_w 0 32 i164 rfl) n32 n32a n32b n32c (m_up mm32 (t_add e164 j42_4 (in_c 1 rfl) rfl) (in_w 1 1 (in_c 1 rfl) rfl))))
              · skip
                refine g_aload_n 101 (gd rfl) rfl rfl ?_
                refine g_getA (q2 := 158) 104 (gd rfl) rfl rfl rfl rfl ?_
                refine g_iload 106 (gd rfl) rfl rfl ?_
                refine g_iaload 107 (gd rfl) rfl (n := 32) rfl (in_ix j42_5 rfl) (fun z106 e106 => ?_)
                refine g_if_ge 110 164 (gd rfl) rfl rfl (fun c107 => ?_) (fun c107 => ?_)
                · skip
                  have i107 := z_ge 0 2147483647 c107 (i_rng z106) rfl
                  refine g_iinc 167 (gd rfl) rfl rfl (Nat.le_of_ble_eq_true rfl) (fun z164 e164 => ?_)
                  have i164 := in_add 1 32 e164 j42_4 (in_c 1 rfl) rfl rfl
                  refine g_goto 32 (gd rfl) rfl ?_
                  have n32 : 0 ≤ (y32_3).toInt := by have a0 := j42_4; unfold In at a0; have a1 := j32_3; unfold In at a1; have a2 := h2; unfold In at a2; have a3 := h1; unfold In at a3; have a4 := j42_5; unfold In at a4; have a5 := i164; unfold In at a5; have a6 := t_add e164 j42_4 (in_c 1 rfl) rfl; have a7 := (in_c 1 rfl); unfold In at a7; omega
                  have n32a : (y32_3).toInt + (cM (sc42.1 158) (x1).toNatClampNeg : Int) ≤ (x1).toInt := by first | exact g42_0 | (rcases g126_0 with hg | hg; (exfalso; rw [← e132] at hg; have hz := c133; omega); have a0 := j42_4; unfold In at a0; have a1 := j32_3; unfold In at a1; have a2 := h2; unfold In at a2; have a3 := h1; unfold In at a3; have a4 := j42_5; unfold In at a4; have a5 := i164; unfold In at a5; have a6 := t_add e164 j42_4 (in_c 1 rfl) rfl; have a7 := (in_c 1 rfl); unfold In at a7; omega) | (have hc := cM_le (sc42.1 158) (x1).toNatClampNeg; have h0 : (Int32.ofInt 0).toInt = 0 := rfl; have hmn : ((x1).toNatClampNeg : Int) = (x1).toInt := (by show (((x1).toInt.toNat : Nat) : Int) = _; have a0 := j42_4; unfold In at a0; have a1 := j32_3; unfold In at a1; have a2 := h2; unfold In at a2; have a3 := h1; unfold In at a3; have a4 := j42_5; unfold In at a4; have a5 := i164; unfold In at a5; have a6 := t_add e164 j42_4 (in_c 1 rfl) rfl; have a7 := (in_c 1 rfl); unfold In at a7; omega); omega)
                  have n32b : ∀ k : Nat, (k : Int) < (x1).toInt → (sc42.1 158 k).toInt < (y32_3).toInt := by first | exact g42_1 | (intro k hk; have h := g126_1 k hk; have a0 := j42_4; unfold In at a0; have a1 := j32_3; unfold In at a1; have a2 := h2; unfold In at a2; have a3 := h1; unfold In at a3; have a4 := j42_5; unfold In at a4; have a5 := i164; unfold In at a5; have a6 := t_add e164 j42_4 (in_c 1 rfl) rfl; have a7 := (in_c 1 rfl); unfold In at a7; omega) | exact fun k hk => (g2_0 k (by have a0 := j42_4; unfold In at a0; have a1 := j32_3; unfold In at a1; have a2 := h2; unfold In at a2; have a3 := h1; unfold In at a3; have a4 := j42_5; unfold In at a4; have a5 := i164; unfold In at a5; have a6 := t_add e164 j42_4 (in_c 1 rfl) rfl; have a7 := (in_c 1 rfl); unfold In at a7; omega)).1
                  have n32c : ∀ k : Nat, (k : Int) < (x1).toInt → (sc42.1 159 k).toInt < (z164).toInt := by first | (intro k hk; have h := g42_2 k hk; have a0 := j42_4; unfold In at a0; have a1 := j32_3; unfold In at a1; have a2 := h2; unfold In at a2; have a3 := h1; unfold In at a3; have a4 := j42_5; unfold In at a4; have a5 := i164; unfold In at a5; have a6 := t_add e164 j42_4 (in_c 1 rfl) rfl; have a7 := (in_c 1 rfl); unfold In at a7; omega) | (intro k hk; have h := g126_2 k hk; have a0 := j42_4; unfold In at a0; have a1 := j32_3; unfold In at a1; have a2 := h2; unfold In at a2; have a3 := h1; unfold In at a3; have a4 := j42_5; unfold In at a4; have a5 := i164; unfold In at a5; have a6 := t_add e164 j42_4 (in_c 1 rfl) rfl; have a7 := (in_c 1 rfl); unfold In at a7; omega) | exact fun k hk => (g2_0 k (by have a0 := j42_4; unfold In at a0; have a1 := j32_3; unfold In at a1; have a2 := h2; unfold In at a2; have a3 := h1; unfold In at a3; have a4 := j42_5; unfold In at a4; have a5 := i164; unfold In at a5; have a6 := t_add e164 j42_4 (in_c 1 rfl) rfl; have a7 := (in_c 1 rfl); unfold In at a7; omega)).2
                  exact gg_w (by omega) (gg_f (gf_cons rfl (gf_cons rfl (gf_cons rfl (gf_cons rfl (gf_cons rfl gf_nil))))) (ih32 sc42 y32_3 z164 hIc42 hFc42 (in_w 0 32 j32_3 rfl) (in_w 0 32 i164 rfl) n32 n32a n32b n32c (m_up mm32 (t_add e164 j42_4 (in_c 1 rfl) rfl) (in_w 1 1 (in_c 1 rfl) rfl))))
                · skip
                  have i107 := z_lt (-2147483648) (-1) c107 (i_rng z106) rfl
                  refine g_aload_n 111 (gd rfl) rfl rfl ?_
                  refine g_getA (q2 := 159) 114 (gd rfl) rfl rfl rfl rfl ?_
                  refine g_iload 116 (gd rfl) rfl rfl ?_
                  refine g_iaload 117 (gd rfl) rfl (n := 32) rfl (in_ix j42_5 rfl) (fun z116 e116 => ?_)
                  have q116 : z54 = z116 := (e54).trans e116.symm
                  subst q116
                  refine g_iload 119 (gd rfl) rfl rfl ?_
                  refine g_cmp_ne 122 164 (gd rfl) rfl rfl (fun c119 => ?_) (fun c119 => ?_)
                  · skip
                    refine g_iinc 167 (gd rfl) rfl rfl (Nat.le_of_ble_eq_true rfl) (fun z164 e164 => ?_)
                    have i164 := in_add 1 32 e164 j42_4 (in_c 1 rfl) rfl rfl
                    refine g_goto 32 (gd rfl) rfl ?_
                    have n32 : 0 ≤ (y32_3).toInt := by have a0 := j42_4; unfold In at a0; have a1 := j32_3; unfold In at a1; have a2 := h2; unfold In at a2; have a3 := h1; unfold In at a3; have a4 := j42_5; unfold In at a4; have a5 := i164; unfold In at a5; have a6 := t_add e164 j42_4 (in_c 1 rfl) rfl; have a7 := (in_c 1 rfl); unfold In at a7; omega
                    have n32a : (y32_3).toInt + (cM (sc42.1 158) (x1).toNatClampNeg : Int) ≤ (x1).toInt := by first | exact g42_0 | (rcases g126_0 with hg | hg; (exfalso; rw [← e132] at hg; have hz := c133; omega); have a0 := j42_4; unfold In at a0; have a1 := j32_3; unfold In at a1; have a2 := h2; unfold In at a2; have a3 := h1; unfold In at a3; have a4 := j42_5; unfold In at a4; have a5 := i164; unfold In at a5; have a6 := t_add e164 j42_4 (in_c 1 rfl) rfl; have a7 := (in_c 1 rfl); unfold In at a7; omega) | (have hc := cM_le (sc42.1 158) (x1).toNatClampNeg; have h0 : (Int32.ofInt 0).toInt = 0 := rfl; have hmn : ((x1).toNatClampNeg : Int) = (x1).toInt := (by show (((x1).toInt.toNat : Nat) : Int) = _; have a0 := j42_4; unfold In at a0; have a1 := j32_3; unfold In at a1; have a2 := h2; unfold In at a2; have a3 := h1; unfold In at a3; have a4 := j42_5; unfold In at a4; have a5 := i164; unfold In at a5; have a6 := t_add e164 j42_4 (in_c 1 rfl) rfl; have a7 := (in_c 1 rfl); unfold In at a7; omega); omega)
                    have n32b : ∀ k : Nat, (k : Int) < (x1).toInt → (sc42.1 158 k).toInt < (y32_3).toInt := by first | exact g42_1 | (intro k hk; have h := g126_1 k hk; have a0 := j42_4; unfold In at a0; have a1 := j32_3; unfold In at a1; have a2 := h2; unfold In at a2; have a3 := h1; unfold In at a3; have a4 := j42_5; unfold In at a4; have a5 := i164; unfold In at a5; have a6 := t_add e164 j42_4 (in_c 1 rfl) rfl; have a7 := (in_c 1 rfl); unfold In at a7; omega) | exact fun k hk => (g2_0 k (by have a0 := j42_4; unfold In at a0; have a1 := j32_3; unfold In at a1; have a2 := h2; unfold In at a2; have a3 := h1; unfold In at a3; have a4 := j42_5; unfold In at a4; have a5 := i164; unfold In at a5; have a6 := t_add e164 j42_4 (in_c 1 rfl) rfl; have a7 := (in_c 1 rfl); unfold In at a7; omega)).1
                    have n32c : ∀ k : Nat, (k : Int) < (x1).toInt → (sc42.1 159 k).toInt < (z164).toInt := by first | (intro k hk; have h := g42_2 k hk; have a0 := j42_4; unfold In at a0; have a1 := j32_3; unfold In at a1; have a2 := h2; unfold In at a2; have a3 := h1; unfold In at a3; have a4 := j42_5; unfold In at a4; have a5 := i164; unfold In at a5; have a6 := t_add e164 j42_4 (in_c 1 rfl) rfl; have a7 := (in_c 1 rfl); unfold In at a7; omega) | (intro k hk; have h := g126_2 k hk; have a0 := j42_4; unfold In at a0; have a1 := j32_3; unfold In at a1; have a2 := h2; unfold In at a2; have a3 := h1; unfold In at a3; have a4 := j42_5; unfold In at a4; have a5 := i164; unfold In at a5; have a6 := t_add e164 j42_4 (in_c 1 rfl) rfl; have a7 := (in_c 1 rfl); unfold In at a7; omega) | exact fun k hk => (g2_0 k (by have a0 := j42_4; unfold In at a0; have a1 := j32_3; unfold In at a1; have a2 := h2; unfold In at a2; have a3 := h1; unfold In at a3; have a4 := j42_5; unfold In at a4; have a5 := i164; unfold In at a5; have a6 := t_add e164 j42_4 (in_c 1 rfl) rfl; have a7 := (in_c 1 rfl); unfold In at a7; omega)).2
                    exact gg_w (by omega) (gg_f (gf_cons rfl (gf_cons rfl (gf_cons rfl (gf_cons rfl (gf_cons rfl gf_nil))))) (ih32 sc42 y32_3 z164 hIc42 hFc42 (in_w 0 32 j32_3 rfl) (in_w 0 32 i164 rfl) n32 n32a n32b n32c (m_up mm32 (t_add e164 j42_4 (in_c 1 rfl) rfl) (in_w 1 1 (in_c 1 rfl) rfl))))
                  · skip
                    have i119 := r_eq1 0 31 c119 i55 j42_4 rfl
                    refine g_iload 124 (gd rfl) rfl rfl ?_
                    refine g_istore 126 (gd rfl) rfl (Nat.le_of_ble_eq_true rfl) ?_
                    have n126 : (y42_5).toInt < (x1).toInt := by have a0 := j42_4; unfold In at a0; have a1 := j32_3; unfold In at a1; have a2 := h2; unfold In at a2; have a3 := h1; unfold In at a3; have a4 := j42_5; unfold In at a4; omega
                    have n126a : 0 ≤ (y42_5).toInt := by have a0 := j42_4; unfold In at a0; have a1 := j32_3; unfold In at a1; have a2 := h2; unfold In at a2; have a3 := h1; unfold In at a3; have a4 := j42_5; unfold In at a4; omega
                    have n126b : ((y32_3).toInt + (cM (sc42.1 158) (x1).toNatClampNeg : Int) ≤ (x1).toInt ∧ (sc42.1 158 (y42_5).toNatClampNeg).toInt < 0) ∨ (y32_3).toInt + 1 + (cM (sc42.1 158) (x1).toNatClampNeg : Int) ≤ (x1).toInt := by first | (right; rw [sI_q]; have hu := up_cm (f := sc126.1 158) (y := y126_6) (b := y32_3) (n := x1.toNatClampNeg) (by rw [← e132]; exact c133) (by have a0 := j42_4; unfold In at a0; have a1 := j32_3; unfold In at a1; have a2 := h2; unfold In at a2; have a3 := h1; unfold In at a3; have a4 := j42_5; unfold In at a4; omega) (by show y126_6.toInt.toNat < x1.toInt.toNat; have a0 := j42_4; unfold In at a0; have a1 := j32_3; unfold In at a1; have a2 := h2; unfold In at a2; have a3 := h1; unfold In at a3; have a4 := j42_5; unfold In at a4; omega); rcases g126_0 with hg | hg; (have a0 := j42_4; unfold In at a0; have a1 := j32_3; unfold In at a1; have a2 := h2; unfold In at a2; have a3 := h1; unfold In at a3; have a4 := j42_5; unfold In at a4; omega); (have a0 := j42_4; unfold In at a0; have a1 := j32_3; unfold In at a1; have a2 := h2; unfold In at a2; have a3 := h1; unfold In at a3; have a4 := j42_5; unfold In at a4; omega)) | exact Or.inl ⟨g42_0, by rw [← e106]; exact c107⟩
                    have n126c : ∀ k : Nat, (k : Int) < (x1).toInt → (sc42.1 158 k).toInt < (y32_3).toInt + 1 := by first | (intro k hk; rw [sI_q]; exact up_lt (fun c => g126_1 k hk) (by have a0 := j42_4; unfold In at a0; have a1 := j32_3; unfold In at a1; have a2 := h2; unfold In at a2; have a3 := h1; unfold In at a3; have a4 := j42_5; unfold In at a4; omega)) | (intro k hk; have h := g42_1 k hk; have a0 := j42_4; unfold In at a0; have a1 := j32_3; unfold In at a1; have a2 := h2; unfold In at a2; have a3 := h1; unfold In at a3; have a4 := j42_5; unfold In at a4; omega)
                    have n126d : ∀ k : Nat, (k : Int) < (x1).toInt → (sc42.1 159 k).toInt < (y32_4).toInt + 1 := by first | (rw [sI_p rfl]; exact g126_2) | exact g42_2
                    have n126e : VD s (sc42.1 159) (x1).toInt (x2).toInt (y32_4).toInt := by first | (rw [sI_p rfl]; exact g126_3) | exact vc_e g42_3 (by have a0 := j42_4; unfold In at a0; have a1 := j32_3; unfold In at a1; have a2 := h2; unfold In at a2; have a3 := h1; unfold In at a3; have a4 := j42_5; unfold In at a4; omega) (by rw [← e116]; exact c119)
                    have n126f : (sc42.1 159 (y42_5).toNatClampNeg).toInt = (y32_4).toInt := by first | (rw [sI_p rfl, hy156]; exact hx156) | (rw [← e116]; exact c119)
                    have m126 : cM (sc42.1 158) (x1).toNatClampNeg < 33 := by have hc := cM_le (sc42.1 158) (x1).toNatClampNeg; have hmn : x1.toNatClampNeg = x1.toInt.toNat := rfl; have a0 := j42_4; unfold In at a0; have a1 := j32_3; unfold In at a1; have a2 := h2; unfold In at a2; have a3 := h1; unfold In at a3; have a4 := j42_5; unfold In at a4; omega
                    exact gg_w (by omega) (gg_f (gf_cons rfl (gf_cons rfl (gf_cons rfl (gf_cons rfl (gf_cons rfl (gf_cons rfl (gf_cons rfl gf_nil))))))) (ct126 (33) sc42 y42_5 y42_5 hIc42 hFc42 (in_w 0 31 j42_4 rfl) (in_w 0 31 j42_5 rfl) (in_w 0 31 j42_5 rfl) n126 n126a n126b n126c n126d n126e n126f m126))
            · skip
              have i55 := z_lt (-2147483648) (-1) c55 (i_rng z54) rfl
              refine g_aload_n 59 (gd rfl) rfl rfl ?_
              refine g_getA (q2 := 158) 62 (gd rfl) rfl rfl rfl rfl ?_
              refine g_iload 64 (gd rfl) rfl rfl ?_
              refine g_iaload 65 (gd rfl) rfl (n := 32) rfl (in_ix j42_5 rfl) (fun z64 e64 => ?_)
              refine g_if_ge 68 94 (gd rfl) rfl rfl (fun c65 => ?_) (fun c65 => ?_)
              · skip
                have i65 := z_ge 0 2147483647 c65 (i_rng z64) rfl
                refine g_iload 96 (gd rfl) rfl rfl ?_
                refine g_iload_n 97 (gd rfl) rfl rfl ?_
                refine g_cmp_eq 100 164 (gd rfl) rfl rfl (fun c97 => ?_) (fun c97 => ?_)
                · skip
                  refine g_iinc 167 (gd rfl) rfl rfl (Nat.le_of_ble_eq_true rfl) (fun z164 e164 => ?_)
                  have i164 := in_add 1 32 e164 j42_4 (in_c 1 rfl) rfl rfl
                  refine g_goto 32 (gd rfl) rfl ?_
                  have n32 : 0 ≤ (y32_3).toInt := by have a0 := j42_4; unfold In at a0; have a1 := j32_3; unfold In at a1; have a2 := h2; unfold In at a2; have a3 := h1; unfold In at a3; have a4 := j42_5; unfold In at a4; have a5 := i164; unfold In at a5; have a6 := t_add e164 j42_4 (in_c 1 rfl) rfl; have a7 := (in_c 1 rfl); unfold In at a7; omega
                  have n32a : (y32_3).toInt + (cM (sc42.1 158) (x1).toNatClampNeg : Int) ≤ (x1).toInt := by first | exact g42_0 | (rcases g126_0 with hg | hg; (exfalso; rw [← e132] at hg; have hz := c133; omega); have a0 := j42_4; unfold In at a0; have a1 := j32_3; unfold In at a1; have a2 := h2; unfold In at a2; have a3 := h1; unfold In at a3; have a4 := j42_5; unfold In at a4; have a5 := i164; unfold In at a5; have a6 := t_add e164 j42_4 (in_c 1 rfl) rfl; have a7 := (in_c 1 rfl); unfold In at a7; omega) | (have hc := cM_le (sc42.1 158) (x1).toNatClampNeg; have h0 : (Int32.ofInt 0).toInt = 0 := rfl; have hmn : ((x1).toNatClampNeg : Int) = (x1).toInt := (by show (((x1).toInt.toNat : Nat) : Int) = _; have a0 := j42_4; unfold In at a0; have a1 := j32_3; unfold In at a1; have a2 := h2; unfold In at a2; have a3 := h1; unfold In at a3; have a4 := j42_5; unfold In at a4; have a5 := i164; unfold In at a5; have a6 := t_add e164 j42_4 (in_c 1 rfl) rfl; have a7 := (in_c 1 rfl); unfold In at a7; omega); omega)
                  have n32b : ∀ k : Nat, (k : Int) < (x1).toInt → (sc42.1 158 k).toInt < (y32_3).toInt := by first | exact g42_1 | (intro k hk; have h := g126_1 k hk; have a0 := j42_4; unfold In at a0; have a1 := j32_3; unfold In at a1; have a2 := h2; unfold In at a2; have a3 := h1; unfold In at a3; have a4 := j42_5; unfold In at a4; have a5 := i164; unfold In at a5; have a6 := t_add e164 j42_4 (in_c 1 rfl) rfl; have a7 := (in_c 1 rfl); unfold In at a7; omega) | exact fun k hk => (g2_0 k (by have a0 := j42_4; unfold In at a0; have a1 := j32_3; unfold In at a1; have a2 := h2; unfold In at a2; have a3 := h1; unfold In at a3; have a4 := j42_5; unfold In at a4; have a5 := i164; unfold In at a5; have a6 := t_add e164 j42_4 (in_c 1 rfl) rfl; have a7 := (in_c 1 rfl); unfold In at a7; omega)).1
                  have n32c : ∀ k : Nat, (k : Int) < (x1).toInt → (sc42.1 159 k).toInt < (z164).toInt := by first | (intro k hk; have h := g42_2 k hk; have a0 := j42_4; unfold In at a0; have a1 := j32_3; unfold In at a1; have a2 := h2; unfold In at a2; have a3 := h1; unfold In at a3; have a4 := j42_5; unfold In at a4; have a5 := i164; unfold In at a5; have a6 := t_add e164 j42_4 (in_c 1 rfl) rfl; have a7 := (in_c 1 rfl); unfold In at a7; omega) | (intro k hk; have h := g126_2 k hk; have a0 := j42_4; unfold In at a0; have a1 := j32_3; unfold In at a1; have a2 := h2; unfold In at a2; have a3 := h1; unfold In at a3; have a4 := j42_5; unfold In at a4; have a5 := i164; unfold In at a5; have a6 := t_add e164 j42_4 (in_c 1 rfl) rfl; have a7 := (in_c 1 rfl); unfold In at a7; omega) | exact fun k hk => (g2_0 k (by have a0 := j42_4; unfold In at a0; have a1 := j32_3; unfold In at a1; have a2 := h2; unfold In at a2; have a3 := h1; unfold In at a3; have a4 := j42_5; unfold In at a4; have a5 := i164; unfold In at a5; have a6 := t_add e164 j42_4 (in_c 1 rfl) rfl; have a7 := (in_c 1 rfl); unfold In at a7; omega)).2
                  exact gg_w (by omega) (gg_f (gf_cons rfl (gf_cons rfl (gf_cons rfl (gf_cons rfl (gf_cons rfl gf_nil))))) (ih32 sc42 y32_3 z164 hIc42 hFc42 (in_w 0 32 j32_3 rfl) (in_w 0 32 i164 rfl) n32 n32a n32b n32c (m_up mm32 (t_add e164 j42_4 (in_c 1 rfl) rfl) (in_w 1 1 (in_c 1 rfl) rfl))))
                · skip
                  refine g_aload_n 101 (gd rfl) rfl rfl ?_
                  refine g_getA (q2 := 158) 104 (gd rfl) rfl rfl rfl rfl ?_
                  refine g_iload 106 (gd rfl) rfl rfl ?_
                  refine g_iaload 107 (gd rfl) rfl (n := 32) rfl (in_ix j42_5 rfl) (fun z106 e106 => ?_)
                  have q106 : z64 = z106 := (e64).trans e106.symm
                  subst q106
                  refine g_if_ge 110 164 (gd rfl) rfl rfl (fun c107 => ?_) (fun c107 => ?_)
                  · skip
                    refine g_iinc 167 (gd rfl) rfl rfl (Nat.le_of_ble_eq_true rfl) (fun z164 e164 => ?_)
                    have i164 := in_add 1 32 e164 j42_4 (in_c 1 rfl) rfl rfl
                    refine g_goto 32 (gd rfl) rfl ?_
                    have n32 : 0 ≤ (y32_3).toInt := by have a0 := j42_4; unfold In at a0; have a1 := j32_3; unfold In at a1; have a2 := h2; unfold In at a2; have a3 := h1; unfold In at a3; have a4 := j42_5; unfold In at a4; have a5 := i164; unfold In at a5; have a6 := t_add e164 j42_4 (in_c 1 rfl) rfl; have a7 := (in_c 1 rfl); unfold In at a7; omega
                    have n32a : (y32_3).toInt + (cM (sc42.1 158) (x1).toNatClampNeg : Int) ≤ (x1).toInt := by first | exact g42_0 | (rcases g126_0 with hg | hg; (exfalso; rw [← e132] at hg; have hz := c133; omega); have a0 := j42_4; unfold In at a0; have a1 := j32_3; unfold In at a1; have a2 := h2; unfold In at a2; have a3 := h1; unfold In at a3; have a4 := j42_5; unfold In at a4; have a5 := i164; unfold In at a5; have a6 := t_add e164 j42_4 (in_c 1 rfl) rfl; have a7 := (in_c 1 rfl); unfold In at a7; omega) | (have hc := cM_le (sc42.1 158) (x1).toNatClampNeg; have h0 : (Int32.ofInt 0).toInt = 0 := rfl; have hmn : ((x1).toNatClampNeg : Int) = (x1).toInt := (by show (((x1).toInt.toNat : Nat) : Int) = _; have a0 := j42_4; unfold In at a0; have a1 := j32_3; unfold In at a1; have a2 := h2; unfold In at a2; have a3 := h1; unfold In at a3; have a4 := j42_5; unfold In at a4; have a5 := i164; unfold In at a5; have a6 := t_add e164 j42_4 (in_c 1 rfl) rfl; have a7 := (in_c 1 rfl); unfold In at a7; omega); omega)
                    have n32b : ∀ k : Nat, (k : Int) < (x1).toInt → (sc42.1 158 k).toInt < (y32_3).toInt := by first | exact g42_1 | (intro k hk; have h := g126_1 k hk; have a0 := j42_4; unfold In at a0; have a1 := j32_3; unfold In at a1; have a2 := h2; unfold In at a2; have a3 := h1; unfold In at a3; have a4 := j42_5; unfold In at a4; have a5 := i164; unfold In at a5; have a6 := t_add e164 j42_4 (in_c 1 rfl) rfl; have a7 := (in_c 1 rfl); unfold In at a7; omega) | exact fun k hk => (g2_0 k (by have a0 := j42_4; unfold In at a0; have a1 := j32_3; unfold In at a1; have a2 := h2; unfold In at a2; have a3 := h1; unfold In at a3; have a4 := j42_5; unfold In at a4; have a5 := i164; unfold In at a5; have a6 := t_add e164 j42_4 (in_c 1 rfl) rfl; have a7 := (in_c 1 rfl); unfold In at a7; omega)).1
                    have n32c : ∀ k : Nat, (k : Int) < (x1).toInt → (sc42.1 159 k).toInt < (z164).toInt := by first | (intro k hk; have h := g42_2 k hk; have a0 := j42_4; unfold In at a0; have a1 := j32_3; unfold In at a1; have a2 := h2; unfold In at a2; have a3 := h1; unfold In at a3; have a4 := j42_5; unfold In at a4; have a5 := i164; unfold In at a5; have a6 := t_add e164 j42_4 (in_c 1 rfl) rfl; have a7 := (in_c 1 rfl); unfold In at a7; omega) | (intro k hk; have h := g126_2 k hk; have a0 := j42_4; unfold In at a0; have a1 := j32_3; unfold In at a1; have a2 := h2; unfold In at a2; have a3 := h1; unfold In at a3; have a4 := j42_5; unfold In at a4; have a5 := i164; unfold In at a5; have a6 := t_add e164 j42_4 (in_c 1 rfl) rfl; have a7 := (in_c 1 rfl); unfold In at a7; omega) | exact fun k hk => (g2_0 k (by have a0 := j42_4; unfold In at a0; have a1 := j32_3; unfold In at a1; have a2 := h2; unfold In at a2; have a3 := h1; unfold In at a3; have a4 := j42_5; unfold In at a4; have a5 := i164; unfold In at a5; have a6 := t_add e164 j42_4 (in_c 1 rfl) rfl; have a7 := (in_c 1 rfl); unfold In at a7; omega)).2
                    exact gg_w (by omega) (gg_f (gf_cons rfl (gf_cons rfl (gf_cons rfl (gf_cons rfl (gf_cons rfl gf_nil))))) (ih32 sc42 y32_3 z164 hIc42 hFc42 (in_w 0 32 j32_3 rfl) (in_w 0 32 i164 rfl) n32 n32a n32b n32c (m_up mm32 (t_add e164 j42_4 (in_c 1 rfl) rfl) (in_w 1 1 (in_c 1 rfl) rfl))))
                  · skip
                    exact zn_lt c107 i65 rfl
              · skip
                have i65 := z_lt (-2147483648) (-1) c65 (i_rng z64) rfl
                refine g_aload_n 69 (gd rfl) rfl rfl ?_
                refine g_getA (q2 := 159) 72 (gd rfl) rfl rfl rfl rfl ?_
                refine g_iload 74 (gd rfl) rfl rfl ?_
                refine g_iload 76 (gd rfl) rfl rfl ?_
                refine g_iastore 77 (gd rfl) rfl (n := 32) rfl (in_ix j42_5 rfl) ?_
                have hI76 := inv_sI (q := 159) (j := y42_5.toNatClampNeg) hIc42 rfl (in_w (-2147483648) 2147483647 j42_4 rfl)
                refine g_aload_n 78 (gd rfl) rfl rfl ?_
                refine g_getA (q2 := 153) 81 (gd rfl) rfl rfl rfl rfl ?_
                refine g_aload_n 82 (gd rfl) rfl rfl ?_
                refine g_getA (q2 := 157) 85 (gd rfl) rfl rfl rfl rfl ?_
                refine g_iload 87 (gd rfl) rfl rfl ?_
                refine g_iaload 88 (gd rfl) rfl (n := 32) rfl (in_ix j42_5 rfl) (fun z87 e87 => ?_)
                have i87 := inv_I hI76 (n := 32) (t := 0) (-1) 159 rfl (in_ix j42_5 rfl) rfl e87
                have i88 : In z87 0 159 := by have h := (tp_u (t := (sI sc42 159 y42_5.toNatClampNeg y32_4)) (y := y42_5) (b := z87) (f := y42_5) q_0 (by have a0 := j42_4; unfold In at a0; have a1 := j32_3; unfold In at a1; have a2 := h2; unfold In at a2; have a3 := h1; unfold In at a3; have a4 := j42_5; unfold In at a4; omega) (by have a0 := j42_4; unfold In at a0; have a1 := j32_3; unfold In at a1; have a2 := h2; unfold In at a2; have a3 := h1; unfold In at a3; have a4 := j42_5; unfold In at a4; omega) (by have a0 := j42_4; unfold In at a0; have a1 := j32_3; unfold In at a1; have a2 := h2; unfold In at a2; have a3 := h1; unfold In at a3; have a4 := j42_5; unfold In at a4; omega) e87 ((sI_p rfl).trans (hFc42.1 157 rfl))); exact ⟨h.1, i87.2⟩
                refine g_iaload 89 (gd rfl) rfl (n := 160) rfl (in_ix i88 rfl) (fun z88 e88 => ?_)
                have i88a := inv_I hI76 (n := 160) (t := 0) 0 31 rfl (in_ix i88 rfl) rfl e88
                have hx88 := ((tp_u (t := (sI sc42 159 y42_5.toNatClampNeg y32_4)) (y := y42_5) (b := z87) (f := z88) q_0 (by have a0 := j42_4; unfold In at a0; have a1 := j32_3; unfold In at a1; have a2 := h2; unfold In at a2; have a3 := h1; unfold In at a3; have a4 := j42_5; unfold In at a4; omega) (by have a0 := j42_4; unfold In at a0; have a1 := j32_3; unfold In at a1; have a2 := h2; unfold In at a2; have a3 := h1; unfold In at a3; have a4 := j42_5; unfold In at a4; omega) (by have a0 := j42_4; unfold In at a0; have a1 := j32_3; unfold In at a1; have a2 := h2; unfold In at a2; have a3 := h1; unfold In at a3; have a4 := j42_5; unfold In at a4; omega) e87 ((sI_p rfl).trans (hFc42.1 157 rfl)))).2 e88 ((sI_p rfl).trans (hFc42.1 153 rfl)); have hx89 : (z88).toInt = (nx s y42_5.toNatClampNeg : Int) := hx88.2 i88a.1; have hy89 := hx88.1
                refine g_istore 91 (gd rfl) rfl (Nat.le_of_ble_eq_true rfl) ?_
                refine g_goto 42 (gd rfl) rfl ?_
                have n42 : (z88).toInt < (x1).toInt := by have a0 := j42_4; unfold In at a0; have a1 := j32_3; unfold In at a1; have a2 := h2; unfold In at a2; have a3 := h1; unfold In at a3; have a4 := j42_5; unfold In at a4; have a5 := i88a; unfold In at a5; omega
                have n42a : 0 ≤ (z88).toInt := by have a0 := j42_4; unfold In at a0; have a1 := j32_3; unfold In at a1; have a2 := h2; unfold In at a2; have a3 := h1; unfold In at a3; have a4 := j42_5; unfold In at a4; have a5 := i88a; unfold In at a5; omega
                have n42b : (y32_3).toInt + (cM ((sI sc42 159 y42_5.toNatClampNeg y32_4).1 158) (x1).toNatClampNeg : Int) ≤ (x1).toInt := by first | exact g42_0 | exact g32_0
                have n42c : ∀ k : Nat, (k : Int) < (x1).toInt → ((sI sc42 159 y42_5.toNatClampNeg y32_4).1 158 k).toInt < (y32_3).toInt := by first | exact g42_1 | exact g32_1
                have n42d : ∀ k : Nat, (k : Int) < (x1).toInt → ((sI sc42 159 y42_5.toNatClampNeg y32_4).1 159 k).toInt < (y32_4).toInt + 1 := by first | (intro k hk; rw [sI_q]; exact up_lt (fun c => g42_2 k hk) (by have a0 := j42_4; unfold In at a0; have a1 := j32_3; unfold In at a1; have a2 := h2; unfold In at a2; have a3 := h1; unfold In at a3; have a4 := j42_5; unfold In at a4; have a5 := i88a; unfold In at a5; omega)) | (intro k hk; have h := g32_2 k hk; have a0 := j42_4; unfold In at a0; have a1 := j32_3; unfold In at a1; have a2 := h2; unfold In at a2; have a3 := h1; unfold In at a3; have a4 := j42_5; unfold In at a4; have a5 := i88a; unfold In at a5; omega)
                have n42e : VC s ((sI sc42 159 y42_5.toNatClampNeg y32_4).1 159) (x1).toInt (x2).toInt (y32_4).toInt (z88).toInt := by first | (rw [sI_q]; exact vc_s g42_3 (by have a0 := j42_4; unfold In at a0; have a1 := j32_3; unfold In at a1; have a2 := h2; unfold In at a2; have a3 := h1; unfold In at a3; have a4 := j42_5; unfold In at a4; have a5 := i88a; unfold In at a5; omega) (by have a0 := j42_4; unfold In at a0; have a1 := j32_3; unfold In at a1; have a2 := h2; unfold In at a2; have a3 := h1; unfold In at a3; have a4 := j42_5; unfold In at a4; have a5 := i88a; unfold In at a5; omega) rfl hx89) | exact vc_0 g32_2
                have m42 : cM ((sI sc42 159 y42_5.toNatClampNeg y32_4).1 159) (x1).toNatClampNeg < k42 := by rw [sI_q]; have hu := up_cm (f := sc42.1 159) (y := y42_5) (b := y32_4) (n := x1.toNatClampNeg) (by rw [← e54]; exact c55) (by have a0 := j42_4; unfold In at a0; have a1 := j32_3; unfold In at a1; have a2 := h2; unfold In at a2; have a3 := h1; unfold In at a3; have a4 := j42_5; unfold In at a4; have a5 := i88a; unfold In at a5; omega) (by show y42_5.toInt.toNat < x1.toInt.toNat; have a0 := j42_4; unfold In at a0; have a1 := j32_3; unfold In at a1; have a2 := h2; unfold In at a2; have a3 := h1; unfold In at a3; have a4 := j42_5; unfold In at a4; have a5 := i88a; unfold In at a5; omega); have hm := mm42; omega
                exact gg_w (by omega) (gg_f (gf_cons rfl (gf_cons rfl (gf_cons rfl (gf_cons rfl (gf_cons rfl (gf_cons rfl gf_nil)))))) (ih42  (sI sc42 159 y42_5.toNatClampNeg y32_4) z88 hI76 (fr_sI rfl hFc42) (in_w 0 31 j42_4 rfl) (in_w 0 31 i88a rfl) n42 n42a n42b n42c n42d n42e m42))
      refine g_iload 34 (gd rfl) rfl rfl ?_
      refine g_iload_n 35 (gd rfl) rfl rfl ?_
      refine g_cmp_ge 38 170 (gd rfl) rfl rfl (fun c35 => ?_) (fun c35 => ?_)
      · skip
        have i35 := r_le2 1 32 c35 h1 j32_4 rfl
        refine g_iconst 0 171 (gd rfl) rfl rfl ?_
        refine g_istore 173 (gd rfl) rfl (Nat.le_of_ble_eq_true rfl) ?_
        have n173 : 0 ≤ (y32_3).toInt := by have a0 := h2; unfold In at a0; have a1 := h1; unfold In at a1; have a2 := i35; unfold In at a2; have a3 := j32_3; unfold In at a3; have a4 := (in_c 0 rfl); unfold In at a4; omega
        have n173a : (y32_3).toInt + (cM (sc32.1 158) (x1).toNatClampNeg : Int) ≤ (x1).toInt := by first | exact n173q | exact g173_0 | exact g32_0
        have n173b : ∀ k : Nat, (k : Int) < (x1).toInt → (sc32.1 158 k).toInt < (y32_3).toInt := by first | exact g173_1 | exact g32_1 | (intro k hk; rw [sI_q]; exact up_lt (fun c => by have h := g173_1 k hk; have a0 := h2; unfold In at a0; have a1 := h1; unfold In at a1; have a2 := i35; unfold In at a2; have a3 := j32_3; unfold In at a3; have a4 := (in_c 0 rfl); unfold In at a4; omega) (by have a0 := h2; unfold In at a0; have a1 := h1; unfold In at a1; have a2 := i35; unfold In at a2; have a3 := j32_3; unfold In at a3; have a4 := (in_c 0 rfl); unfold In at a4; omega))
        have n173c : ∀ k : Nat, (k : Int) < ((Int32.ofInt 0)).toInt → 0 ≤ (sc32.1 158 k).toInt := by first | (intro k hk; exfalso; have h0 : (Int32.ofInt 0).toInt = 0 := rfl; omega) | (intro k hk; have e4 : y173_4.toNatClampNeg = y173_4.toInt.toNat := rfl; first | (by_cases c : (k : Int) < y173_4.toInt; exact g173_2 k c; (rw [show k = y173_4.toNatClampNeg from (by have a0 := h2; unfold In at a0; have a1 := h1; unfold In at a1; have a2 := i35; unfold In at a2; have a3 := j32_3; unfold In at a3; have a4 := (in_c 0 rfl); unfold In at a4; omega), ← e185]; exact c186)) | (rw [sI_q]; unfold upd; by_cases c : k = y173_4.toNatClampNeg; (rw [if_pos c]; have a0 := h2; unfold In at a0; have a1 := h1; unfold In at a1; have a2 := i35; unfold In at a2; have a3 := j32_3; unfold In at a3; have a4 := (in_c 0 rfl); unfold In at a4; omega); (rw [if_neg c]; exact g173_2 k (by have a0 := h2; unfold In at a0; have a1 := h1; unfold In at a1; have a2 := i35; unfold In at a2; have a3 := j32_3; unfold In at a3; have a4 := (in_c 0 rfl); unfold In at a4; omega))))
        exact gg_w (by omega) (gg_f (gf_cons rfl (gf_cons rfl (gf_cons rfl (gf_cons rfl (gf_cons rfl gf_nil))))) (ct173 33 sc32 y32_3 (Int32.ofInt 0) hIc32 hFc32 (in_w 0 32 j32_3 rfl) (in_w 0 32 (in_c 0 rfl) rfl) n173 n173a n173b n173c (m_in 33 (in_w 0 32 (in_c 0 rfl) rfl) rfl)))
      · skip
        have i35 := r_lt1 0 31 c35 j32_4 h1 rfl
        refine g_iload 40 (gd rfl) rfl rfl ?_
        refine g_istore 42 (gd rfl) rfl (Nat.le_of_ble_eq_true rfl) ?_
        have n42 : (y32_4).toInt < (x1).toInt := by have a0 := h2; unfold In at a0; have a1 := h1; unfold In at a1; have a2 := i35; unfold In at a2; have a3 := j32_3; unfold In at a3; omega
        have n42a : 0 ≤ (y32_4).toInt := by have a0 := h2; unfold In at a0; have a1 := h1; unfold In at a1; have a2 := i35; unfold In at a2; have a3 := j32_3; unfold In at a3; omega
        have n42b : (y32_3).toInt + (cM (sc32.1 158) (x1).toNatClampNeg : Int) ≤ (x1).toInt := by first | exact g42_0 | exact g32_0
        have n42c : ∀ k : Nat, (k : Int) < (x1).toInt → (sc32.1 158 k).toInt < (y32_3).toInt := by first | exact g42_1 | exact g32_1
        have n42d : ∀ k : Nat, (k : Int) < (x1).toInt → (sc32.1 159 k).toInt < (y32_4).toInt + 1 := by first | (intro k hk; rw [sI_q]; exact up_lt (fun c => g42_2 k hk) (by have a0 := h2; unfold In at a0; have a1 := h1; unfold In at a1; have a2 := i35; unfold In at a2; have a3 := j32_3; unfold In at a3; omega)) | (intro k hk; have h := g32_2 k hk; have a0 := h2; unfold In at a0; have a1 := h1; unfold In at a1; have a2 := i35; unfold In at a2; have a3 := j32_3; unfold In at a3; omega)
        have n42e : VC s (sc32.1 159) (x1).toInt (x2).toInt (y32_4).toInt (y32_4).toInt := by first | (rw [sI_q]; exact vc_s g42_3 (by have a0 := h2; unfold In at a0; have a1 := h1; unfold In at a1; have a2 := i35; unfold In at a2; have a3 := j32_3; unfold In at a3; omega) (by have a0 := h2; unfold In at a0; have a1 := h1; unfold In at a1; have a2 := i35; unfold In at a2; have a3 := j32_3; unfold In at a3; omega) rfl hx89) | exact vc_0 g32_2
        have m42 : cM (sc32.1 159) (x1).toNatClampNeg < 33 := by have hc := cM_le (sc32.1 159) (x1).toNatClampNeg; have hmn : x1.toNatClampNeg = x1.toInt.toNat := rfl; have a0 := h2; unfold In at a0; have a1 := h1; unfold In at a1; have a2 := i35; unfold In at a2; have a3 := j32_3; unfold In at a3; omega
        exact gg_w (by omega) (gg_f (gf_cons rfl (gf_cons rfl (gf_cons rfl (gf_cons rfl (gf_cons rfl (gf_cons rfl gf_nil)))))) (ct42 (33) sc32 y32_4 hIc32 hFc32 (in_w 0 31 i35 rfl) (in_w 0 31 i35 rfl) n42 n42a n42b n42c n42d n42e m42))
  have ct2 : ∀ (k2 : Nat) (sc2 : GS) (y2_3 : Int32), Inv sc2 → Fr fm_364 s sc2 → (In y2_3 0 32) → (∀ k : Nat, (k : Int) < (y2_3).toInt → (sc2.1 158 k).toInt < 0 ∧ (sc2.1 159 k).toInt < 0) → 32 - (y2_3).toInt < (k2 : Int) → GG Z (d - 1) 364 post (gx xp) (2138469 + k2 * 900) 2 (fun j => xlook j [(0, .ref (A 109)), (1, .int x1), (2, .int x2), (3, .int y2_3)]) [] (WW Z A sc2 ++ ex) 0 0 := by
    intro k2
    induction k2 with
    | zero => intro sc2 y2_3 hIc2 hFc2 j2_3 g2_0 mm2; exact m_no mm2 j2_3 rfl
    | succ k2 ih2 =>
      intro sc2 y2_3 hIc2 hFc2 j2_3 g2_0 mm2
      refine gg_w (M := 2138469 + k2 * 900 + 900) (by omega) ?_
      refine g_iload_n 3 (gd rfl) rfl rfl ?_
      refine g_iload_n 4 (gd rfl) rfl rfl ?_
      refine g_cmp_ge 7 27 (gd rfl) rfl rfl (fun c4 => ?_) (fun c4 => ?_)
      · skip
        have i4 := r_le2 1 32 c4 h1 j2_3 rfl
        refine g_iconst 0 28 (gd rfl) rfl rfl ?_
        refine g_istore_n 29 (gd rfl) rfl (Nat.le_of_ble_eq_true rfl) ?_
        refine g_iconst 0 30 (gd rfl) rfl rfl ?_
        refine g_istore 32 (gd rfl) rfl (Nat.le_of_ble_eq_true rfl) ?_
        have n32 : 0 ≤ ((Int32.ofInt 0)).toInt := by have a0 := h2; unfold In at a0; have a1 := h1; unfold In at a1; have a2 := i4; unfold In at a2; have a3 := (in_c 0 rfl); unfold In at a3; omega
        have n32a : ((Int32.ofInt 0)).toInt + (cM (sc2.1 158) (x1).toNatClampNeg : Int) ≤ (x1).toInt := by first | exact g42_0 | (rcases g126_0 with hg | hg; (exfalso; rw [← e132] at hg; have hz := c133; omega); have a0 := h2; unfold In at a0; have a1 := h1; unfold In at a1; have a2 := i4; unfold In at a2; have a3 := (in_c 0 rfl); unfold In at a3; omega) | (have hc := cM_le (sc2.1 158) (x1).toNatClampNeg; have h0 : (Int32.ofInt 0).toInt = 0 := rfl; have hmn : ((x1).toNatClampNeg : Int) = (x1).toInt := (by show (((x1).toInt.toNat : Nat) : Int) = _; have a0 := h2; unfold In at a0; have a1 := h1; unfold In at a1; have a2 := i4; unfold In at a2; have a3 := (in_c 0 rfl); unfold In at a3; omega); omega)
        have n32b : ∀ k : Nat, (k : Int) < (x1).toInt → (sc2.1 158 k).toInt < ((Int32.ofInt 0)).toInt := by first | exact g42_1 | (intro k hk; have h := g126_1 k hk; have a0 := h2; unfold In at a0; have a1 := h1; unfold In at a1; have a2 := i4; unfold In at a2; have a3 := (in_c 0 rfl); unfold In at a3; omega) | exact fun k hk => (g2_0 k (by have a0 := h2; unfold In at a0; have a1 := h1; unfold In at a1; have a2 := i4; unfold In at a2; have a3 := (in_c 0 rfl); unfold In at a3; omega)).1
        have n32c : ∀ k : Nat, (k : Int) < (x1).toInt → (sc2.1 159 k).toInt < ((Int32.ofInt 0)).toInt := by first | (intro k hk; have h := g42_2 k hk; have a0 := h2; unfold In at a0; have a1 := h1; unfold In at a1; have a2 := i4; unfold In at a2; have a3 := (in_c 0 rfl); unfold In at a3; omega) | (intro k hk; have h := g126_2 k hk; have a0 := h2; unfold In at a0; have a1 := h1; unfold In at a1; have a2 := i4; unfold In at a2; have a3 := (in_c 0 rfl); unfold In at a3; omega) | exact fun k hk => (g2_0 k (by have a0 := h2; unfold In at a0; have a1 := h1; unfold In at a1; have a2 := i4; unfold In at a2; have a3 := (in_c 0 rfl); unfold In at a3; omega)).2
        exact gg_w (by omega) (gg_f (gf_cons rfl (gf_cons rfl (gf_cons rfl (gf_cons rfl (gf_cons rfl gf_nil))))) (ct32 33 sc2 (Int32.ofInt 0) (Int32.ofInt 0) hIc2 hFc2 (in_w 0 32 (in_c 0 rfl) rfl) (in_w 0 32 (in_c 0 rfl) rfl) n32 n32a n32b n32c (m_in 33 (in_w 0 32 (in_c 0 rfl) rfl) rfl)))
      · skip
        have i4 := r_lt1 0 31 c4 j2_3 h1 rfl
        refine g_aload_n 8 (gd rfl) rfl rfl ?_
        refine g_getA (q2 := 158) 11 (gd rfl) rfl rfl rfl rfl ?_
        refine g_iload_n 12 (gd rfl) rfl rfl ?_
        refine g_iconst (-1) 13 (gd rfl) rfl rfl ?_
        refine g_iastore 14 (gd rfl) rfl (n := 32) rfl (in_ix i4 rfl) ?_
        have hI13 := inv_sI (q := 158) (j := y2_3.toNatClampNeg) hIc2 rfl (in_w (-2147483648) 2147483647 (in_c (-1) rfl) rfl)
        refine g_aload_n 15 (gd rfl) rfl rfl ?_
        refine g_getA (q2 := 159) 18 (gd rfl) rfl rfl rfl rfl ?_
        refine g_iload_n 19 (gd rfl) rfl rfl ?_
        refine g_iconst (-1) 20 (gd rfl) rfl rfl ?_
        refine g_iastore 21 (gd rfl) rfl (n := 32) rfl (in_ix i4 rfl) ?_
        have hI20 := inv_sI (q := 159) (j := y2_3.toNatClampNeg) hI13 rfl (in_w (-2147483648) 2147483647 (in_c (-1) rfl) rfl)
        refine g_iinc 24 (gd rfl) rfl rfl (Nat.le_of_ble_eq_true rfl) (fun z21 e21 => ?_)
        have i21 := in_add 1 32 e21 i4 (in_c 1 rfl) rfl rfl
        refine g_goto 2 (gd rfl) rfl ?_
        have n2 : ∀ k : Nat, (k : Int) < (z21).toInt → ((sI (sI sc2 158 y2_3.toNatClampNeg (Int32.ofInt (-1))) 159 y2_3.toNatClampNeg (Int32.ofInt (-1))).1 158 k).toInt < 0 ∧ ((sI (sI sc2 158 y2_3.toNatClampNeg (Int32.ofInt (-1))) 159 y2_3.toNatClampNeg (Int32.ofInt (-1))).1 159 k).toInt < 0 := by first | (intro k hk; exfalso; have h0 : (Int32.ofInt 0).toInt = 0 := rfl; omega) | (intro k hk; rw [sI_q, sI_p rfl, sI_q]; have e3 : y2_3.toNatClampNeg = y2_3.toInt.toNat := rfl; exact ⟨up_lt (fun c => (g2_0 k (by have a0 := h2; unfold In at a0; have a1 := h1; unfold In at a1; have a2 := i4; unfold In at a2; have a3 := i21; unfold In at a3; have a4 := t_add e21 i4 (in_c 1 rfl) rfl; have a5 := (in_c 1 rfl); unfold In at a5; omega)).1) (by decide), up_lt (fun c => (g2_0 k (by have a0 := h2; unfold In at a0; have a1 := h1; unfold In at a1; have a2 := i4; unfold In at a2; have a3 := i21; unfold In at a3; have a4 := t_add e21 i4 (in_c 1 rfl) rfl; have a5 := (in_c 1 rfl); unfold In at a5; omega)).2) (by decide)⟩)
        exact gg_w (by omega) (gg_f (gf_cons rfl (gf_cons rfl (gf_cons rfl (gf_cons rfl gf_nil)))) (ih2 (sI (sI sc2 158 y2_3.toNatClampNeg (Int32.ofInt (-1))) 159 y2_3.toNatClampNeg (Int32.ofInt (-1))) z21 hI20 (fr_sI rfl (fr_sI rfl hFc2)) (in_w 0 32 i21 rfl) n2 (m_up mm2 (t_add e21 i4 (in_c 1 rfl) rfl) (in_w 1 1 (in_c 1 rfl) rfl))))
  refine g_enter2 (k := 364) (N := 2169069) (by omega) rfl (Nat.le_of_ble_eq_true rfl) ?_
  refine g_iconst 0 1 (gd rfl) rfl rfl ?_
  refine g_istore_n 2 (gd rfl) rfl (Nat.le_of_ble_eq_true rfl) ?_
  have n2 : ∀ k : Nat, (k : Int) < ((Int32.ofInt 0)).toInt → (s.1 158 k).toInt < 0 ∧ (s.1 159 k).toInt < 0 := by first | (intro k hk; exfalso; have h0 : (Int32.ofInt 0).toInt = 0 := rfl; omega) | (intro k hk; rw [sI_q, sI_p rfl, sI_q]; have e3 : y2_3.toNatClampNeg = y2_3.toInt.toNat := rfl; exact ⟨up_lt (fun c => (g2_0 k (by have a0 := h2; unfold In at a0; have a1 := h1; unfold In at a1; have a2 := (in_c 0 rfl); unfold In at a2; omega)).1) (by decide), up_lt (fun c => (g2_0 k (by have a0 := h2; unfold In at a0; have a1 := h1; unfold In at a1; have a2 := (in_c 0 rfl); unfold In at a2; omega)).2) (by decide)⟩)
  exact gg_w (by omega) (gg_f (gf_cons rfl (gf_cons rfl (gf_cons rfl (gf_cons rfl gf_nil)))) (ct2 33 s (Int32.ofInt 0) hI fr_rf (in_w 0 32 (in_c 0 rfl) rfl) n2 (m_in 33 (in_w 0 32 (in_c 0 rfl) rfl) rfl)))

def fm_305 : FM := ([110, 112], [], [], [])
/-- GraphHouseModel.isDone -/
theorem k_305 {Z : AmZ} {A : Nat → Nat} {s : GS} {ex : va_W} {d : Nat} {X : AmX} {x1 : Int32} {x2 : Int32} (hd : 4 ≤ d) (hI : Inv s) (h1 : In x1 97 119) (h2 : In x2 0 2495) (q_0 : 0 ≤ (s.1 110 2).toInt ∧ (s.1 110 2).toInt ≤ 32) : GC Z d 305 [.ref (A 109), .int x1, .int x2] (WW Z A s ++ ex) 0 0 (fun v u => ∃ t : GS, Inv t ∧ Fr fm_305 s t ∧ ∃ z : Int32, v = some (.int z) ∧ u = WW Z A t ++ ex ∧ In z 0 1 ∧ (DNE s t (x1).toInt (x2).toNatClampNeg (z).toInt)) X := by
  intro post xp hP hX
  have ct311 : ∀ (sc311 : GS) (y311_3 : Int32) (y311_4 : Int32), Inv sc311 → Fr fm_305 s sc311 → (sc311 = s) → GG Z (d - 1) 305 post (gx xp) (901) 311 (fun j => xlook j [(0, .ref (A 109)), (1, .int x1), (2, .int x2), (3, .int y311_3), (4, .int y311_4)]) [] (WW Z A sc311 ++ ex) 0 0 := by
    intro sc311 y311_3 y311_4 hIc311 hFc311 g311_0
    refine g_iconst 0 312 (gd rfl) rfl rfl ?_
    have n312 : DNE s sc311 (x1).toInt (x2).toNatClampNeg ((Int32.ofInt 0)).toInt := by exact dne_no g311_0 (by decide)
    exact g_ireturn (gd rfl) rfl (nb01 (in_w 0 1 (in_c 0 rfl) rfl)) (hP _ _ ⟨sc311, hIc311, hFc311, (Int32.ofInt 0), rfl, rfl, in_w 0 1 (in_c 0 rfl) rfl, n312⟩)
  have ct255 : ∀ (sc255 : GS) (y255_3 : Int32) (y255_4 : Int32) (y255_7 : Int32), Inv sc255 → Fr fm_305 s sc255 → (In x1 116 116) → (In y255_7 0 1) → (DNE s sc255 (x1).toInt (x2).toNatClampNeg (y255_7).toInt) → GG Z (d - 1) 305 post (gx xp) (1802) 255 (fun j => xlook j [(0, .ref (A 109)), (1, .int x1), (2, .int x2), (3, .int y255_3), (4, .int y255_4), (7, .int y255_7)]) [] (WW Z A sc255 ++ ex) 0 0 := by
    intro sc255 y255_3 y255_4 y255_7 hIc255 hFc255 j255_1 j255_7 g255_0
    refine g_iload 257 (gd rfl) rfl rfl ?_
    have n257 : DNE s sc255 (x1).toInt (x2).toNatClampNeg (y255_7).toInt := by exact g255_0
    exact g_ireturn (gd rfl) rfl (nb01 (in_w 0 1 j255_7 rfl)) (hP _ _ ⟨sc255, hIc255, hFc255, y255_7, rfl, rfl, in_w 0 1 j255_7 rfl, n257⟩)
  have ct236 : ∀ (sc236 : GS) (y236_3 : Int32) (y236_4 : Int32), Inv sc236 → Fr fm_305 s sc236 → (In x1 116 116) → (sc236 = s) → GG Z (d - 1) 305 post (gx xp) (2703) 236 (fun j => xlook j [(0, .ref (A 109)), (1, .int x1), (2, .int x2), (3, .int y236_3), (4, .int y236_4)]) [] (WW Z A sc236 ++ ex) 0 0 := by
    intro sc236 y236_3 y236_4 hIc236 hFc236 j236_1 g236_0
    refine g_iconst 0 237 (gd rfl) rfl rfl ?_
    refine g_istore 239 (gd rfl) rfl (Nat.le_of_ble_eq_true rfl) ?_
    refine g_iload 241 (gd rfl) rfl rfl ?_
    refine g_if_eq 244 255 (gd rfl) rfl rfl (fun c241 => ?_) (fun c241 => ?_)
    · skip
      have n255 : DNE s sc236 (x1).toInt (x2).toNatClampNeg ((Int32.ofInt 0)).toInt := by exact dne_no g236_0 (by decide)
      exact gg_w (by omega) (gg_f (gf_cons rfl (gf_cons rfl (gf_cons rfl (gf_cons rfl (gf_cons rfl (gf_cons rfl gf_nil)))))) (ct255 sc236 y236_3 y236_4 (Int32.ofInt 0) hIc236 hFc236 (in_w 116 116 j236_1 rfl) (in_w 0 1 (in_c 0 rfl) rfl) n255))
    · skip
      exact zn_ne c241 (in_c 0 rfl) rfl
  have ct188 : ∀ (sc188 : GS) (y188_3 : Int32) (y188_4 : Int32) (y188_5 : Int32) (y188_6 : Int32), Inv sc188 → Fr fm_305 s sc188 → (In x1 97 97) → (In y188_5 0 160) → (In y188_6 0 1) → (DNE s sc188 (x1).toInt (x2).toNatClampNeg (y188_6).toInt) → GG Z (d - 1) 305 post (gx xp) (3604) 188 (fun j => xlook j [(0, .ref (A 109)), (1, .int x1), (2, .int x2), (3, .int y188_3), (4, .int y188_4), (5, .int y188_5), (6, .int y188_6)]) [] (WW Z A sc188 ++ ex) 0 0 := by
    intro sc188 y188_3 y188_4 y188_5 y188_6 hIc188 hFc188 j188_1 j188_5 j188_6 g188_0
    refine g_iload 190 (gd rfl) rfl rfl ?_
    have n190 : DNE s sc188 (x1).toInt (x2).toNatClampNeg (y188_6).toInt := by exact g188_0
    exact g_ireturn (gd rfl) rfl (nb01 (in_w 0 1 j188_6 rfl)) (hP _ _ ⟨sc188, hIc188, hFc188, y188_6, rfl, rfl, in_w 0 1 j188_6 rfl, n190⟩)
  have ct168 : ∀ (sc168 : GS) (y168_3 : Int32) (y168_4 : Int32) (y168_5 : Int32), Inv sc168 → Fr fm_305 s sc168 → (In x1 97 97) → (In y168_5 0 160) → (sc168 = s) → GG Z (d - 1) 305 post (gx xp) (4505) 168 (fun j => xlook j [(0, .ref (A 109)), (1, .int x1), (2, .int x2), (3, .int y168_3), (4, .int y168_4), (5, .int y168_5)]) [] (WW Z A sc168 ++ ex) 0 0 := by
    intro sc168 y168_3 y168_4 y168_5 hIc168 hFc168 j168_1 j168_5 g168_0
    refine g_iconst 0 169 (gd rfl) rfl rfl ?_
    refine g_istore 171 (gd rfl) rfl (Nat.le_of_ble_eq_true rfl) ?_
    refine g_iload 173 (gd rfl) rfl rfl ?_
    refine g_if_eq 176 188 (gd rfl) rfl rfl (fun c173 => ?_) (fun c173 => ?_)
    · skip
      have n188 : DNE s sc168 (x1).toInt (x2).toNatClampNeg ((Int32.ofInt 0)).toInt := by exact dne_no g168_0 (by decide)
      exact gg_w (by omega) (gg_f (gf_cons rfl (gf_cons rfl (gf_cons rfl (gf_cons rfl (gf_cons rfl (gf_cons rfl (gf_cons rfl gf_nil))))))) (ct188 sc168 y168_3 y168_4 y168_5 (Int32.ofInt 0) hIc168 hFc168 (in_w 97 97 j168_1 rfl) (in_w 0 160 j168_5 rfl) (in_w 0 1 (in_c 0 rfl) rfl) n188))
    · skip
      exact zn_ne c173 (in_c 0 rfl) rfl
  refine g_enter2 (k := 305) (N := 5405) (by omega) rfl (Nat.le_of_ble_eq_true rfl) ?_
  refine g_aload_n 1 (gd rfl) rfl rfl ?_
  refine g_getA (q2 := 128) 4 (gd rfl) rfl rfl rfl rfl ?_
  refine g_iload_n 5 (gd rfl) rfl rfl ?_
  refine g_iaload 6 (gd rfl) rfl (n := 2500) rfl (in_ix h2 rfl) (fun z5 e5 => ?_)
  refine g_istore_n 7 (gd rfl) rfl (Nat.le_of_ble_eq_true rfl) ?_
  refine g_aload_n 8 (gd rfl) rfl rfl ?_
  refine g_getA (q2 := 128) 11 (gd rfl) rfl rfl rfl rfl ?_
  refine g_iload_n 12 (gd rfl) rfl rfl ?_
  refine g_iconst 1 13 (gd rfl) rfl rfl ?_
  refine g_iadd 14 (gd rfl) rfl (fun z13 e13 => ?_)
  have i13 := in_add 1 2496 e13 h2 (in_c 1 rfl) rfl rfl
  refine g_iaload 15 (gd rfl) rfl (n := 2500) rfl (in_ix i13 rfl) (fun z14 e14 => ?_)
  refine g_istore 17 (gd rfl) rfl (Nat.le_of_ble_eq_true rfl) ?_
  refine g_iload_n 18 (gd rfl) rfl rfl ?_
  refine g_lsw [(97, 79), (110, 52), (116, 191)] 258 (gd rfl) rfl rfl rfl ⟨fun c18 => ?_, fun c18_0 => ⟨fun c18 => ?_, fun c18_1 => ⟨fun c18 => ?_, fun c18_2 => ?_⟩⟩⟩
  · skip
    have i18 := sw_eq c18
    refine g_aload_n 80 (gd rfl) rfl rfl ?_
    refine g_iconst 2 81 (gd rfl) rfl rfl ?_
    refine g_callv (X := _) (As := [.int (Int32.ofInt 2)]) (r := []) (b := A 109) (q := 109) 84 (gd rfl) rfl rfl rfl rfl rfl (ww_o rfl) (Nat.le_of_ble_eq_true rfl) (Nat.zero_le _) (Nat.zero_le _) (k_280 (by omega) hI (in_w 0 2 (in_c 2 rfl) rfl)) (fun e u h => h) (fun v u h => ?_)
    obtain ⟨z81, rfl, rfl, i81, p81⟩ := h
    show GG _ _ _ _ _ _ _ _ [.int z81] _ _ _
    refine g_istore 86 (gd rfl) rfl (Nat.le_of_ble_eq_true rfl) ?_
    refine g_iload 88 (gd rfl) rfl rfl ?_
    refine g_sipush 160 91 (gd rfl) rfl rfl ?_
    refine g_cmp_ge 94 168 (gd rfl) rfl rfl (fun c91 => ?_) (fun c91 => ?_)
    · skip
      have i91 := r_le2 160 160 c91 (in_c 160 rfl) i81 rfl
      have n168 : s = s := by rfl
      exact gg_w (by omega) (gg_f (gf_cons rfl (gf_cons rfl (gf_cons rfl (gf_cons rfl (gf_cons rfl (gf_cons rfl gf_nil)))))) (ct168 s z5 z14 z81 hI fr_rf (in_w 97 97 i18 rfl) (in_w 0 160 i91 rfl) n168))
    · skip
      have i91 := r_lt1 0 159 c91 i81 (in_c 160 rfl) rfl
      refine g_iload_n 95 (gd rfl) rfl rfl ?_
      refine g_i2l 96 (gd rfl) rfl (fun z95 e95 => ?_)
      have i95 := l_i e95 (i_rng z5)
      refine g_lconst 0 97 (gd rfl) rfl rfl ?_
      refine g_aload_n 98 (gd rfl) rfl rfl ?_
      refine g_getA (q2 := 110) 101 (gd rfl) rfl rfl rfl rfl ?_
      refine g_iconst 2 102 (gd rfl) rfl rfl ?_
      refine g_iaload 103 (gd rfl) rfl (n := 3) rfl (in_ix (in_c 2 rfl) rfl) (fun z102 e102 => ?_)
      have i103 : In z102 0 32 := by rw [e102]; exact q_0
      refine g_iconst 1 104 (gd rfl) rfl rfl ?_
      refine g_isub 105 (gd rfl) rfl (fun z104 e104 => ?_)
      have i104 := in_sub (-1) 31 e104 i103 (in_c 1 rfl) rfl rfl
      refine g_i2l 106 (gd rfl) rfl (fun z105 e105 => ?_)
      have i105 := l_i e105 i104
      refine g_calls (As := [.long z95, .long (Int64.ofInt 0), .long z105]) (r := []) 109 (gd rfl) rfl rfl rfl rfl rfl (Nat.le_of_ble_eq_true rfl) (mc := 0) (ms := 0) (Nat.zero_le _) (Nat.zero_le _) (P := fun v u => _) ?_ (fun v u h => h)
      intro po106 xx106 hp106 hx106
      refine g_enter2 (k := 269) (N := 300) (by omega) rfl (Nat.le_of_ble_eq_true rfl) ?_
      refine g_lload_n 1 (gd rfl) rfl rfl ?_
      refine g_lload_n 2 (gd rfl) rfl rfl ?_
      refine g_lcmp 3 (gd rfl) rfl (fun z106x2 e106x2 => ?_)
      have i106x2 := lc_in e106x2
      refine g_if_lt 6 17 (gd rfl) rfl rfl (fun c106x3 => ?_) (fun c106x3 => ?_)
      · skip
        have i106x3 := z_lt (-1) (-1) c106x3 i106x2 rfl
        have c106x3a := lc_lt e106x2 c106x3
        have i106x3a := lr_lt1 (-2147483648) (-1) c106x3a i95 (l_c 0 rfl) rfl
        have i106x3b := l_b e95 i106x3a
        refine g_iconst 0 18 (gd rfl) rfl rfl ?_
        refine g_ireturn (gd rfl) rfl (nb01 (in_w 0 1 (in_c 0 rfl) rfl)) (hp106 _ _ ?_)
        show GG _ _ _ _ _ _ _ _ [.int (Int32.ofInt 0)] _ _ _
        refine g_if_eq 112 168 (gd rfl) rfl rfl (fun c109 => ?_) (fun c109 => ?_)
        · skip
          have n168 : s = s := by rfl
          exact gg_w (by omega) (gg_f (gf_cons rfl (gf_cons rfl (gf_cons rfl (gf_cons rfl (gf_cons rfl (gf_cons rfl gf_nil)))))) (ct168 s z5 z14 z81 hI fr_rf (in_w 97 97 i18 rfl) (in_w 0 160 i91 rfl) n168))
        · skip
          exact zn_ne c109 (in_c 0 rfl) rfl
      · skip
        have i106x3 := z_ge 0 1 c106x3 i106x2 rfl
        have c106x3a := lc_ge e106x2 c106x3
        have i106x3a := lr_le2 0 2147483647 c106x3a (l_c 0 rfl) i95 rfl
        have i106x3b := l_b e95 i106x3a
        refine g_lload_n 7 (gd rfl) rfl rfl ?_
        refine g_lload 9 (gd rfl) rfl rfl ?_
        refine g_lcmp 10 (gd rfl) rfl (fun z106x9 e106x9 => ?_)
        have i106x9 := lc_in e106x9
        refine g_if_gt 13 17 (gd rfl) rfl rfl (fun c106x10 => ?_) (fun c106x10 => ?_)
        · skip
          have i106x10 := z_gt 1 1 c106x10 i106x9 rfl
          have c106x10a := lc_gt e106x9 c106x10
          refine g_iconst 0 18 (gd rfl) rfl rfl ?_
          refine g_ireturn (gd rfl) rfl (nb01 (in_w 0 1 (in_c 0 rfl) rfl)) (hp106 _ _ ?_)
          show GG _ _ _ _ _ _ _ _ [.int (Int32.ofInt 0)] _ _ _
          refine g_if_eq 112 168 (gd rfl) rfl rfl (fun c109 => ?_) (fun c109 => ?_)
          · skip
            have n168 : s = s := by rfl
            exact gg_w (by omega) (gg_f (gf_cons rfl (gf_cons rfl (gf_cons rfl (gf_cons rfl (gf_cons rfl (gf_cons rfl gf_nil)))))) (ct168 s z5 z14 z81 hI fr_rf (in_w 97 97 i18 rfl) (in_w 0 160 i91 rfl) n168))
          · skip
            exact zn_ne c109 (in_c 0 rfl) rfl
        · skip
          have i106x10 := z_le (-1) 0 c106x10 i106x9 rfl
          have c106x10a := lc_le e106x9 c106x10
          have i106x10a := lr_le1 0 31 c106x10a i106x3a i105 rfl
          have i106x10b := l_b e95 i106x10a
          have i106x10c := lr_le2 0 31 c106x10a i106x3a i105 rfl
          have i106x10d := l_b e105 i106x10c
          refine g_iconst 1 14 (gd rfl) rfl rfl ?_
          refine g_goto 18 (gd rfl) rfl ?_
          refine g_ireturn (gd rfl) rfl (nb01 (in_w 0 1 (in_c 1 rfl) rfl)) (hp106 _ _ ?_)
          show GG _ _ _ _ _ _ _ _ [.int (Int32.ofInt 1)] _ _ _
          refine g_if_eq 112 168 (gd rfl) rfl rfl (fun c109 => ?_) (fun c109 => ?_)
          · skip
            exact zn_eq c109 (in_c 1 rfl) rfl
          · skip
            refine g_iload 114 (gd rfl) rfl rfl ?_
            refine g_i2l 115 (gd rfl) rfl (fun z114 e114 => ?_)
            have i114 := l_i e114 (i_rng z14)
            refine g_lconst 0 116 (gd rfl) rfl rfl ?_
            refine g_aload_n 117 (gd rfl) rfl rfl ?_
            refine g_getA (q2 := 110) 120 (gd rfl) rfl rfl rfl rfl ?_
            refine g_iconst 2 121 (gd rfl) rfl rfl ?_
            refine g_iaload 122 (gd rfl) rfl (n := 3) rfl (in_ix (in_c 2 rfl) rfl) (fun z121 e121 => ?_)
            have q121 : z102 = z121 := (e102).trans e121.symm
            subst q121
            refine g_iconst 1 123 (gd rfl) rfl rfl ?_
            refine g_isub 124 (gd rfl) rfl (fun z123 e123 => ?_)
            have i123 := in_sub (-1) 31 e123 i103 (in_c 1 rfl) rfl rfl
            refine g_i2l 125 (gd rfl) rfl (fun z124 e124 => ?_)
            have i124 := l_i e124 i123
            refine g_calls (As := [.long z114, .long (Int64.ofInt 0), .long z124]) (r := []) 128 (gd rfl) rfl rfl rfl rfl rfl (Nat.le_of_ble_eq_true rfl) (mc := 0) (ms := 0) (Nat.zero_le _) (Nat.zero_le _) (P := fun v u => _) ?_ (fun v u h => h)
            intro po125 xx125 hp125 hx125
            refine g_enter2 (k := 269) (N := 300) (by omega) rfl (Nat.le_of_ble_eq_true rfl) ?_
            refine g_lload_n 1 (gd rfl) rfl rfl ?_
            refine g_lload_n 2 (gd rfl) rfl rfl ?_
            refine g_lcmp 3 (gd rfl) rfl (fun z125x2 e125x2 => ?_)
            have i125x2 := lc_in e125x2
            refine g_if_lt 6 17 (gd rfl) rfl rfl (fun c125x3 => ?_) (fun c125x3 => ?_)
            · skip
              have i125x3 := z_lt (-1) (-1) c125x3 i125x2 rfl
              have c125x3a := lc_lt e125x2 c125x3
              have i125x3a := lr_lt1 (-2147483648) (-1) c125x3a i114 (l_c 0 rfl) rfl
              have i125x3b := l_b e114 i125x3a
              refine g_iconst 0 18 (gd rfl) rfl rfl ?_
              refine g_ireturn (gd rfl) rfl (nb01 (in_w 0 1 (in_c 0 rfl) rfl)) (hp125 _ _ ?_)
              show GG _ _ _ _ _ _ _ _ [.int (Int32.ofInt 0)] _ _ _
              refine g_if_eq 131 168 (gd rfl) rfl rfl (fun c128 => ?_) (fun c128 => ?_)
              · skip
                have n168 : s = s := by rfl
                exact gg_w (by omega) (gg_f (gf_cons rfl (gf_cons rfl (gf_cons rfl (gf_cons rfl (gf_cons rfl (gf_cons rfl gf_nil)))))) (ct168 s z5 z14 z81 hI fr_rf (in_w 97 97 i18 rfl) (in_w 0 160 i91 rfl) n168))
              · skip
                exact zn_ne c128 (in_c 0 rfl) rfl
            · skip
              have i125x3 := z_ge 0 1 c125x3 i125x2 rfl
              have c125x3a := lc_ge e125x2 c125x3
              have i125x3a := lr_le2 0 2147483647 c125x3a (l_c 0 rfl) i114 rfl
              have i125x3b := l_b e114 i125x3a
              refine g_lload_n 7 (gd rfl) rfl rfl ?_
              refine g_lload 9 (gd rfl) rfl rfl ?_
              refine g_lcmp 10 (gd rfl) rfl (fun z125x9 e125x9 => ?_)
              have i125x9 := lc_in e125x9
              refine g_if_gt 13 17 (gd rfl) rfl rfl (fun c125x10 => ?_) (fun c125x10 => ?_)
              · skip
                have i125x10 := z_gt 1 1 c125x10 i125x9 rfl
                have c125x10a := lc_gt e125x9 c125x10
                refine g_iconst 0 18 (gd rfl) rfl rfl ?_
                refine g_ireturn (gd rfl) rfl (nb01 (in_w 0 1 (in_c 0 rfl) rfl)) (hp125 _ _ ?_)
                show GG _ _ _ _ _ _ _ _ [.int (Int32.ofInt 0)] _ _ _
                refine g_if_eq 131 168 (gd rfl) rfl rfl (fun c128 => ?_) (fun c128 => ?_)
                · skip
                  have n168 : s = s := by rfl
                  exact gg_w (by omega) (gg_f (gf_cons rfl (gf_cons rfl (gf_cons rfl (gf_cons rfl (gf_cons rfl (gf_cons rfl gf_nil)))))) (ct168 s z5 z14 z81 hI fr_rf (in_w 97 97 i18 rfl) (in_w 0 160 i91 rfl) n168))
                · skip
                  exact zn_ne c128 (in_c 0 rfl) rfl
              · skip
                have i125x10 := z_le (-1) 0 c125x10 i125x9 rfl
                have c125x10a := lc_le e125x9 c125x10
                have i125x10a := lr_le1 0 31 c125x10a i125x3a i124 rfl
                have i125x10b := l_b e114 i125x10a
                have i125x10c := lr_le2 0 31 c125x10a i125x3a i124 rfl
                have i125x10d := l_b e124 i125x10c
                refine g_iconst 1 14 (gd rfl) rfl rfl ?_
                refine g_goto 18 (gd rfl) rfl ?_
                refine g_ireturn (gd rfl) rfl (nb01 (in_w 0 1 (in_c 1 rfl) rfl)) (hp125 _ _ ?_)
                show GG _ _ _ _ _ _ _ _ [.int (Int32.ofInt 1)] _ _ _
                refine g_if_eq 131 168 (gd rfl) rfl rfl (fun c128 => ?_) (fun c128 => ?_)
                · skip
                  exact zn_eq c128 (in_c 1 rfl) rfl
                · skip
                  refine g_aload_n 132 (gd rfl) rfl rfl ?_
                  refine g_getA (q2 := 128) 135 (gd rfl) rfl rfl rfl rfl ?_
                  refine g_iload_n 136 (gd rfl) rfl rfl ?_
                  refine g_iconst 2 137 (gd rfl) rfl rfl ?_
                  refine g_iadd 138 (gd rfl) rfl (fun z137 e137 => ?_)
                  have i137 := in_add 2 2497 e137 h2 (in_c 2 rfl) rfl rfl
                  refine g_iaload 139 (gd rfl) rfl (n := 2500) rfl (in_ix i137 rfl) (fun z138 e138 => ?_)
                  refine g_calls (As := [.int z138]) (r := []) 142 (gd rfl) rfl rfl rfl rfl rfl (Nat.le_of_ble_eq_true rfl) (mc := 0) (ms := 0) (Nat.zero_le _) (Nat.zero_le _) (P := fun v u => _) ?_ (fun v u h => h)
                  intro po139 xx139 hp139 hx139
                  refine g_enter2 (k := 279) (N := 300) (by omega) rfl (Nat.le_of_ble_eq_true rfl) ?_
                  refine g_iload_n 1 (gd rfl) rfl rfl ?_
                  refine g_i2l 2 (gd rfl) rfl (fun z139x1 e139x1 => ?_)
                  have i139x1 := l_i e139x1 (i_rng z138)
                  refine g_ldc2_w (-1000000) 5 (gd rfl) rfl rfl ?_
                  refine g_ldc2_w 1000000 8 (gd rfl) rfl rfl ?_
                  refine g_calls (As := [.long z139x1, .long (Int64.ofInt (-1000000)), .long (Int64.ofInt 1000000)]) (r := []) 11 (gd rfl) rfl rfl rfl rfl rfl (Nat.le_of_ble_eq_true rfl) (mc := 0) (ms := 0) (Nat.zero_le _) (Nat.zero_le _) (P := fun v u => _) ?_ (fun v u h => h)
                  intro po139x8 xx139x8 hp139x8 hx139x8
                  refine g_enter2 (k := 269) (N := 300) (by omega) rfl (Nat.le_of_ble_eq_true rfl) ?_
                  refine g_lload_n 1 (gd rfl) rfl rfl ?_
                  refine g_lload_n 2 (gd rfl) rfl rfl ?_
                  refine g_lcmp 3 (gd rfl) rfl (fun z139x8x2 e139x8x2 => ?_)
                  have i139x8x2 := lc_in e139x8x2
                  refine g_if_lt 6 17 (gd rfl) rfl rfl (fun c139x8x3 => ?_) (fun c139x8x3 => ?_)
                  · skip
                    have i139x8x3 := z_lt (-1) (-1) c139x8x3 i139x8x2 rfl
                    have c139x8x3a := lc_lt e139x8x2 c139x8x3
                    have i139x8x3a := lr_lt1 (-2147483648) (-1000001) c139x8x3a i139x1 (l_c (-1000000) rfl) rfl
                    have i139x8x3b := l_b e139x1 i139x8x3a
                    refine g_iconst 0 18 (gd rfl) rfl rfl ?_
                    refine g_ireturn (gd rfl) rfl (nb01 (in_w 0 1 (in_c 0 rfl) rfl)) (hp139x8 _ _ ?_)
                    show GG _ _ _ _ _ _ _ _ [.int (Int32.ofInt 0)] _ _ _
                    refine g_ireturn (gd rfl) rfl (nb01 (in_w 0 1 (in_c 0 rfl) rfl)) (hp139 _ _ ?_)
                    show GG _ _ _ _ _ _ _ _ [.int (Int32.ofInt 0)] _ _ _
                    refine g_if_eq 145 168 (gd rfl) rfl rfl (fun c142 => ?_) (fun c142 => ?_)
                    · skip
                      have n168 : s = s := by rfl
                      exact gg_w (by omega) (gg_f (gf_cons rfl (gf_cons rfl (gf_cons rfl (gf_cons rfl (gf_cons rfl (gf_cons rfl gf_nil)))))) (ct168 s z5 z14 z81 hI fr_rf (in_w 97 97 i18 rfl) (in_w 0 160 i91 rfl) n168))
                    · skip
                      exact zn_ne c142 (in_c 0 rfl) rfl
                  · skip
                    have i139x8x3 := z_ge 0 1 c139x8x3 i139x8x2 rfl
                    have c139x8x3a := lc_ge e139x8x2 c139x8x3
                    have i139x8x3a := lr_le2 (-1000000) 2147483647 c139x8x3a (l_c (-1000000) rfl) i139x1 rfl
                    have i139x8x3b := l_b e139x1 i139x8x3a
                    refine g_lload_n 7 (gd rfl) rfl rfl ?_
                    refine g_lload 9 (gd rfl) rfl rfl ?_
                    refine g_lcmp 10 (gd rfl) rfl (fun z139x8x9 e139x8x9 => ?_)
                    have i139x8x9 := lc_in e139x8x9
                    refine g_if_gt 13 17 (gd rfl) rfl rfl (fun c139x8x10 => ?_) (fun c139x8x10 => ?_)
                    · skip
                      have i139x8x10 := z_gt 1 1 c139x8x10 i139x8x9 rfl
                      have c139x8x10a := lc_gt e139x8x9 c139x8x10
                      have i139x8x10a := lr_lt2 1000001 2147483647 c139x8x10a (l_c 1000000 rfl) i139x8x3a rfl
                      have i139x8x10b := l_b e139x1 i139x8x10a
                      refine g_iconst 0 18 (gd rfl) rfl rfl ?_
                      refine g_ireturn (gd rfl) rfl (nb01 (in_w 0 1 (in_c 0 rfl) rfl)) (hp139x8 _ _ ?_)
                      show GG _ _ _ _ _ _ _ _ [.int (Int32.ofInt 0)] _ _ _
                      refine g_ireturn (gd rfl) rfl (nb01 (in_w 0 1 (in_c 0 rfl) rfl)) (hp139 _ _ ?_)
                      show GG _ _ _ _ _ _ _ _ [.int (Int32.ofInt 0)] _ _ _
                      refine g_if_eq 145 168 (gd rfl) rfl rfl (fun c142 => ?_) (fun c142 => ?_)
                      · skip
                        have n168 : s = s := by rfl
                        exact gg_w (by omega) (gg_f (gf_cons rfl (gf_cons rfl (gf_cons rfl (gf_cons rfl (gf_cons rfl (gf_cons rfl gf_nil)))))) (ct168 s z5 z14 z81 hI fr_rf (in_w 97 97 i18 rfl) (in_w 0 160 i91 rfl) n168))
                      · skip
                        exact zn_ne c142 (in_c 0 rfl) rfl
                    · skip
                      have i139x8x10 := z_le (-1) 0 c139x8x10 i139x8x9 rfl
                      have c139x8x10a := lc_le e139x8x9 c139x8x10
                      have i139x8x10a := lr_le1 (-1000000) 1000000 c139x8x10a i139x8x3a (l_c 1000000 rfl) rfl
                      have i139x8x10b := l_b e139x1 i139x8x10a
                      refine g_iconst 1 14 (gd rfl) rfl rfl ?_
                      refine g_goto 18 (gd rfl) rfl ?_
                      refine g_ireturn (gd rfl) rfl (nb01 (in_w 0 1 (in_c 1 rfl) rfl)) (hp139x8 _ _ ?_)
                      show GG _ _ _ _ _ _ _ _ [.int (Int32.ofInt 1)] _ _ _
                      refine g_ireturn (gd rfl) rfl (nb01 (in_w 0 1 (in_c 1 rfl) rfl)) (hp139 _ _ ?_)
                      show GG _ _ _ _ _ _ _ _ [.int (Int32.ofInt 1)] _ _ _
                      refine g_if_eq 145 168 (gd rfl) rfl rfl (fun c142 => ?_) (fun c142 => ?_)
                      · skip
                        exact zn_eq c142 (in_c 1 rfl) rfl
                      · skip
                        refine g_aload_n 146 (gd rfl) rfl rfl ?_
                        refine g_getA (q2 := 128) 149 (gd rfl) rfl rfl rfl rfl ?_
                        refine g_iload_n 150 (gd rfl) rfl rfl ?_
                        refine g_iconst 3 151 (gd rfl) rfl rfl ?_
                        refine g_iadd 152 (gd rfl) rfl (fun z151 e151 => ?_)
                        have i151 := in_add 3 2498 e151 h2 (in_c 3 rfl) rfl rfl
                        refine g_iaload 153 (gd rfl) rfl (n := 2500) rfl (in_ix i151 rfl) (fun z152 e152 => ?_)
                        refine g_i2l 154 (gd rfl) rfl (fun z153 e153 => ?_)
                        have i153 := l_i e153 (i_rng z152)
                        refine g_lconst 0 155 (gd rfl) rfl rfl ?_
                        refine g_ldc2_w 1000000 158 (gd rfl) rfl rfl ?_
                        refine g_calls (As := [.long z153, .long (Int64.ofInt 0), .long (Int64.ofInt 1000000)]) (r := []) 161 (gd rfl) rfl rfl rfl rfl rfl (Nat.le_of_ble_eq_true rfl) (mc := 0) (ms := 0) (Nat.zero_le _) (Nat.zero_le _) (P := fun v u => _) ?_ (fun v u h => h)
                        intro po158 xx158 hp158 hx158
                        refine g_enter2 (k := 269) (N := 300) (by omega) rfl (Nat.le_of_ble_eq_true rfl) ?_
                        refine g_lload_n 1 (gd rfl) rfl rfl ?_
                        refine g_lload_n 2 (gd rfl) rfl rfl ?_
                        refine g_lcmp 3 (gd rfl) rfl (fun z158x2 e158x2 => ?_)
                        have i158x2 := lc_in e158x2
                        refine g_if_lt 6 17 (gd rfl) rfl rfl (fun c158x3 => ?_) (fun c158x3 => ?_)
                        · skip
                          have i158x3 := z_lt (-1) (-1) c158x3 i158x2 rfl
                          have c158x3a := lc_lt e158x2 c158x3
                          have i158x3a := lr_lt1 (-2147483648) (-1) c158x3a i153 (l_c 0 rfl) rfl
                          have i158x3b := l_b e153 i158x3a
                          refine g_iconst 0 18 (gd rfl) rfl rfl ?_
                          refine g_ireturn (gd rfl) rfl (nb01 (in_w 0 1 (in_c 0 rfl) rfl)) (hp158 _ _ ?_)
                          show GG _ _ _ _ _ _ _ _ [.int (Int32.ofInt 0)] _ _ _
                          refine g_if_eq 164 168 (gd rfl) rfl rfl (fun c161 => ?_) (fun c161 => ?_)
                          · skip
                            have n168 : s = s := by rfl
                            exact gg_w (by omega) (gg_f (gf_cons rfl (gf_cons rfl (gf_cons rfl (gf_cons rfl (gf_cons rfl (gf_cons rfl gf_nil)))))) (ct168 s z5 z14 z81 hI fr_rf (in_w 97 97 i18 rfl) (in_w 0 160 i91 rfl) n168))
                          · skip
                            exact zn_ne c161 (in_c 0 rfl) rfl
                        · skip
                          have i158x3 := z_ge 0 1 c158x3 i158x2 rfl
                          have c158x3a := lc_ge e158x2 c158x3
                          have i158x3a := lr_le2 0 2147483647 c158x3a (l_c 0 rfl) i153 rfl
                          have i158x3b := l_b e153 i158x3a
                          refine g_lload_n 7 (gd rfl) rfl rfl ?_
                          refine g_lload 9 (gd rfl) rfl rfl ?_
                          refine g_lcmp 10 (gd rfl) rfl (fun z158x9 e158x9 => ?_)
                          have i158x9 := lc_in e158x9
                          refine g_if_gt 13 17 (gd rfl) rfl rfl (fun c158x10 => ?_) (fun c158x10 => ?_)
                          · skip
                            have i158x10 := z_gt 1 1 c158x10 i158x9 rfl
                            have c158x10a := lc_gt e158x9 c158x10
                            have i158x10a := lr_lt2 1000001 2147483647 c158x10a (l_c 1000000 rfl) i158x3a rfl
                            have i158x10b := l_b e153 i158x10a
                            refine g_iconst 0 18 (gd rfl) rfl rfl ?_
                            refine g_ireturn (gd rfl) rfl (nb01 (in_w 0 1 (in_c 0 rfl) rfl)) (hp158 _ _ ?_)
                            show GG _ _ _ _ _ _ _ _ [.int (Int32.ofInt 0)] _ _ _
                            refine g_if_eq 164 168 (gd rfl) rfl rfl (fun c161 => ?_) (fun c161 => ?_)
                            · skip
                              have n168 : s = s := by rfl
                              exact gg_w (by omega) (gg_f (gf_cons rfl (gf_cons rfl (gf_cons rfl (gf_cons rfl (gf_cons rfl (gf_cons rfl gf_nil)))))) (ct168 s z5 z14 z81 hI fr_rf (in_w 97 97 i18 rfl) (in_w 0 160 i91 rfl) n168))
                            · skip
                              exact zn_ne c161 (in_c 0 rfl) rfl
                          · skip
                            have i158x10 := z_le (-1) 0 c158x10 i158x9 rfl
                            have c158x10a := lc_le e158x9 c158x10
                            have i158x10a := lr_le1 0 1000000 c158x10a i158x3a (l_c 1000000 rfl) rfl
                            have i158x10b := l_b e153 i158x10a
                            refine g_iconst 1 14 (gd rfl) rfl rfl ?_
                            refine g_goto 18 (gd rfl) rfl ?_
                            refine g_ireturn (gd rfl) rfl (nb01 (in_w 0 1 (in_c 1 rfl) rfl)) (hp158 _ _ ?_)
                            show GG _ _ _ _ _ _ _ _ [.int (Int32.ofInt 1)] _ _ _
                            refine g_if_eq 164 168 (gd rfl) rfl rfl (fun c161 => ?_) (fun c161 => ?_)
                            · skip
                              exact zn_eq c161 (in_c 1 rfl) rfl
                            · skip
                              refine g_iconst 1 165 (gd rfl) rfl rfl ?_
                              refine g_goto 169 (gd rfl) rfl ?_
                              refine g_istore 171 (gd rfl) rfl (Nat.le_of_ble_eq_true rfl) ?_
                              refine g_iload 173 (gd rfl) rfl rfl ?_
                              refine g_if_eq 176 188 (gd rfl) rfl rfl (fun c173 => ?_) (fun c173 => ?_)
                              · skip
                                exact zn_eq c173 (in_c 1 rfl) rfl
                              · skip
                                refine g_aload_n 177 (gd rfl) rfl rfl ?_
                                refine g_getA (q2 := 112) 180 (gd rfl) rfl rfl rfl rfl ?_
                                refine g_sipush 320 183 (gd rfl) rfl rfl ?_
                                refine g_iload 185 (gd rfl) rfl rfl ?_
                                refine g_iadd 186 (gd rfl) rfl (fun z185 e185 => ?_)
                                have i185 := in_add 320 479 e185 (in_c 320 rfl) i91 rfl rfl
                                refine g_iconst 1 187 (gd rfl) rfl rfl ?_
                                refine g_bastore 188 (gd rfl) rfl (n := 480) rfl (in_ix i185 rfl) ?_
                                have hI187 : Inv (sI s 112 z185.toNatClampNeg (vp_nar .boolean (Int32.ofInt 1))) := by exact inv_t3 hI (by show 320 ≤ (z185).toInt.toNat; have a0 := h2; unfold In at a0; have a1 := i18; unfold In at a1; have a2 := (in_c 1 rfl); unfold In at a2; have a3 := i91; unfold In at a3; have a4 := i125x10b; unfold In at a4; have a5 := i106x10b; unfold In at a5; have a6 := i185; unfold In at a6; have a7 := t_add e185 (in_c 320 rfl) i91 rfl; have a8 := (in_c 320 rfl); unfold In at a8; have a9 := tx_i2l e153; have a10 := i158x10b; unfold In at a10; have a11 := i151; unfold In at a11; have a12 := t_add e151 h2 (in_c 3 rfl) rfl; have a13 := (in_c 3 rfl); unfold In at a13; have a14 := tx_i2l e139x1; have a15 := i139x8x10b; unfold In at a15; have a16 := i137; unfold In at a16; have a17 := t_add e137 h2 (in_c 2 rfl) rfl; have a18 := (in_c 2 rfl); unfold In at a18; have a19 := tx_i2l e124; have a20 := i125x10d; unfold In at a20; have a21 := t_sub e123 i103 (in_c 1 rfl) rfl; have a22 := i103; unfold In at a22; have a23 := tx_i2l e114; have a24 := tx_i2l e105; have a25 := i106x10d; unfold In at a25; have a26 := t_sub e104 i103 (in_c 1 rfl) rfl; have a27 := tx_i2l e95; have a28 := i13; unfold In at a28; have a29 := t_add e13 h2 (in_c 1 rfl) rfl; omega) (in_w 0 1 (nar01 (in_w 0 1 (in_c 1 rfl) rfl)) rfl)
                                have n188 : DNE s (sI s 112 z185.toNatClampNeg (vp_nar .boolean (Int32.ofInt 1))) (x1).toInt (x2).toNatClampNeg ((Int32.ofInt 1)).toInt := by exact dne_a (p := z81.toNatClampNeg) (by have a0 := h2; unfold In at a0; have a1 := i18; unfold In at a1; have a2 := (in_c 1 rfl); unfold In at a2; have a3 := i91; unfold In at a3; have a4 := i125x10b; unfold In at a4; have a5 := i106x10b; unfold In at a5; have a6 := i185; unfold In at a6; have a7 := t_add e185 (in_c 320 rfl) i91 rfl; have a8 := (in_c 320 rfl); unfold In at a8; have a9 := tx_i2l e153; have a10 := i158x10b; unfold In at a10; have a11 := i151; unfold In at a11; have a12 := t_add e151 h2 (in_c 3 rfl) rfl; have a13 := (in_c 3 rfl); unfold In at a13; have a14 := tx_i2l e139x1; have a15 := i139x8x10b; unfold In at a15; have a16 := i137; unfold In at a16; have a17 := t_add e137 h2 (in_c 2 rfl) rfl; have a18 := (in_c 2 rfl); unfold In at a18; have a19 := tx_i2l e124; have a20 := i125x10d; unfold In at a20; have a21 := t_sub e123 i103 (in_c 1 rfl) rfl; have a22 := i103; unfold In at a22; have a23 := tx_i2l e114; have a24 := tx_i2l e105; have a25 := i106x10d; unfold In at a25; have a26 := t_sub e104 i103 (in_c 1 rfl) rfl; have a27 := tx_i2l e95; have a28 := i13; unfold In at a28; have a29 := t_add e13 h2 (in_c 1 rfl) rfl; omega) p81 (by show z81.toInt.toNat < 160; have a0 := h2; unfold In at a0; have a1 := i18; unfold In at a1; have a2 := (in_c 1 rfl); unfold In at a2; have a3 := i91; unfold In at a3; have a4 := i125x10b; unfold In at a4; have a5 := i106x10b; unfold In at a5; have a6 := i185; unfold In at a6; have a7 := t_add e185 (in_c 320 rfl) i91 rfl; have a8 := (in_c 320 rfl); unfold In at a8; have a9 := tx_i2l e153; have a10 := i158x10b; unfold In at a10; have a11 := i151; unfold In at a11; have a12 := t_add e151 h2 (in_c 3 rfl) rfl; have a13 := (in_c 3 rfl); unfold In at a13; have a14 := tx_i2l e139x1; have a15 := i139x8x10b; unfold In at a15; have a16 := i137; unfold In at a16; have a17 := t_add e137 h2 (in_c 2 rfl) rfl; have a18 := (in_c 2 rfl); unfold In at a18; have a19 := tx_i2l e124; have a20 := i125x10d; unfold In at a20; have a21 := t_sub e123 i103 (in_c 1 rfl) rfl; have a22 := i103; unfold In at a22; have a23 := tx_i2l e114; have a24 := tx_i2l e105; have a25 := i106x10d; unfold In at a25; have a26 := t_sub e104 i103 (in_c 1 rfl) rfl; have a27 := tx_i2l e95; have a28 := i13; unfold In at a28; have a29 := t_add e13 h2 (in_c 1 rfl) rfl; omega) (by show z185.toInt.toNat = 320 + z81.toInt.toNat; have a0 := h2; unfold In at a0; have a1 := i18; unfold In at a1; have a2 := (in_c 1 rfl); unfold In at a2; have a3 := i91; unfold In at a3; have a4 := i125x10b; unfold In at a4; have a5 := i106x10b; unfold In at a5; have a6 := i185; unfold In at a6; have a7 := t_add e185 (in_c 320 rfl) i91 rfl; have a8 := (in_c 320 rfl); unfold In at a8; have a9 := tx_i2l e153; have a10 := i158x10b; unfold In at a10; have a11 := i151; unfold In at a11; have a12 := t_add e151 h2 (in_c 3 rfl) rfl; have a13 := (in_c 3 rfl); unfold In at a13; have a14 := tx_i2l e139x1; have a15 := i139x8x10b; unfold In at a15; have a16 := i137; unfold In at a16; have a17 := t_add e137 h2 (in_c 2 rfl) rfl; have a18 := (in_c 2 rfl); unfold In at a18; have a19 := tx_i2l e124; have a20 := i125x10d; unfold In at a20; have a21 := t_sub e123 i103 (in_c 1 rfl) rfl; have a22 := i103; unfold In at a22; have a23 := tx_i2l e114; have a24 := tx_i2l e105; have a25 := i106x10d; unfold In at a25; have a26 := t_sub e104 i103 (in_c 1 rfl) rfl; have a27 := tx_i2l e95; have a28 := i13; unfold In at a28; have a29 := t_add e13 h2 (in_c 1 rfl) rfl; omega) ⟨by rw [← e5]; have h := i106x3b.1; omega, by rw [← e5]; have ha := c106x10a; have hb := tx_i2l e95; have hc := tx_i2l e105; have he : z102 = s.1 110 2 := e102; rw [← he]; have a0 := h2; unfold In at a0; have a1 := i18; unfold In at a1; have a2 := (in_c 1 rfl); unfold In at a2; have a3 := i91; unfold In at a3; have a4 := i125x10b; unfold In at a4; have a5 := i106x10b; unfold In at a5; have a6 := i185; unfold In at a6; have a7 := t_add e185 (in_c 320 rfl) i91 rfl; have a8 := (in_c 320 rfl); unfold In at a8; have a9 := tx_i2l e153; have a10 := i158x10b; unfold In at a10; have a11 := i151; unfold In at a11; have a12 := t_add e151 h2 (in_c 3 rfl) rfl; have a13 := (in_c 3 rfl); unfold In at a13; have a14 := tx_i2l e139x1; have a15 := i139x8x10b; unfold In at a15; have a16 := i137; unfold In at a16; have a17 := t_add e137 h2 (in_c 2 rfl) rfl; have a18 := (in_c 2 rfl); unfold In at a18; have a19 := tx_i2l e124; have a20 := i125x10d; unfold In at a20; have a21 := t_sub e123 i103 (in_c 1 rfl) rfl; have a22 := i103; unfold In at a22; have a23 := tx_i2l e114; have a24 := tx_i2l e105; have a25 := i106x10d; unfold In at a25; have a26 := t_sub e104 i103 (in_c 1 rfl) rfl; have a27 := tx_i2l e95; have a28 := i13; unfold In at a28; have a29 := t_add e13 h2 (in_c 1 rfl) rfl; omega⟩ ⟨by rw [show x2.toNatClampNeg + 1 = z13.toNatClampNeg from (by show x2.toInt.toNat + 1 = z13.toInt.toNat; have a0 := h2; unfold In at a0; have a1 := i18; unfold In at a1; have a2 := (in_c 1 rfl); unfold In at a2; have a3 := i91; unfold In at a3; have a4 := i125x10b; unfold In at a4; have a5 := i106x10b; unfold In at a5; have a6 := i185; unfold In at a6; have a7 := t_add e185 (in_c 320 rfl) i91 rfl; have a8 := (in_c 320 rfl); unfold In at a8; have a9 := tx_i2l e153; have a10 := i158x10b; unfold In at a10; have a11 := i151; unfold In at a11; have a12 := t_add e151 h2 (in_c 3 rfl) rfl; have a13 := (in_c 3 rfl); unfold In at a13; have a14 := tx_i2l e139x1; have a15 := i139x8x10b; unfold In at a15; have a16 := i137; unfold In at a16; have a17 := t_add e137 h2 (in_c 2 rfl) rfl; have a18 := (in_c 2 rfl); unfold In at a18; have a19 := tx_i2l e124; have a20 := i125x10d; unfold In at a20; have a21 := t_sub e123 i103 (in_c 1 rfl) rfl; have a22 := i103; unfold In at a22; have a23 := tx_i2l e114; have a24 := tx_i2l e105; have a25 := i106x10d; unfold In at a25; have a26 := t_sub e104 i103 (in_c 1 rfl) rfl; have a27 := tx_i2l e95; have a28 := i13; unfold In at a28; have a29 := t_add e13 h2 (in_c 1 rfl) rfl; omega), ← e14]; have h := i125x3b.1; omega, by rw [show x2.toNatClampNeg + 1 = z13.toNatClampNeg from (by show x2.toInt.toNat + 1 = z13.toInt.toNat; have a0 := h2; unfold In at a0; have a1 := i18; unfold In at a1; have a2 := (in_c 1 rfl); unfold In at a2; have a3 := i91; unfold In at a3; have a4 := i125x10b; unfold In at a4; have a5 := i106x10b; unfold In at a5; have a6 := i185; unfold In at a6; have a7 := t_add e185 (in_c 320 rfl) i91 rfl; have a8 := (in_c 320 rfl); unfold In at a8; have a9 := tx_i2l e153; have a10 := i158x10b; unfold In at a10; have a11 := i151; unfold In at a11; have a12 := t_add e151 h2 (in_c 3 rfl) rfl; have a13 := (in_c 3 rfl); unfold In at a13; have a14 := tx_i2l e139x1; have a15 := i139x8x10b; unfold In at a15; have a16 := i137; unfold In at a16; have a17 := t_add e137 h2 (in_c 2 rfl) rfl; have a18 := (in_c 2 rfl); unfold In at a18; have a19 := tx_i2l e124; have a20 := i125x10d; unfold In at a20; have a21 := t_sub e123 i103 (in_c 1 rfl) rfl; have a22 := i103; unfold In at a22; have a23 := tx_i2l e114; have a24 := tx_i2l e105; have a25 := i106x10d; unfold In at a25; have a26 := t_sub e104 i103 (in_c 1 rfl) rfl; have a27 := tx_i2l e95; have a28 := i13; unfold In at a28; have a29 := t_add e13 h2 (in_c 1 rfl) rfl; omega), ← e14]; have ha := c125x10a; have hb := tx_i2l e114; have hc := tx_i2l e124; have he : z102 = s.1 110 2 := e102; rw [← he]; have a0 := h2; unfold In at a0; have a1 := i18; unfold In at a1; have a2 := (in_c 1 rfl); unfold In at a2; have a3 := i91; unfold In at a3; have a4 := i125x10b; unfold In at a4; have a5 := i106x10b; unfold In at a5; have a6 := i185; unfold In at a6; have a7 := t_add e185 (in_c 320 rfl) i91 rfl; have a8 := (in_c 320 rfl); unfold In at a8; have a9 := tx_i2l e153; have a10 := i158x10b; unfold In at a10; have a11 := i151; unfold In at a11; have a12 := t_add e151 h2 (in_c 3 rfl) rfl; have a13 := (in_c 3 rfl); unfold In at a13; have a14 := tx_i2l e139x1; have a15 := i139x8x10b; unfold In at a15; have a16 := i137; unfold In at a16; have a17 := t_add e137 h2 (in_c 2 rfl) rfl; have a18 := (in_c 2 rfl); unfold In at a18; have a19 := tx_i2l e124; have a20 := i125x10d; unfold In at a20; have a21 := t_sub e123 i103 (in_c 1 rfl) rfl; have a22 := i103; unfold In at a22; have a23 := tx_i2l e114; have a24 := tx_i2l e105; have a25 := i106x10d; unfold In at a25; have a26 := t_sub e104 i103 (in_c 1 rfl) rfl; have a27 := tx_i2l e95; have a28 := i13; unfold In at a28; have a29 := t_add e13 h2 (in_c 1 rfl) rfl; omega⟩ (by rw [show x2.toNatClampNeg + 2 = z137.toNatClampNeg from (by show x2.toInt.toNat + 2 = z137.toInt.toNat; have a0 := h2; unfold In at a0; have a1 := i18; unfold In at a1; have a2 := (in_c 1 rfl); unfold In at a2; have a3 := i91; unfold In at a3; have a4 := i125x10b; unfold In at a4; have a5 := i106x10b; unfold In at a5; have a6 := i185; unfold In at a6; have a7 := t_add e185 (in_c 320 rfl) i91 rfl; have a8 := (in_c 320 rfl); unfold In at a8; have a9 := tx_i2l e153; have a10 := i158x10b; unfold In at a10; have a11 := i151; unfold In at a11; have a12 := t_add e151 h2 (in_c 3 rfl) rfl; have a13 := (in_c 3 rfl); unfold In at a13; have a14 := tx_i2l e139x1; have a15 := i139x8x10b; unfold In at a15; have a16 := i137; unfold In at a16; have a17 := t_add e137 h2 (in_c 2 rfl) rfl; have a18 := (in_c 2 rfl); unfold In at a18; have a19 := tx_i2l e124; have a20 := i125x10d; unfold In at a20; have a21 := t_sub e123 i103 (in_c 1 rfl) rfl; have a22 := i103; unfold In at a22; have a23 := tx_i2l e114; have a24 := tx_i2l e105; have a25 := i106x10d; unfold In at a25; have a26 := t_sub e104 i103 (in_c 1 rfl) rfl; have a27 := tx_i2l e95; have a28 := i13; unfold In at a28; have a29 := t_add e13 h2 (in_c 1 rfl) rfl; omega), ← e138]; exact i139x8x10b) (by rw [show x2.toNatClampNeg + 3 = z151.toNatClampNeg from (by show x2.toInt.toNat + 3 = z151.toInt.toNat; have a0 := h2; unfold In at a0; have a1 := i18; unfold In at a1; have a2 := (in_c 1 rfl); unfold In at a2; have a3 := i91; unfold In at a3; have a4 := i125x10b; unfold In at a4; have a5 := i106x10b; unfold In at a5; have a6 := i185; unfold In at a6; have a7 := t_add e185 (in_c 320 rfl) i91 rfl; have a8 := (in_c 320 rfl); unfold In at a8; have a9 := tx_i2l e153; have a10 := i158x10b; unfold In at a10; have a11 := i151; unfold In at a11; have a12 := t_add e151 h2 (in_c 3 rfl) rfl; have a13 := (in_c 3 rfl); unfold In at a13; have a14 := tx_i2l e139x1; have a15 := i139x8x10b; unfold In at a15; have a16 := i137; unfold In at a16; have a17 := t_add e137 h2 (in_c 2 rfl) rfl; have a18 := (in_c 2 rfl); unfold In at a18; have a19 := tx_i2l e124; have a20 := i125x10d; unfold In at a20; have a21 := t_sub e123 i103 (in_c 1 rfl) rfl; have a22 := i103; unfold In at a22; have a23 := tx_i2l e114; have a24 := tx_i2l e105; have a25 := i106x10d; unfold In at a25; have a26 := t_sub e104 i103 (in_c 1 rfl) rfl; have a27 := tx_i2l e95; have a28 := i13; unfold In at a28; have a29 := t_add e13 h2 (in_c 1 rfl) rfl; omega), ← e152]; exact i158x10b)
                                exact gg_w (by omega) (gg_f (gf_cons rfl (gf_cons rfl (gf_cons rfl (gf_cons rfl (gf_cons rfl (gf_cons rfl (gf_cons rfl gf_nil))))))) (ct188 (sI s 112 z185.toNatClampNeg (vp_nar .boolean (Int32.ofInt 1))) z5 z14 z81 (Int32.ofInt 1) hI187 (fr_sI rfl fr_rf) (in_w 97 97 i18 rfl) (in_w 0 160 i91 rfl) (in_w 0 1 (in_c 1 rfl) rfl) n188))
  · skip
    have i18 := sw_eq c18
    refine g_aload_n 53 (gd rfl) rfl rfl ?_
    refine g_getA (q2 := 110) 56 (gd rfl) rfl rfl rfl rfl ?_
    refine g_iconst 2 57 (gd rfl) rfl rfl ?_
    refine g_dup2 58 (gd rfl) rfl rfl rfl ?_
    refine g_iaload 59 (gd rfl) rfl (n := 3) rfl (in_ix (in_c 2 rfl) rfl) (fun z58 e58 => ?_)
    have i59 : In z58 0 32 := by rw [e58]; exact q_0
    refine g_iconst 1 60 (gd rfl) rfl rfl ?_
    refine g_iadd 61 (gd rfl) rfl (fun z60 e60 => ?_)
    have i60 := in_add 1 33 e60 i59 (in_c 1 rfl) rfl rfl
    refine g_iastore 62 (gd rfl) rfl (n := 3) rfl (in_ix (in_c 2 rfl) rfl) ?_
    have hI61 : Inv (sI s 110 (Int32.ofInt 2).toNatClampNeg z60) := by exact inv_n2 hI (Nat.le_refl 2)
    refine g_aload_n 63 (gd rfl) rfl rfl ?_
    refine g_getA (q2 := 110) 66 (gd rfl) rfl rfl rfl rfl ?_
    refine g_iconst 2 67 (gd rfl) rfl rfl ?_
    refine g_iaload 68 (gd rfl) rfl (n := 3) rfl (in_ix (in_c 2 rfl) rfl) (fun z67 e67 => ?_)
    have q67 : z60 = z67 := (sI_get).trans e67.symm
    subst q67
    refine g_bipush 32 70 (gd rfl) rfl rfl ?_
    refine g_cmp_gt 73 77 (gd rfl) rfl rfl (fun c70 => ?_) (fun c70 => ?_)
    · skip
      have i70 := r_lt2 33 33 c70 (in_c 32 rfl) i60 rfl
      refine g_iconst 0 78 (gd rfl) rfl rfl ?_
      have n78 : DNE s (sI s 110 (Int32.ofInt 2).toNatClampNeg z60) (x1).toInt (x2).toNatClampNeg ((Int32.ofInt 0)).toInt := by exact dne_n (by have a0 := h2; unfold In at a0; have a1 := i18; unfold In at a1; have a2 := i70; unfold In at a2; have a3 := t_add e60 i59 (in_c 1 rfl) rfl; have a4 := (in_c 1 rfl); unfold In at a4; have a5 := i59; unfold In at a5; have a6 := i13; unfold In at a6; have a7 := t_add e13 h2 (in_c 1 rfl) rfl; omega) e58 (by have a0 := h2; unfold In at a0; have a1 := i18; unfold In at a1; have a2 := i70; unfold In at a2; have a3 := t_add e60 i59 (in_c 1 rfl) rfl; have a4 := (in_c 1 rfl); unfold In at a4; have a5 := i59; unfold In at a5; have a6 := i13; unfold In at a6; have a7 := t_add e13 h2 (in_c 1 rfl) rfl; omega) (fun hz => by first | (exact absurd (by decide) hz) | (have h := i70; unfold In at h; omega))
      exact g_ireturn (gd rfl) rfl (nb01 (in_w 0 1 (in_c 0 rfl) rfl)) (hP _ _ ⟨(sI s 110 (Int32.ofInt 2).toNatClampNeg z60), hI61, (fr_sI rfl fr_rf), (Int32.ofInt 0), rfl, rfl, in_w 0 1 (in_c 0 rfl) rfl, n78⟩)
    · skip
      have i70 := r_le1 1 32 c70 i60 (in_c 32 rfl) rfl
      refine g_iconst 1 74 (gd rfl) rfl rfl ?_
      refine g_goto 78 (gd rfl) rfl ?_
      have n78 : DNE s (sI s 110 (Int32.ofInt 2).toNatClampNeg z60) (x1).toInt (x2).toNatClampNeg ((Int32.ofInt 1)).toInt := by exact dne_n (by have a0 := h2; unfold In at a0; have a1 := i18; unfold In at a1; have a2 := i70; unfold In at a2; have a3 := t_add e60 i59 (in_c 1 rfl) rfl; have a4 := (in_c 1 rfl); unfold In at a4; have a5 := i59; unfold In at a5; have a6 := i13; unfold In at a6; have a7 := t_add e13 h2 (in_c 1 rfl) rfl; omega) e58 (by have a0 := h2; unfold In at a0; have a1 := i18; unfold In at a1; have a2 := i70; unfold In at a2; have a3 := t_add e60 i59 (in_c 1 rfl) rfl; have a4 := (in_c 1 rfl); unfold In at a4; have a5 := i59; unfold In at a5; have a6 := i13; unfold In at a6; have a7 := t_add e13 h2 (in_c 1 rfl) rfl; omega) (fun hz => by first | (exact absurd (by decide) hz) | (have h := i70; unfold In at h; omega))
      exact g_ireturn (gd rfl) rfl (nb01 (in_w 0 1 (in_c 1 rfl) rfl)) (hP _ _ ⟨(sI s 110 (Int32.ofInt 2).toNatClampNeg z60), hI61, (fr_sI rfl fr_rf), (Int32.ofInt 1), rfl, rfl, in_w 0 1 (in_c 1 rfl) rfl, n78⟩)
  · skip
    have i18 := sw_eq c18
    refine g_iload_n 192 (gd rfl) rfl rfl ?_
    refine g_i2l 193 (gd rfl) rfl (fun z192 e192 => ?_)
    have i192 := l_i e192 (i_rng z5)
    refine g_lconst 0 194 (gd rfl) rfl rfl ?_
    refine g_ldc2_w 159 197 (gd rfl) rfl rfl ?_
    refine g_calls (As := [.long z192, .long (Int64.ofInt 0), .long (Int64.ofInt 159)]) (r := []) 200 (gd rfl) rfl rfl rfl rfl rfl (Nat.le_of_ble_eq_true rfl) (mc := 0) (ms := 0) (Nat.zero_le _) (Nat.zero_le _) (P := fun v u => _) ?_ (fun v u h => h)
    intro po197 xx197 hp197 hx197
    refine g_enter2 (k := 269) (N := 300) (by omega) rfl (Nat.le_of_ble_eq_true rfl) ?_
    refine g_lload_n 1 (gd rfl) rfl rfl ?_
    refine g_lload_n 2 (gd rfl) rfl rfl ?_
    refine g_lcmp 3 (gd rfl) rfl (fun z197x2 e197x2 => ?_)
    have i197x2 := lc_in e197x2
    refine g_if_lt 6 17 (gd rfl) rfl rfl (fun c197x3 => ?_) (fun c197x3 => ?_)
    · skip
      have i197x3 := z_lt (-1) (-1) c197x3 i197x2 rfl
      have c197x3a := lc_lt e197x2 c197x3
      have i197x3a := lr_lt1 (-2147483648) (-1) c197x3a i192 (l_c 0 rfl) rfl
      have i197x3b := l_b e192 i197x3a
      refine g_iconst 0 18 (gd rfl) rfl rfl ?_
      refine g_ireturn (gd rfl) rfl (nb01 (in_w 0 1 (in_c 0 rfl) rfl)) (hp197 _ _ ?_)
      show GG _ _ _ _ _ _ _ _ [.int (Int32.ofInt 0)] _ _ _
      refine g_if_eq 203 236 (gd rfl) rfl rfl (fun c200 => ?_) (fun c200 => ?_)
      · skip
        have n236 : s = s := by rfl
        exact gg_w (by omega) (gg_f (gf_cons rfl (gf_cons rfl (gf_cons rfl (gf_cons rfl (gf_cons rfl gf_nil))))) (ct236 s z5 z14 hI fr_rf (in_w 116 116 i18 rfl) n236))
      · skip
        exact zn_ne c200 (in_c 0 rfl) rfl
    · skip
      have i197x3 := z_ge 0 1 c197x3 i197x2 rfl
      have c197x3a := lc_ge e197x2 c197x3
      have i197x3a := lr_le2 0 2147483647 c197x3a (l_c 0 rfl) i192 rfl
      have i197x3b := l_b e192 i197x3a
      refine g_lload_n 7 (gd rfl) rfl rfl ?_
      refine g_lload 9 (gd rfl) rfl rfl ?_
      refine g_lcmp 10 (gd rfl) rfl (fun z197x9 e197x9 => ?_)
      have i197x9 := lc_in e197x9
      refine g_if_gt 13 17 (gd rfl) rfl rfl (fun c197x10 => ?_) (fun c197x10 => ?_)
      · skip
        have i197x10 := z_gt 1 1 c197x10 i197x9 rfl
        have c197x10a := lc_gt e197x9 c197x10
        have i197x10a := lr_lt2 160 2147483647 c197x10a (l_c 159 rfl) i197x3a rfl
        have i197x10b := l_b e192 i197x10a
        refine g_iconst 0 18 (gd rfl) rfl rfl ?_
        refine g_ireturn (gd rfl) rfl (nb01 (in_w 0 1 (in_c 0 rfl) rfl)) (hp197 _ _ ?_)
        show GG _ _ _ _ _ _ _ _ [.int (Int32.ofInt 0)] _ _ _
        refine g_if_eq 203 236 (gd rfl) rfl rfl (fun c200 => ?_) (fun c200 => ?_)
        · skip
          have n236 : s = s := by rfl
          exact gg_w (by omega) (gg_f (gf_cons rfl (gf_cons rfl (gf_cons rfl (gf_cons rfl (gf_cons rfl gf_nil))))) (ct236 s z5 z14 hI fr_rf (in_w 116 116 i18 rfl) n236))
        · skip
          exact zn_ne c200 (in_c 0 rfl) rfl
      · skip
        have i197x10 := z_le (-1) 0 c197x10 i197x9 rfl
        have c197x10a := lc_le e197x9 c197x10
        have i197x10a := lr_le1 0 159 c197x10a i197x3a (l_c 159 rfl) rfl
        have i197x10b := l_b e192 i197x10a
        refine g_iconst 1 14 (gd rfl) rfl rfl ?_
        refine g_goto 18 (gd rfl) rfl ?_
        refine g_ireturn (gd rfl) rfl (nb01 (in_w 0 1 (in_c 1 rfl) rfl)) (hp197 _ _ ?_)
        show GG _ _ _ _ _ _ _ _ [.int (Int32.ofInt 1)] _ _ _
        refine g_if_eq 203 236 (gd rfl) rfl rfl (fun c200 => ?_) (fun c200 => ?_)
        · skip
          exact zn_eq c200 (in_c 1 rfl) rfl
        · skip
          refine g_aload_n 204 (gd rfl) rfl rfl ?_
          refine g_getA (q2 := 112) 207 (gd rfl) rfl rfl rfl rfl ?_
          refine g_sipush 320 210 (gd rfl) rfl rfl ?_
          refine g_iload_n 211 (gd rfl) rfl rfl ?_
          refine g_i2l 212 (gd rfl) rfl (fun z211 e211 => ?_)
          have i211 := l_i e211 i197x10b
          refine g_lconst 0 213 (gd rfl) rfl rfl ?_
          refine g_ldc2_w 159 216 (gd rfl) rfl rfl ?_
          refine g_calls (As := [.long z211, .long (Int64.ofInt 0), .long (Int64.ofInt 159)]) (r := [.int (Int32.ofInt 320), .ref (A 112)]) 219 (gd rfl) rfl rfl rfl rfl rfl (Nat.le_of_ble_eq_true rfl) (mc := 0) (ms := 0) (Nat.zero_le _) (Nat.zero_le _) (P := fun v u => _) ?_ (fun v u h => h)
          intro po216 xx216 hp216 hx216
          refine g_enter2 (k := 269) (N := 300) (by omega) rfl (Nat.le_of_ble_eq_true rfl) ?_
          refine g_lload_n 1 (gd rfl) rfl rfl ?_
          refine g_lload_n 2 (gd rfl) rfl rfl ?_
          refine g_lcmp 3 (gd rfl) rfl (fun z216x2 e216x2 => ?_)
          have i216x2 := lc_in e216x2
          refine g_if_lt 6 17 (gd rfl) rfl rfl (fun c216x3 => ?_) (fun c216x3 => ?_)
          · skip
            have i216x3 := z_lt (-1) (-1) c216x3 i216x2 rfl
            have c216x3a := lc_lt e216x2 c216x3
            exact ln_lt c216x3a i211 (l_c 0 rfl) rfl
          · skip
            have i216x3 := z_ge 0 1 c216x3 i216x2 rfl
            have c216x3a := lc_ge e216x2 c216x3
            refine g_lload_n 7 (gd rfl) rfl rfl ?_
            refine g_lload 9 (gd rfl) rfl rfl ?_
            refine g_lcmp 10 (gd rfl) rfl (fun z216x9 e216x9 => ?_)
            have i216x9 := lc_in e216x9
            refine g_if_gt 13 17 (gd rfl) rfl rfl (fun c216x10 => ?_) (fun c216x10 => ?_)
            · skip
              have i216x10 := z_gt 1 1 c216x10 i216x9 rfl
              have c216x10a := lc_gt e216x9 c216x10
              exact ln_lt c216x10a (l_c 159 rfl) i211 rfl
            · skip
              have i216x10 := z_le (-1) 0 c216x10 i216x9 rfl
              have c216x10a := lc_le e216x9 c216x10
              refine g_iconst 1 14 (gd rfl) rfl rfl ?_
              refine g_goto 18 (gd rfl) rfl ?_
              refine g_ireturn (gd rfl) rfl (nb01 (in_w 0 1 (in_c 1 rfl) rfl)) (hp216 _ _ ?_)
              show GG _ _ _ _ _ _ _ _ [.int (Int32.ofInt 1), .int (Int32.ofInt 320), .ref (A 112)] _ _ _
              refine g_if_eq 222 226 (gd rfl) rfl rfl (fun c219 => ?_) (fun c219 => ?_)
              · skip
                exact zn_eq c219 (in_c 1 rfl) rfl
              · skip
                refine g_iload_n 223 (gd rfl) rfl rfl ?_
                refine g_goto 227 (gd rfl) rfl ?_
                refine g_iadd 228 (gd rfl) rfl (fun z227 e227 => ?_)
                have i227 := in_add 320 479 e227 (in_c 320 rfl) i197x10b rfl rfl
                refine g_baload 229 (gd rfl) rfl (n := 480) rfl (in_ix i227 rfl) (fun z228 e228 => ?_)
                have i228 := inv_I hI (n := 480) (t := 3) 0 1 rfl (in_ix i227 rfl) rfl e228
                refine g_if_eq 232 236 (gd rfl) rfl rfl (fun c229 => ?_) (fun c229 => ?_)
                · skip
                  have i229 := z_eq 0 0 c229 i228 rfl
                  have n236 : s = s := by rfl
                  exact gg_w (by omega) (gg_f (gf_cons rfl (gf_cons rfl (gf_cons rfl (gf_cons rfl (gf_cons rfl gf_nil))))) (ct236 s z5 z14 hI fr_rf (in_w 116 116 i18 rfl) n236))
                · skip
                  have i229 := z_ne 1 1 c229 i228 rfl
                  refine g_iconst 1 233 (gd rfl) rfl rfl ?_
                  refine g_goto 237 (gd rfl) rfl ?_
                  refine g_istore 239 (gd rfl) rfl (Nat.le_of_ble_eq_true rfl) ?_
                  refine g_iload 241 (gd rfl) rfl rfl ?_
                  refine g_if_eq 244 255 (gd rfl) rfl rfl (fun c241 => ?_) (fun c241 => ?_)
                  · skip
                    exact zn_eq c241 (in_c 1 rfl) rfl
                  · skip
                    refine g_aload_n 245 (gd rfl) rfl rfl ?_
                    refine g_getA (q2 := 112) 248 (gd rfl) rfl rfl rfl rfl ?_
                    refine g_sipush 320 251 (gd rfl) rfl rfl ?_
                    refine g_iload_n 252 (gd rfl) rfl rfl ?_
                    refine g_iadd 253 (gd rfl) rfl (fun z252 e252 => ?_)
                    have i252 := in_add 320 479 e252 (in_c 320 rfl) i197x10b rfl rfl
                    refine g_iconst 0 254 (gd rfl) rfl rfl ?_
                    refine g_bastore 255 (gd rfl) rfl (n := 480) rfl (in_ix i252 rfl) ?_
                    have hI254 : Inv (sI s 112 z252.toNatClampNeg (vp_nar .boolean (Int32.ofInt 0))) := by exact inv_t3 hI (by show 320 ≤ (z252).toInt.toNat; have a0 := h2; unfold In at a0; have a1 := i18; unfold In at a1; have a2 := (in_c 1 rfl); unfold In at a2; have a3 := i197x10b; unfold In at a3; have a4 := i252; unfold In at a4; have a5 := t_add e252 (in_c 320 rfl) i197x10b rfl; have a6 := (in_c 320 rfl); unfold In at a6; have a7 := i227; unfold In at a7; have a8 := t_add e227 (in_c 320 rfl) i197x10b rfl; have a9 := tx_i2l e211; have a10 := tx_i2l e192; have a11 := i13; unfold In at a11; have a12 := t_add e13 h2 (in_c 1 rfl) rfl; omega) (in_w 0 1 (nar01 (in_w 0 1 (in_c 0 rfl) rfl)) rfl)
                    have n255 : DNE s (sI s 112 z252.toNatClampNeg (vp_nar .boolean (Int32.ofInt 0))) (x1).toInt (x2).toNatClampNeg ((Int32.ofInt 1)).toInt := by exact dne_t (by have a0 := h2; unfold In at a0; have a1 := i18; unfold In at a1; have a2 := (in_c 1 rfl); unfold In at a2; have a3 := i197x10b; unfold In at a3; have a4 := i252; unfold In at a4; have a5 := t_add e252 (in_c 320 rfl) i197x10b rfl; have a6 := (in_c 320 rfl); unfold In at a6; have a7 := i227; unfold In at a7; have a8 := t_add e227 (in_c 320 rfl) i197x10b rfl; have a9 := tx_i2l e211; have a10 := tx_i2l e192; have a11 := i13; unfold In at a11; have a12 := t_add e13 h2 (in_c 1 rfl) rfl; omega) (by rw [← e5]; exact i197x10b) (by rw [← e5]; show z252.toInt.toNat = 320 + z5.toInt.toNat; have a0 := h2; unfold In at a0; have a1 := i18; unfold In at a1; have a2 := (in_c 1 rfl); unfold In at a2; have a3 := i197x10b; unfold In at a3; have a4 := i252; unfold In at a4; have a5 := t_add e252 (in_c 320 rfl) i197x10b rfl; have a6 := (in_c 320 rfl); unfold In at a6; have a7 := i227; unfold In at a7; have a8 := t_add e227 (in_c 320 rfl) i197x10b rfl; have a9 := tx_i2l e211; have a10 := tx_i2l e192; have a11 := i13; unfold In at a11; have a12 := t_add e13 h2 (in_c 1 rfl) rfl; omega)
                    exact gg_w (by omega) (gg_f (gf_cons rfl (gf_cons rfl (gf_cons rfl (gf_cons rfl (gf_cons rfl (gf_cons rfl gf_nil)))))) (ct255 (sI s 112 z252.toNatClampNeg (vp_nar .boolean (Int32.ofInt 0))) z5 z14 (Int32.ofInt 1) hI254 (fr_sI rfl fr_rf) (in_w 116 116 i18 rfl) (in_w 0 1 (in_c 1 rfl) rfl) n255))
  · skip
    refine g_iload_n 259 (gd rfl) rfl rfl ?_
    refine g_i2l 260 (gd rfl) rfl (fun z259 e259 => ?_)
    have i259 := l_i e259 (i_rng z5)
    refine g_lconst 0 261 (gd rfl) rfl rfl ?_
    refine g_ldc2_w 159 264 (gd rfl) rfl rfl ?_
    refine g_calls (As := [.long z259, .long (Int64.ofInt 0), .long (Int64.ofInt 159)]) (r := []) 267 (gd rfl) rfl rfl rfl rfl rfl (Nat.le_of_ble_eq_true rfl) (mc := 0) (ms := 0) (Nat.zero_le _) (Nat.zero_le _) (P := fun v u => _) ?_ (fun v u h => h)
    intro po264 xx264 hp264 hx264
    refine g_enter2 (k := 269) (N := 300) (by omega) rfl (Nat.le_of_ble_eq_true rfl) ?_
    refine g_lload_n 1 (gd rfl) rfl rfl ?_
    refine g_lload_n 2 (gd rfl) rfl rfl ?_
    refine g_lcmp 3 (gd rfl) rfl (fun z264x2 e264x2 => ?_)
    have i264x2 := lc_in e264x2
    refine g_if_lt 6 17 (gd rfl) rfl rfl (fun c264x3 => ?_) (fun c264x3 => ?_)
    · skip
      have i264x3 := z_lt (-1) (-1) c264x3 i264x2 rfl
      have c264x3a := lc_lt e264x2 c264x3
      have i264x3a := lr_lt1 (-2147483648) (-1) c264x3a i259 (l_c 0 rfl) rfl
      have i264x3b := l_b e259 i264x3a
      refine g_iconst 0 18 (gd rfl) rfl rfl ?_
      refine g_ireturn (gd rfl) rfl (nb01 (in_w 0 1 (in_c 0 rfl) rfl)) (hp264 _ _ ?_)
      show GG _ _ _ _ _ _ _ _ [.int (Int32.ofInt 0)] _ _ _
      refine g_if_eq 270 311 (gd rfl) rfl rfl (fun c267 => ?_) (fun c267 => ?_)
      · skip
        have n311 : s = s := by rfl
        exact gg_w (by omega) (gg_f (gf_cons rfl (gf_cons rfl (gf_cons rfl (gf_cons rfl (gf_cons rfl gf_nil))))) (ct311 s z5 z14 hI fr_rf n311))
      · skip
        exact zn_ne c267 (in_c 0 rfl) rfl
    · skip
      have i264x3 := z_ge 0 1 c264x3 i264x2 rfl
      have c264x3a := lc_ge e264x2 c264x3
      have i264x3a := lr_le2 0 2147483647 c264x3a (l_c 0 rfl) i259 rfl
      have i264x3b := l_b e259 i264x3a
      refine g_lload_n 7 (gd rfl) rfl rfl ?_
      refine g_lload 9 (gd rfl) rfl rfl ?_
      refine g_lcmp 10 (gd rfl) rfl (fun z264x9 e264x9 => ?_)
      have i264x9 := lc_in e264x9
      refine g_if_gt 13 17 (gd rfl) rfl rfl (fun c264x10 => ?_) (fun c264x10 => ?_)
      · skip
        have i264x10 := z_gt 1 1 c264x10 i264x9 rfl
        have c264x10a := lc_gt e264x9 c264x10
        have i264x10a := lr_lt2 160 2147483647 c264x10a (l_c 159 rfl) i264x3a rfl
        have i264x10b := l_b e259 i264x10a
        refine g_iconst 0 18 (gd rfl) rfl rfl ?_
        refine g_ireturn (gd rfl) rfl (nb01 (in_w 0 1 (in_c 0 rfl) rfl)) (hp264 _ _ ?_)
        show GG _ _ _ _ _ _ _ _ [.int (Int32.ofInt 0)] _ _ _
        refine g_if_eq 270 311 (gd rfl) rfl rfl (fun c267 => ?_) (fun c267 => ?_)
        · skip
          have n311 : s = s := by rfl
          exact gg_w (by omega) (gg_f (gf_cons rfl (gf_cons rfl (gf_cons rfl (gf_cons rfl (gf_cons rfl gf_nil))))) (ct311 s z5 z14 hI fr_rf n311))
        · skip
          exact zn_ne c267 (in_c 0 rfl) rfl
      · skip
        have i264x10 := z_le (-1) 0 c264x10 i264x9 rfl
        have c264x10a := lc_le e264x9 c264x10
        have i264x10a := lr_le1 0 159 c264x10a i264x3a (l_c 159 rfl) rfl
        have i264x10b := l_b e259 i264x10a
        refine g_iconst 1 14 (gd rfl) rfl rfl ?_
        refine g_goto 18 (gd rfl) rfl ?_
        refine g_ireturn (gd rfl) rfl (nb01 (in_w 0 1 (in_c 1 rfl) rfl)) (hp264 _ _ ?_)
        show GG _ _ _ _ _ _ _ _ [.int (Int32.ofInt 1)] _ _ _
        refine g_if_eq 270 311 (gd rfl) rfl rfl (fun c267 => ?_) (fun c267 => ?_)
        · skip
          exact zn_eq c267 (in_c 1 rfl) rfl
        · skip
          refine g_aload_n 271 (gd rfl) rfl rfl ?_
          refine g_getA (q2 := 112) 274 (gd rfl) rfl rfl rfl rfl ?_
          refine g_sipush 320 277 (gd rfl) rfl rfl ?_
          refine g_iload_n 278 (gd rfl) rfl rfl ?_
          refine g_i2l 279 (gd rfl) rfl (fun z278 e278 => ?_)
          have i278 := l_i e278 i264x10b
          refine g_lconst 0 280 (gd rfl) rfl rfl ?_
          refine g_ldc2_w 159 283 (gd rfl) rfl rfl ?_
          refine g_calls (As := [.long z278, .long (Int64.ofInt 0), .long (Int64.ofInt 159)]) (r := [.int (Int32.ofInt 320), .ref (A 112)]) 286 (gd rfl) rfl rfl rfl rfl rfl (Nat.le_of_ble_eq_true rfl) (mc := 0) (ms := 0) (Nat.zero_le _) (Nat.zero_le _) (P := fun v u => _) ?_ (fun v u h => h)
          intro po283 xx283 hp283 hx283
          refine g_enter2 (k := 269) (N := 300) (by omega) rfl (Nat.le_of_ble_eq_true rfl) ?_
          refine g_lload_n 1 (gd rfl) rfl rfl ?_
          refine g_lload_n 2 (gd rfl) rfl rfl ?_
          refine g_lcmp 3 (gd rfl) rfl (fun z283x2 e283x2 => ?_)
          have i283x2 := lc_in e283x2
          refine g_if_lt 6 17 (gd rfl) rfl rfl (fun c283x3 => ?_) (fun c283x3 => ?_)
          · skip
            have i283x3 := z_lt (-1) (-1) c283x3 i283x2 rfl
            have c283x3a := lc_lt e283x2 c283x3
            exact ln_lt c283x3a i278 (l_c 0 rfl) rfl
          · skip
            have i283x3 := z_ge 0 1 c283x3 i283x2 rfl
            have c283x3a := lc_ge e283x2 c283x3
            refine g_lload_n 7 (gd rfl) rfl rfl ?_
            refine g_lload 9 (gd rfl) rfl rfl ?_
            refine g_lcmp 10 (gd rfl) rfl (fun z283x9 e283x9 => ?_)
            have i283x9 := lc_in e283x9
            refine g_if_gt 13 17 (gd rfl) rfl rfl (fun c283x10 => ?_) (fun c283x10 => ?_)
            · skip
              have i283x10 := z_gt 1 1 c283x10 i283x9 rfl
              have c283x10a := lc_gt e283x9 c283x10
              exact ln_lt c283x10a (l_c 159 rfl) i278 rfl
            · skip
              have i283x10 := z_le (-1) 0 c283x10 i283x9 rfl
              have c283x10a := lc_le e283x9 c283x10
              refine g_iconst 1 14 (gd rfl) rfl rfl ?_
              refine g_goto 18 (gd rfl) rfl ?_
              refine g_ireturn (gd rfl) rfl (nb01 (in_w 0 1 (in_c 1 rfl) rfl)) (hp283 _ _ ?_)
              show GG _ _ _ _ _ _ _ _ [.int (Int32.ofInt 1), .int (Int32.ofInt 320), .ref (A 112)] _ _ _
              refine g_if_eq 289 293 (gd rfl) rfl rfl (fun c286 => ?_) (fun c286 => ?_)
              · skip
                exact zn_eq c286 (in_c 1 rfl) rfl
              · skip
                refine g_iload_n 290 (gd rfl) rfl rfl ?_
                refine g_goto 294 (gd rfl) rfl ?_
                refine g_iadd 295 (gd rfl) rfl (fun z294 e294 => ?_)
                have i294 := in_add 320 479 e294 (in_c 320 rfl) i264x10b rfl rfl
                refine g_baload 296 (gd rfl) rfl (n := 480) rfl (in_ix i294 rfl) (fun z295 e295 => ?_)
                have i295 := inv_I hI (n := 480) (t := 3) 0 1 rfl (in_ix i294 rfl) rfl e295
                refine g_if_eq 299 311 (gd rfl) rfl rfl (fun c296 => ?_) (fun c296 => ?_)
                · skip
                  have i296 := z_eq 0 0 c296 i295 rfl
                  have n311 : s = s := by rfl
                  exact gg_w (by omega) (gg_f (gf_cons rfl (gf_cons rfl (gf_cons rfl (gf_cons rfl (gf_cons rfl gf_nil))))) (ct311 s z5 z14 hI fr_rf n311))
                · skip
                  have i296 := z_ne 1 1 c296 i295 rfl
                  refine g_iload 301 (gd rfl) rfl rfl ?_
                  refine g_calls (As := [.int z14]) (r := []) 304 (gd rfl) rfl rfl rfl rfl rfl (Nat.le_of_ble_eq_true rfl) (mc := 0) (ms := 0) (Nat.zero_le _) (Nat.zero_le _) (P := fun v u => _) ?_ (fun v u h => h)
                  intro po301 xx301 hp301 hx301
                  refine g_enter2 (k := 279) (N := 300) (by omega) rfl (Nat.le_of_ble_eq_true rfl) ?_
                  refine g_iload_n 1 (gd rfl) rfl rfl ?_
                  refine g_i2l 2 (gd rfl) rfl (fun z301x1 e301x1 => ?_)
                  have i301x1 := l_i e301x1 (i_rng z14)
                  refine g_ldc2_w (-1000000) 5 (gd rfl) rfl rfl ?_
                  refine g_ldc2_w 1000000 8 (gd rfl) rfl rfl ?_
                  refine g_calls (As := [.long z301x1, .long (Int64.ofInt (-1000000)), .long (Int64.ofInt 1000000)]) (r := []) 11 (gd rfl) rfl rfl rfl rfl rfl (Nat.le_of_ble_eq_true rfl) (mc := 0) (ms := 0) (Nat.zero_le _) (Nat.zero_le _) (P := fun v u => _) ?_ (fun v u h => h)
                  intro po301x8 xx301x8 hp301x8 hx301x8
                  refine g_enter2 (k := 269) (N := 300) (by omega) rfl (Nat.le_of_ble_eq_true rfl) ?_
                  refine g_lload_n 1 (gd rfl) rfl rfl ?_
                  refine g_lload_n 2 (gd rfl) rfl rfl ?_
                  refine g_lcmp 3 (gd rfl) rfl (fun z301x8x2 e301x8x2 => ?_)
                  have i301x8x2 := lc_in e301x8x2
                  refine g_if_lt 6 17 (gd rfl) rfl rfl (fun c301x8x3 => ?_) (fun c301x8x3 => ?_)
                  · skip
                    have i301x8x3 := z_lt (-1) (-1) c301x8x3 i301x8x2 rfl
                    have c301x8x3a := lc_lt e301x8x2 c301x8x3
                    have i301x8x3a := lr_lt1 (-2147483648) (-1000001) c301x8x3a i301x1 (l_c (-1000000) rfl) rfl
                    have i301x8x3b := l_b e301x1 i301x8x3a
                    refine g_iconst 0 18 (gd rfl) rfl rfl ?_
                    refine g_ireturn (gd rfl) rfl (nb01 (in_w 0 1 (in_c 0 rfl) rfl)) (hp301x8 _ _ ?_)
                    show GG _ _ _ _ _ _ _ _ [.int (Int32.ofInt 0)] _ _ _
                    refine g_ireturn (gd rfl) rfl (nb01 (in_w 0 1 (in_c 0 rfl) rfl)) (hp301 _ _ ?_)
                    show GG _ _ _ _ _ _ _ _ [.int (Int32.ofInt 0)] _ _ _
                    refine g_if_eq 307 311 (gd rfl) rfl rfl (fun c304 => ?_) (fun c304 => ?_)
                    · skip
                      have n311 : s = s := by rfl
                      exact gg_w (by omega) (gg_f (gf_cons rfl (gf_cons rfl (gf_cons rfl (gf_cons rfl (gf_cons rfl gf_nil))))) (ct311 s z5 z14 hI fr_rf n311))
                    · skip
                      exact zn_ne c304 (in_c 0 rfl) rfl
                  · skip
                    have i301x8x3 := z_ge 0 1 c301x8x3 i301x8x2 rfl
                    have c301x8x3a := lc_ge e301x8x2 c301x8x3
                    have i301x8x3a := lr_le2 (-1000000) 2147483647 c301x8x3a (l_c (-1000000) rfl) i301x1 rfl
                    have i301x8x3b := l_b e301x1 i301x8x3a
                    refine g_lload_n 7 (gd rfl) rfl rfl ?_
                    refine g_lload 9 (gd rfl) rfl rfl ?_
                    refine g_lcmp 10 (gd rfl) rfl (fun z301x8x9 e301x8x9 => ?_)
                    have i301x8x9 := lc_in e301x8x9
                    refine g_if_gt 13 17 (gd rfl) rfl rfl (fun c301x8x10 => ?_) (fun c301x8x10 => ?_)
                    · skip
                      have i301x8x10 := z_gt 1 1 c301x8x10 i301x8x9 rfl
                      have c301x8x10a := lc_gt e301x8x9 c301x8x10
                      have i301x8x10a := lr_lt2 1000001 2147483647 c301x8x10a (l_c 1000000 rfl) i301x8x3a rfl
                      have i301x8x10b := l_b e301x1 i301x8x10a
                      refine g_iconst 0 18 (gd rfl) rfl rfl ?_
                      refine g_ireturn (gd rfl) rfl (nb01 (in_w 0 1 (in_c 0 rfl) rfl)) (hp301x8 _ _ ?_)
                      show GG _ _ _ _ _ _ _ _ [.int (Int32.ofInt 0)] _ _ _
                      refine g_ireturn (gd rfl) rfl (nb01 (in_w 0 1 (in_c 0 rfl) rfl)) (hp301 _ _ ?_)
                      show GG _ _ _ _ _ _ _ _ [.int (Int32.ofInt 0)] _ _ _
                      refine g_if_eq 307 311 (gd rfl) rfl rfl (fun c304 => ?_) (fun c304 => ?_)
                      · skip
                        have n311 : s = s := by rfl
                        exact gg_w (by omega) (gg_f (gf_cons rfl (gf_cons rfl (gf_cons rfl (gf_cons rfl (gf_cons rfl gf_nil))))) (ct311 s z5 z14 hI fr_rf n311))
                      · skip
                        exact zn_ne c304 (in_c 0 rfl) rfl
                    · skip
                      have i301x8x10 := z_le (-1) 0 c301x8x10 i301x8x9 rfl
                      have c301x8x10a := lc_le e301x8x9 c301x8x10
                      have i301x8x10a := lr_le1 (-1000000) 1000000 c301x8x10a i301x8x3a (l_c 1000000 rfl) rfl
                      have i301x8x10b := l_b e301x1 i301x8x10a
                      refine g_iconst 1 14 (gd rfl) rfl rfl ?_
                      refine g_goto 18 (gd rfl) rfl ?_
                      refine g_ireturn (gd rfl) rfl (nb01 (in_w 0 1 (in_c 1 rfl) rfl)) (hp301x8 _ _ ?_)
                      show GG _ _ _ _ _ _ _ _ [.int (Int32.ofInt 1)] _ _ _
                      refine g_ireturn (gd rfl) rfl (nb01 (in_w 0 1 (in_c 1 rfl) rfl)) (hp301 _ _ ?_)
                      show GG _ _ _ _ _ _ _ _ [.int (Int32.ofInt 1)] _ _ _
                      refine g_if_eq 307 311 (gd rfl) rfl rfl (fun c304 => ?_) (fun c304 => ?_)
                      · skip
                        exact zn_eq c304 (in_c 1 rfl) rfl
                      · skip
                        refine g_iconst 1 308 (gd rfl) rfl rfl ?_
                        refine g_goto 312 (gd rfl) rfl ?_
                        have n312 : DNE s s (x1).toInt (x2).toNatClampNeg ((Int32.ofInt 1)).toInt := by exact dne_d (by have a0 := h2; unfold In at a0; have a1 := h1; unfold In at a1; have a2 := i301x8x10b; unfold In at a2; have a3 := i264x10b; unfold In at a3; have a4 := tx_i2l e301x1; have a5 := i294; unfold In at a5; have a6 := t_add e294 (in_c 320 rfl) i264x10b rfl; have a7 := (in_c 320 rfl); unfold In at a7; have a8 := tx_i2l e278; have a9 := tx_i2l e259; have a10 := i13; unfold In at a10; have a11 := t_add e13 h2 (in_c 1 rfl) rfl; have a12 := (in_c 1 rfl); unfold In at a12; omega) (by have a0 := h2; unfold In at a0; have a1 := h1; unfold In at a1; have a2 := i301x8x10b; unfold In at a2; have a3 := i264x10b; unfold In at a3; have a4 := tx_i2l e301x1; have a5 := i294; unfold In at a5; have a6 := t_add e294 (in_c 320 rfl) i264x10b rfl; have a7 := (in_c 320 rfl); unfold In at a7; have a8 := tx_i2l e278; have a9 := tx_i2l e259; have a10 := i13; unfold In at a10; have a11 := t_add e13 h2 (in_c 1 rfl) rfl; have a12 := (in_c 1 rfl); unfold In at a12; omega) (by have a0 := h2; unfold In at a0; have a1 := h1; unfold In at a1; have a2 := i301x8x10b; unfold In at a2; have a3 := i264x10b; unfold In at a3; have a4 := tx_i2l e301x1; have a5 := i294; unfold In at a5; have a6 := t_add e294 (in_c 320 rfl) i264x10b rfl; have a7 := (in_c 320 rfl); unfold In at a7; have a8 := tx_i2l e278; have a9 := tx_i2l e259; have a10 := i13; unfold In at a10; have a11 := t_add e13 h2 (in_c 1 rfl) rfl; have a12 := (in_c 1 rfl); unfold In at a12; omega) (by rw [← e5]; exact i264x10b) (by rw [show x2.toNatClampNeg + 1 = z13.toNatClampNeg from (by show x2.toInt.toNat + 1 = z13.toInt.toNat; have a0 := h2; unfold In at a0; have a1 := h1; unfold In at a1; have a2 := i301x8x10b; unfold In at a2; have a3 := i264x10b; unfold In at a3; have a4 := tx_i2l e301x1; have a5 := i294; unfold In at a5; have a6 := t_add e294 (in_c 320 rfl) i264x10b rfl; have a7 := (in_c 320 rfl); unfold In at a7; have a8 := tx_i2l e278; have a9 := tx_i2l e259; have a10 := i13; unfold In at a10; have a11 := t_add e13 h2 (in_c 1 rfl) rfl; have a12 := (in_c 1 rfl); unfold In at a12; omega), ← e14]; exact i301x8x10b)
                        exact g_ireturn (gd rfl) rfl (nb01 (in_w 0 1 (in_c 1 rfl) rfl)) (hP _ _ ⟨s, hI, fr_rf, (Int32.ofInt 1), rfl, rfl, in_w 0 1 (in_c 1 rfl) rfl, n312⟩)

/-- GraphHouseModel.isFirstSort -/
theorem k_359 {Z : AmZ} {A : Nat → Nat} {s : GS} {ex : va_W} {d : Nat} {X : AmX} {x1 : Int32} (hd : 1 ≤ d) (hI : Inv s) (h1 : In x1 0 31) : GC Z d 359 [.ref (A 109), .int x1] (WW Z A s ++ ex) 0 0 (fun v u => ∃ z : Int32, v = some (.int z) ∧ u = WW Z A s ++ ex ∧ In z 0 1 ∧ (((z).toInt ≠ 0 ↔ FSQ s (x1).toNatClampNeg))) X := by
  intro post xp hP hX
  obtain ⟨u_109_18, e_109_18⟩ : ∃ w, w = s.2.2.1 109 18 := ⟨_, rfl⟩
  have ro_109_18 := inv_F hI 0 1 rfl e_109_18
  refine g_enter2 (k := 359) (N := 900) (by omega) rfl (Nat.le_of_ble_eq_true rfl) ?_
  refine g_aload_n 1 (gd rfl) rfl rfl ?_
  refine g_getA (q2 := 111) 4 (gd rfl) rfl rfl rfl rfl ?_
  refine g_bipush 32 6 (gd rfl) rfl rfl ?_
  refine g_aload_n 7 (gd rfl) rfl rfl ?_
  refine g_getI 10 (gd rfl) rfl rfl rfl (fun z7 e7 => ?_)
  have q7 : u_109_18 = z7 := (e_109_18).trans e7.symm
  subst q7
  refine g_imul 11 (gd rfl) rfl (fun z10 e10 => ?_)
  have i10 := in_mulc 32 0 32 (Or.inl e10) ro_109_18 rfl rfl
  refine g_iload_n 12 (gd rfl) rfl rfl ?_
  refine g_iadd 13 (gd rfl) rfl (fun z12 e12 => ?_)
  have i12 := in_add 0 63 e12 i10 h1 rfl rfl
  refine g_iaload 14 (gd rfl) rfl (n := 96) rfl (in_ix i12 rfl) (fun z13 e13 => ?_)
  have i13 := inv_I hI (n := 96) (t := 0) 0 25 rfl (in_ix i12 rfl) rfl e13
  refine g_bipush 13 16 (gd rfl) rfl rfl ?_
  refine g_cmp_ge 19 23 (gd rfl) rfl rfl (fun c16 => ?_) (fun c16 => ?_)
  · skip
    have i16 := r_le2 13 25 c16 (in_c 13 rfl) i13 rfl
    refine g_iconst 0 24 (gd rfl) rfl rfl ?_
    have n24 : (((Int32.ofInt 0)).toInt ≠ 0 ↔ FSQ s (x1).toNatClampNeg) := by have hx : 32 * (s.2.2.1 109 18).toNatClampNeg + x1.toNatClampNeg = z12.toNatClampNeg := (by rw [← (show u_109_18 = s.2.2.1 109 18 from e_109_18)]; show 32 * u_109_18.toInt.toNat + x1.toInt.toNat = z12.toInt.toNat; have a0 := ro_109_18; unfold In at a0; have a1 := h1; unfold In at a1; have a2 := i12; unfold In at a2; have a3 := t_add e12 i10 h1 rfl; have a4 := i10; unfold In at a4; have a5 := (t_mulc 32 (Or.inl e10) ro_109_18 rfl).1; omega); unfold FSQ; rw [hx, ← e13]; have h13 : (Int32.ofInt 13).toInt = 13 := rfl; have h := c16; first | exact ⟨fun _ => by omega, fun _ => by decide⟩ | exact ⟨fun q => absurd (by decide) q, fun q => by omega⟩
    exact g_ireturn (gd rfl) rfl (nb01 (in_w 0 1 (in_c 0 rfl) rfl)) (hP _ _ ⟨(Int32.ofInt 0), rfl, rfl, in_w 0 1 (in_c 0 rfl) rfl, n24⟩)
  · skip
    have i16 := r_lt1 0 12 c16 i13 (in_c 13 rfl) rfl
    refine g_iconst 1 20 (gd rfl) rfl rfl ?_
    refine g_goto 24 (gd rfl) rfl ?_
    have n24 : (((Int32.ofInt 1)).toInt ≠ 0 ↔ FSQ s (x1).toNatClampNeg) := by have hx : 32 * (s.2.2.1 109 18).toNatClampNeg + x1.toNatClampNeg = z12.toNatClampNeg := (by rw [← (show u_109_18 = s.2.2.1 109 18 from e_109_18)]; show 32 * u_109_18.toInt.toNat + x1.toInt.toNat = z12.toInt.toNat; have a0 := ro_109_18; unfold In at a0; have a1 := h1; unfold In at a1; have a2 := i12; unfold In at a2; have a3 := t_add e12 i10 h1 rfl; have a4 := i10; unfold In at a4; have a5 := (t_mulc 32 (Or.inl e10) ro_109_18 rfl).1; omega); unfold FSQ; rw [hx, ← e13]; have h13 : (Int32.ofInt 13).toInt = 13 := rfl; have h := c16; first | exact ⟨fun _ => by omega, fun _ => by decide⟩ | exact ⟨fun q => absurd (by decide) q, fun q => by omega⟩
    exact g_ireturn (gd rfl) rfl (nb01 (in_w 0 1 (in_c 1 rfl) rfl)) (hP _ _ ⟨(Int32.ofInt 1), rfl, rfl, in_w 0 1 (in_c 1 rfl) rfl, n24⟩)

/-- GraphHouseModel.shape -/
theorem k_301 {Z : AmZ} {A : Nat → Nat} {s : GS} {ex : va_W} {d : Nat} {X : AmX} {x1 : Int32} {x2 : Int32} (hd : 1 ≤ d) (hI : Inv s) (h1 : In x1 97 119) (h2 : In x2 0 5) : GC Z d 301 [.ref (A 109), .int x1, .int x2] (WW Z A s ++ ex) 0 0 (fun v u => ∃ z : Int32, v = some (.int z) ∧ u = WW Z A s ++ ex ∧ In z 1 3 ∧ (SHP (x1).toInt (x2).toInt (z).toInt)) X := by
  intro post xp hP hX
  refine g_enter2 (k := 301) (N := 900) (by omega) rfl (Nat.le_of_ble_eq_true rfl) ?_
  refine g_iload_n 1 (gd rfl) rfl rfl ?_
  refine g_lsw [(97, 46), (110, 36), (116, 66)] 77 (gd rfl) rfl rfl rfl ⟨fun c1 => ?_, fun c1_0 => ⟨fun c1 => ?_, fun c1_1 => ⟨fun c1 => ?_, fun c1_2 => ?_⟩⟩⟩
  · skip
    have i1 := sw_eq c1
    refine g_iload_n 47 (gd rfl) rfl rfl ?_
    refine g_iconst 4 48 (gd rfl) rfl rfl ?_
    refine g_cmp_ge 51 55 (gd rfl) rfl rfl (fun c48 => ?_) (fun c48 => ?_)
    · skip
      have i48 := r_le2 4 5 c48 (in_c 4 rfl) h2 rfl
      refine g_iload_n 56 (gd rfl) rfl rfl ?_
      refine g_iconst 4 57 (gd rfl) rfl rfl ?_
      refine g_cmp_ne 60 64 (gd rfl) rfl rfl (fun c57 => ?_) (fun c57 => ?_)
      · skip
        have i57 := r_ne1 5 5 c57 i48 (in_c 4 rfl) rfl
        refine g_iconst 3 65 (gd rfl) rfl rfl ?_
        have n65 : SHP (x1).toInt (x2).toInt ((Int32.ofInt 3)).toInt := by unfold SHP; refine ⟨fun h => ⟨fun h2 => ?_, fun h2 => ?_⟩, fun h => ⟨fun h2 => ?_, fun h2 => ?_, fun h2 => ?_⟩, fun h h2 => ⟨?_, fun h3 => ?_, fun h3 => ?_⟩⟩ <;> first | decide | (exfalso; have a0 := i57; unfold In at a0; have a1 := i1; unfold In at a1; omega) | (have a0 := i57; unfold In at a0; have a1 := i1; unfold In at a1; omega)
        exact g_ireturn (gd rfl) rfl rfl (hP _ _ ⟨(Int32.ofInt 3), rfl, rfl, in_w 1 3 (in_c 3 rfl) rfl, n65⟩)
      · skip
        have i57 := r_eq1 4 4 c57 i48 (in_c 4 rfl) rfl
        refine g_iconst 1 61 (gd rfl) rfl rfl ?_
        refine g_goto 65 (gd rfl) rfl ?_
        have n65 : SHP (x1).toInt (x2).toInt ((Int32.ofInt 1)).toInt := by unfold SHP; refine ⟨fun h => ⟨fun h2 => ?_, fun h2 => ?_⟩, fun h => ⟨fun h2 => ?_, fun h2 => ?_, fun h2 => ?_⟩, fun h h2 => ⟨?_, fun h3 => ?_, fun h3 => ?_⟩⟩ <;> first | decide | (exfalso; have a0 := i57; unfold In at a0; have a1 := i1; unfold In at a1; omega) | (have a0 := i57; unfold In at a0; have a1 := i1; unfold In at a1; omega)
        exact g_ireturn (gd rfl) rfl rfl (hP _ _ ⟨(Int32.ofInt 1), rfl, rfl, in_w 1 3 (in_c 1 rfl) rfl, n65⟩)
    · skip
      have i48 := r_lt1 0 3 c48 h2 (in_c 4 rfl) rfl
      refine g_iconst 2 52 (gd rfl) rfl rfl ?_
      refine g_goto 65 (gd rfl) rfl ?_
      have n65 : SHP (x1).toInt (x2).toInt ((Int32.ofInt 2)).toInt := by unfold SHP; refine ⟨fun h => ⟨fun h2 => ?_, fun h2 => ?_⟩, fun h => ⟨fun h2 => ?_, fun h2 => ?_, fun h2 => ?_⟩, fun h h2 => ⟨?_, fun h3 => ?_, fun h3 => ?_⟩⟩ <;> first | decide | (exfalso; have a0 := i48; unfold In at a0; have a1 := i1; unfold In at a1; omega) | (have a0 := i48; unfold In at a0; have a1 := i1; unfold In at a1; omega)
      exact g_ireturn (gd rfl) rfl rfl (hP _ _ ⟨(Int32.ofInt 2), rfl, rfl, in_w 1 3 (in_c 2 rfl) rfl, n65⟩)
  · skip
    have i1 := sw_eq c1
    refine g_iload_n 37 (gd rfl) rfl rfl ?_
    refine g_if_ne 40 44 (gd rfl) rfl rfl (fun c37 => ?_) (fun c37 => ?_)
    · skip
      have i37 := z_ne 1 5 c37 h2 rfl
      refine g_iconst 3 45 (gd rfl) rfl rfl ?_
      have n45 : SHP (x1).toInt (x2).toInt ((Int32.ofInt 3)).toInt := by unfold SHP; refine ⟨fun h => ⟨fun h2 => ?_, fun h2 => ?_⟩, fun h => ⟨fun h2 => ?_, fun h2 => ?_, fun h2 => ?_⟩, fun h h2 => ⟨?_, fun h3 => ?_, fun h3 => ?_⟩⟩ <;> first | decide | (exfalso; have a0 := i37; unfold In at a0; have a1 := i1; unfold In at a1; omega) | (have a0 := i37; unfold In at a0; have a1 := i1; unfold In at a1; omega)
      exact g_ireturn (gd rfl) rfl rfl (hP _ _ ⟨(Int32.ofInt 3), rfl, rfl, in_w 1 3 (in_c 3 rfl) rfl, n45⟩)
    · skip
      have i37 := z_eq 0 0 c37 h2 rfl
      refine g_iconst 1 41 (gd rfl) rfl rfl ?_
      refine g_goto 45 (gd rfl) rfl ?_
      have n45 : SHP (x1).toInt (x2).toInt ((Int32.ofInt 1)).toInt := by unfold SHP; refine ⟨fun h => ⟨fun h2 => ?_, fun h2 => ?_⟩, fun h => ⟨fun h2 => ?_, fun h2 => ?_, fun h2 => ?_⟩, fun h h2 => ⟨?_, fun h3 => ?_, fun h3 => ?_⟩⟩ <;> first | decide | (exfalso; have a0 := i37; unfold In at a0; have a1 := i1; unfold In at a1; omega) | (have a0 := i37; unfold In at a0; have a1 := i1; unfold In at a1; omega)
      exact g_ireturn (gd rfl) rfl rfl (hP _ _ ⟨(Int32.ofInt 1), rfl, rfl, in_w 1 3 (in_c 1 rfl) rfl, n45⟩)
  · skip
    have i1 := sw_eq c1
    refine g_iload_n 67 (gd rfl) rfl rfl ?_
    refine g_iconst 1 68 (gd rfl) rfl rfl ?_
    refine g_cmp_ge 71 75 (gd rfl) rfl rfl (fun c68 => ?_) (fun c68 => ?_)
    · skip
      have i68 := r_le2 1 5 c68 (in_c 1 rfl) h2 rfl
      refine g_iconst 3 76 (gd rfl) rfl rfl ?_
      have n76 : SHP (x1).toInt (x2).toInt ((Int32.ofInt 3)).toInt := by unfold SHP; refine ⟨fun h => ⟨fun h2 => ?_, fun h2 => ?_⟩, fun h => ⟨fun h2 => ?_, fun h2 => ?_, fun h2 => ?_⟩, fun h h2 => ⟨?_, fun h3 => ?_, fun h3 => ?_⟩⟩ <;> first | decide | (exfalso; have a0 := i68; unfold In at a0; have a1 := i1; unfold In at a1; omega) | (have a0 := i68; unfold In at a0; have a1 := i1; unfold In at a1; omega)
      exact g_ireturn (gd rfl) rfl rfl (hP _ _ ⟨(Int32.ofInt 3), rfl, rfl, in_w 1 3 (in_c 3 rfl) rfl, n76⟩)
    · skip
      have i68 := r_lt1 0 0 c68 h2 (in_c 1 rfl) rfl
      refine g_iconst 2 72 (gd rfl) rfl rfl ?_
      refine g_goto 76 (gd rfl) rfl ?_
      have n76 : SHP (x1).toInt (x2).toInt ((Int32.ofInt 2)).toInt := by unfold SHP; refine ⟨fun h => ⟨fun h2 => ?_, fun h2 => ?_⟩, fun h => ⟨fun h2 => ?_, fun h2 => ?_, fun h2 => ?_⟩, fun h h2 => ⟨?_, fun h3 => ?_, fun h3 => ?_⟩⟩ <;> first | decide | (exfalso; have a0 := i68; unfold In at a0; have a1 := i1; unfold In at a1; omega) | (have a0 := i68; unfold In at a0; have a1 := i1; unfold In at a1; omega)
      exact g_ireturn (gd rfl) rfl rfl (hP _ _ ⟨(Int32.ofInt 2), rfl, rfl, in_w 1 3 (in_c 2 rfl) rfl, n76⟩)
  · skip
    refine g_iload_n 78 (gd rfl) rfl rfl ?_
    refine g_iconst 2 79 (gd rfl) rfl rfl ?_
    refine g_cmp_ge 82 86 (gd rfl) rfl rfl (fun c79 => ?_) (fun c79 => ?_)
    · skip
      have i79 := r_le2 2 5 c79 (in_c 2 rfl) h2 rfl
      refine g_iconst 3 87 (gd rfl) rfl rfl ?_
      have n87 : SHP (x1).toInt (x2).toInt ((Int32.ofInt 3)).toInt := by unfold SHP; refine ⟨fun h => ⟨fun h2 => ?_, fun h2 => ?_⟩, fun h => ⟨fun h2 => ?_, fun h2 => ?_, fun h2 => ?_⟩, fun h h2 => ⟨?_, fun h3 => ?_, fun h3 => ?_⟩⟩ <;> first | decide | (exfalso; have a0 := i79; unfold In at a0; have a1 := h1; unfold In at a1; omega) | (have a0 := i79; unfold In at a0; have a1 := h1; unfold In at a1; omega)
      exact g_ireturn (gd rfl) rfl rfl (hP _ _ ⟨(Int32.ofInt 3), rfl, rfl, in_w 1 3 (in_c 3 rfl) rfl, n87⟩)
    · skip
      have i79 := r_lt1 0 1 c79 h2 (in_c 2 rfl) rfl
      refine g_iconst 2 83 (gd rfl) rfl rfl ?_
      refine g_goto 87 (gd rfl) rfl ?_
      have n87 : SHP (x1).toInt (x2).toInt ((Int32.ofInt 2)).toInt := by unfold SHP; refine ⟨fun h => ⟨fun h2 => ?_, fun h2 => ?_⟩, fun h => ⟨fun h2 => ?_, fun h2 => ?_, fun h2 => ?_⟩, fun h h2 => ⟨?_, fun h3 => ?_, fun h3 => ?_⟩⟩ <;> first | decide | (exfalso; have a0 := i79; unfold In at a0; have a1 := h1; unfold In at a1; omega) | (have a0 := i79; unfold In at a0; have a1 := h1; unfold In at a1; omega)
      exact g_ireturn (gd rfl) rfl rfl (hP _ _ ⟨(Int32.ofInt 2), rfl, rfl, in_w 1 3 (in_c 2 rfl) rfl, n87⟩)
