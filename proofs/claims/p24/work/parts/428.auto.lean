/-! methods, by vc.py -/
def fm_358 : FM := ([148], [147, 149, 150], [], [])
/-- GraphHouseModel.sends -/
theorem k_358 {Z : AmZ} {A : Nat → Nat} {s : GS} {ex : va_W} {d : Nat} {X : AmX} {x1 : Int32} (hd : 2 ≤ d) (hI : Inv s) (h1 : In x1 0 31) (q_0 : CO s) (q_1 : SU s) (q_2 : (x1).toInt < (s.2.2.1 109 20).toInt ∧ 0 < (s.2.1 150 (x1).toNatClampNeg).toInt) : GC Z d 358 [.ref (A 109), .int x1] (WW Z A s ++ ex) 0 0 (fun v u => ∃ t : GS, Inv t ∧ Fr fm_358 s t ∧ ∃ z : Int32, v = some (.int z) ∧ u = WW Z A t ++ ex ∧ In z 0 1 ∧ (CO t) ∧ (SU t) ∧ (((z).toInt ≠ 0 → (t.2.1 150 (x1).toNatClampNeg).toInt < (s.2.1 150 (x1).toNatClampNeg).toInt ∧ 0 ≤ (t.2.1 150 (x1).toNatClampNeg).toInt) ∧ ((z).toInt = 0 → t.2.1 150 = s.2.1 150))) X := by
  intro post xp hP hX
  obtain ⟨u_109_20, e_109_20⟩ : ∃ w, w = s.2.2.1 109 20 := ⟨_, rfl⟩
  have ro_109_20 := inv_F hI 0 32 rfl e_109_20
  have ct158 : ∀ (k158 : Nat) (sc158 : GS) (y158_2 : Int32) (y158_3 : Int64) (y158_5 : Int32), Inv sc158 → Fr fm_358 s sc158 → (In y158_2 0 31) → (In y158_5 0 31) → (PL sc158 (x1).toInt (y158_3).toInt (y158_2).toNatClampNeg (y158_5).toNatClampNeg) → (sc158.2.1 150 = s.2.1 150) → (MO s (x1).toNatClampNeg (y158_2).toNatClampNeg (y158_3).toInt) → ((((y158_2).toNatClampNeg : Nat) : Int) ≠ (x1).toInt) → ((y158_2).toInt < (s.2.2.1 109 20).toInt) → rkb sc158.1 sc158.2.2.1 (x1).toInt (y158_5).toNatClampNeg < k158 → GG Z (d - 1) 358 post (gx xp) (1 + k158 * 900) 158 (fun j => xlook j [(0, .ref (A 109)), (1, .int x1), (2, .int y158_2), (3, .long y158_3), (5, .int y158_5)]) [] (WW Z A sc158 ++ ex) 0 0 := by
    intro k158
    induction k158 with
    | zero => intro sc158 y158_2 y158_3 y158_5 hIc158 hFc158 j158_2 j158_5 g158_0 g158_1 g158_2 g158_3 g158_4 mm158; exact absurd mm158 (Nat.not_lt_zero _)
    | succ k158 ih158 =>
      intro sc158 y158_2 y158_3 y158_5 hIc158 hFc158 j158_2 j158_5 g158_0 g158_1 g158_2 g158_3 g158_4 mm158
      refine gg_w (M := 1 + k158 * 900 + 900) (by omega) (g_iload 160 (gd rfl) rfl rfl (g_iload_n 161 (gd rfl) rfl rfl (g_cmp_eq 164 186 (gd rfl) rfl rfl (fun c161 => ?_) (fun c161 => ?_))))
      · skip
        refine g_aload_n 187 (gd rfl) rfl rfl (g_getA (q2 := 150) 190 (gd rfl) rfl rfl rfl rfl (g_iload_n 191 (gd rfl) rfl rfl (g_dup2 192 (gd rfl) rfl rfl rfl (g_laload 193 (gd rfl) rfl (n := 32) rfl (in_ix h1 rfl) (fun z192 e192 => g_lload_n 194 (gd rfl) rfl rfl (g_lsub 195 (gd rfl) rfl (fun z194 e194 => g_lastore 196 (gd rfl) rfl (n := 32) rfl (in_ix h1 rfl) (have hI195 := inv_sL (q := 150) (j := x1.toNatClampNeg) (x := z194) hIc158 rfl (l_rng z194); g_aload_n 197 (gd rfl) rfl rfl (g_getA (q2 := 150) 200 (gd rfl) rfl rfl rfl rfl (g_iload_n 201 (gd rfl) rfl rfl (g_dup2 202 (gd rfl) rfl rfl rfl (g_laload 203 (gd rfl) rfl (n := 32) rfl (in_ix j158_2 rfl) (fun z202 e202 => g_lload_n 204 (gd rfl) rfl rfl (g_ladd 205 (gd rfl) rfl (fun z204 e204 => g_lastore 206 (gd rfl) rfl (n := 32) rfl (in_ix j158_2 rfl) (have hI205 := inv_sL (q := 150) (j := y158_2.toNatClampNeg) (x := z204) hI195 rfl (l_rng z204); g_iconst 1 207 (gd rfl) rfl rfl ?_))))))))))))))))
        have n207 : CO (sL (sL sc158 150 x1.toNatClampNeg z194) 150 y158_2.toNatClampNeg z204) := by first | exact g9_1 | exact co_cg (pl_e g158_0 (by show ((y158_5.toInt.toNat : Nat) : Int) = _; exact (have a0 := in_u h1; have a1 := in_u ro_109_20; have a2 := in_u j158_5; have a3 := in_u j158_2; by omega))) ⟨rfl, rfl, rfl, rfl, rfl, by simp [sL], rfl, rfl⟩
        have n207a : SU (sL (sL sc158 150 x1.toNatClampNeg z194) 150 y158_2.toNatClampNeg z204) := by first | (intro v hv hvn; rw [g9_2]; rw [hFc9.2.2.1 109 20 rfl] at hvn; exact q_1 v hv hvn) | exact (su_t (T := (sL (sL sc158 150 x1.toNatClampNeg z194) 150 y158_2.toNatClampNeg z204)) (m := y158_3) q_1 (nat_in h1 q_2.1).1 (nat_in h1 q_2.1).2 (nat_in j158_2 g158_4).1 (nat_in j158_2 g158_4).2 (fun e => g158_3 (by rw [e]; show ((x1.toInt.toNat : Nat) : Int) = _; exact (have a0 := in_u h1; have a1 := in_u ro_109_20; have a2 := in_u j158_5; have a3 := in_u j158_2; by omega))) g158_2 (by rw [← g158_1]; exact e192) e194 (by rw [e202, show (sL sc158 150 x1.toNatClampNeg z194).2.1 150 = vp_updL (sc158.2.1 150) x1.toNatClampNeg z194 from (by simp [sL]), g158_1]) e204 (by rw [show ((sL (sL sc158 150 x1.toNatClampNeg z194) 150 y158_2.toNatClampNeg z204)).2.1 150 = vp_updL (vp_updL (sc158.2.1 150) x1.toNatClampNeg z194) y158_2.toNatClampNeg z204 from (by simp [sL]), g158_1]) (hFc158.2.2.1 109 20 rfl)).1
        have n207b : (((Int32.ofInt 1)).toInt ≠ 0 → ((sL (sL sc158 150 x1.toNatClampNeg z194) 150 y158_2.toNatClampNeg z204).2.1 150 (x1).toNatClampNeg).toInt < (s.2.1 150 (x1).toNatClampNeg).toInt ∧ 0 ≤ ((sL (sL sc158 150 x1.toNatClampNeg z194) 150 y158_2.toNatClampNeg z204).2.1 150 (x1).toNatClampNeg).toInt) ∧ (((Int32.ofInt 1)).toInt = 0 → (sL (sL sc158 150 x1.toNatClampNeg z194) 150 y158_2.toNatClampNeg z204).2.1 150 = s.2.1 150) := by first | exact ⟨fun hz => absurd (by decide) hz, fun _ => g9_2⟩ | exact ⟨fun _ => (su_t (T := (sL (sL sc158 150 x1.toNatClampNeg z194) 150 y158_2.toNatClampNeg z204)) (m := y158_3) q_1 (nat_in h1 q_2.1).1 (nat_in h1 q_2.1).2 (nat_in j158_2 g158_4).1 (nat_in j158_2 g158_4).2 (fun e => g158_3 (by rw [e]; show ((x1.toInt.toNat : Nat) : Int) = _; exact (have a0 := in_u h1; have a1 := in_u ro_109_20; have a2 := in_u j158_5; have a3 := in_u j158_2; by omega))) g158_2 (by rw [← g158_1]; exact e192) e194 (by rw [e202, show (sL sc158 150 x1.toNatClampNeg z194).2.1 150 = vp_updL (sc158.2.1 150) x1.toNatClampNeg z194 from (by simp [sL]), g158_1]) e204 (by rw [show ((sL (sL sc158 150 x1.toNatClampNeg z194) 150 y158_2.toNatClampNeg z204)).2.1 150 = vp_updL (vp_updL (sc158.2.1 150) x1.toNatClampNeg z194) y158_2.toNatClampNeg z204 from (by simp [sL]), g158_1]) (hFc158.2.2.1 109 20 rfl)).2, fun hz => absurd hz (by decide)⟩
        exact g_ireturn (gd rfl) rfl (nb01 (in_w 0 1 (in_c 1 rfl) rfl)) (hP _ _ ⟨(sL (sL sc158 150 x1.toNatClampNeg z194) 150 y158_2.toNatClampNeg z204), hI205, (fr_sL rfl (fr_sL rfl hFc158)), (Int32.ofInt 1), rfl, rfl, in_w 0 1 (in_c 1 rfl) rfl, n207, n207a, n207b⟩)
      · skip
        have hx158 : ((y158_5.toNatClampNeg : Nat) : Int) ≠ x1.toInt := (by show ((y158_5.toInt.toNat : Nat) : Int) ≠ _; exact (have a0 := in_u h1; have a1 := in_u ro_109_20; have a2 := in_u j158_5; have a3 := in_u j158_2; by omega))
        have hpi := pl_i g158_0 hx158
        refine g_aload_n 165 (gd rfl) rfl rfl (g_iload 167 (gd rfl) rfl rfl ?_)
        have p167 : BE sc158 (y158_5).toNatClampNeg := by exact hpi.1
        refine g_callv (X := _) (As := [.int y158_5]) (r := []) (b := A 109) (q := 109) 170 (gd rfl) rfl rfl rfl rfl rfl (ww_o rfl) (Nat.le_of_ble_eq_true rfl) (Nat.zero_le _) (Nat.zero_le _) (k_349 (by omega) hIc158 (in_w 0 31 j158_5 rfl) p167) (fun e u h => h) (fun v u h => ?_)
        obtain ⟨z167, rfl, rfl, i167, p167a⟩ := h
        show GG _ _ _ _ _ _ _ _ [.int z167] _ _ _
        refine g_istore 172 (gd rfl) rfl (Nat.le_of_ble_eq_true rfl) (g_aload_n 173 (gd rfl) rfl rfl (g_iload 175 (gd rfl) rfl rfl (g_lload_n 176 (gd rfl) rfl rfl ?_)))
        have p176 : BE sc158 (y158_5).toNatClampNeg := by exact hpi.1
        refine g_callv (X := _) (As := [.int y158_5, .long y158_3]) (r := []) (b := A 109) (q := 109) 179 (gd rfl) rfl rfl rfl rfl rfl (ww_o rfl) (Nat.le_of_ble_eq_true rfl) (Nat.zero_le _) (Nat.zero_le _) (k_351 (by omega) hIc158 (in_w 0 31 j158_5 rfl) p176) (fun e u h => h) (fun v u h => ?_)
        obtain ⟨s176, hI176, hF176, rfl, rfl, p176a⟩ := h
        show GG _ _ _ _ _ _ _ _ [] _ _ _
        refine g_iload 181 (gd rfl) rfl rfl (g_istore 183 (gd rfl) rfl (Nat.le_of_ble_eq_true rfl) (g_goto 158 (gd rfl) rfl ?_))
        have n158 : PL s176 (x1).toInt (y158_3).toInt (y158_2).toNatClampNeg (z167).toNatClampNeg := by first | exact pl_s g158_0 hx158 g158_2.1 (by have h := g158_2.2.2.2; omega) p176a p167a (funext fun q => hF176.1 q rfl) (funext fun q => funext fun k => hF176.2.2.1 q k rfl) | (obtain ⟨k, hk1, hk2⟩ := g116_4; exact pl_0 hI176 g116_0 g116_1.1 hk2 hk1 (by show ((y116_5.toInt.toNat : Nat) : Int) = _; exact (have a0 := in_u h1; have a1 := in_u ro_109_20; have a2 := in_u j158_5; have a3 := in_u j158_2; have a4 := in_u i167; by omega)) g116_3.2 g116_3.1)
        have n158a : s176.2.1 150 = s.2.1 150 := by first | exact (hF176.2.1 150 rfl).trans g158_1 | exact g116_2
        have n158b : MO s (x1).toNatClampNeg (y158_2).toNatClampNeg (y158_3).toInt := by first | exact g158_2 | exact g116_6
        have n158c : (((y158_2).toNatClampNeg : Nat) : Int) ≠ (x1).toInt := by first | exact g158_3 | exact g116_3.2
        have n158d : (y158_2).toInt < (s.2.2.1 109 20).toInt := by first | exact g158_4 | (have h := g116_3.1.2.1; rw [hFc116.2.2.1 109 20 rfl] at h; have e : ((y116_2.toNatClampNeg : Nat) : Int) = y116_2.toInt := (by show ((y116_2.toInt.toNat : Nat) : Int) = _; exact (have a0 := in_u h1; have a1 := in_u ro_109_20; have a2 := in_u j158_5; have a3 := in_u j158_2; have a4 := in_u i167; by omega)); rw [← e]; exact h)
        have m158 : rkb s176.1 s176.2.2.1 (x1).toInt (z167).toNatClampNeg < k158 := by rw [p167a, show (s176).1 = sc158.1 from (funext fun q => hF176.1 q rfl), show (s176).2.2.1 = sc158.2.2.1 from (funext fun q => funext fun k => hF176.2.2.1 q k rfl)]; have hl := hpi.2; have hm := mm158; omega
        exact gg_w (by omega) (gg_f (gf_cons rfl (gf_cons rfl (gf_cons rfl (gf_cons rfl (gf_cons rfl gf_nil))))) (ih158  s176 y158_2 y158_3 z167 hI176 (fr_tr rfl hFc158 hF176) (in_w 0 31 j158_2 rfl) (in_w 0 31 i167 rfl) n158 n158a n158b n158c n158d m158))
  have ct116 : ∀ (k116 : Nat) (sc116 : GS) (y116_2 : Int32) (y116_3 : Int64) (y116_5 : Int32), Inv sc116 → Fr fm_358 s sc116 → (In y116_2 0 31) → (In y116_5 0 31) → (CHE sc116 (x1).toInt) → (CO sc116) → (sc116.2.1 150 = s.2.1 150) → (ND sc116 (y116_2).toNatClampNeg ∧ (((y116_2).toNatClampNeg : Nat) : Int) ≠ (x1).toInt) → (∃ k, (y116_5).toNatClampNeg = it sc116 (y116_2).toNatClampNeg k ∧ WY sc116 (x1).toInt (y116_3).toInt (y116_2).toNatClampNeg k) → (ND sc116 (y116_5).toNatClampNeg) → (MO s (x1).toNatClampNeg (y116_2).toNatClampNeg (y116_3).toInt) → rkb sc116.1 sc116.2.2.1 (x1).toInt (y116_5).toNatClampNeg < k116 → GG Z (d - 1) 358 post (gx xp) (28802 + k116 * 900) 116 (fun j => xlook j [(0, .ref (A 109)), (1, .int x1), (2, .int y116_2), (3, .long y116_3), (5, .int y116_5)]) [] (WW Z A sc116 ++ ex) 0 0 := by
    intro k116
    induction k116 with
    | zero => intro sc116 y116_2 y116_3 y116_5 hIc116 hFc116 j116_2 j116_5 g116_0 g116_1 g116_2 g116_3 g116_4 g116_5 g116_6 mm116; exact absurd mm116 (Nat.not_lt_zero _)
    | succ k116 ih116 =>
      intro sc116 y116_2 y116_3 y116_5 hIc116 hFc116 j116_2 j116_5 g116_0 g116_1 g116_2 g116_3 g116_4 g116_5 g116_6 mm116
      refine gg_w (M := 28802 + k116 * 900 + 900) (by omega) (g_iload 118 (gd rfl) rfl rfl (g_iload_n 119 (gd rfl) rfl rfl (g_cmp_eq 122 155 (gd rfl) rfl rfl (fun c119 => ?_) (fun c119 => ?_))))
      · skip
        refine g_iload_n 156 (gd rfl) rfl rfl (g_istore 158 (gd rfl) rfl (Nat.le_of_ble_eq_true rfl) ?_)
        have n158 : PL sc116 (x1).toInt (y116_3).toInt (y116_2).toNatClampNeg (y116_2).toNatClampNeg := by first | exact pl_s g158_0 hx158 g158_2.1 (by have h := g158_2.2.2.2; omega) p176a p167a (funext fun q => hF176.1 q rfl) (funext fun q => funext fun k => hF176.2.2.1 q k rfl) | (obtain ⟨k, hk1, hk2⟩ := g116_4; exact pl_0 hIc116 g116_0 g116_1.1 hk2 hk1 (by show ((y116_5.toInt.toNat : Nat) : Int) = _; exact (have a0 := in_u h1; have a1 := in_u ro_109_20; have a2 := in_u j116_5; have a3 := in_u j116_2; by omega)) g116_3.2 g116_3.1)
        have n158a : sc116.2.1 150 = s.2.1 150 := by first | exact (hF176.2.1 150 rfl).trans g158_1 | exact g116_2
        have n158b : MO s (x1).toNatClampNeg (y116_2).toNatClampNeg (y116_3).toInt := by first | exact g158_2 | exact g116_6
        have n158c : (((y116_2).toNatClampNeg : Nat) : Int) ≠ (x1).toInt := by first | exact g158_3 | exact g116_3.2
        have n158d : (y116_2).toInt < (s.2.2.1 109 20).toInt := by first | exact g158_4 | (have h := g116_3.1.2.1; rw [hFc116.2.2.1 109 20 rfl] at h; have e : ((y116_2.toNatClampNeg : Nat) : Int) = y116_2.toInt := (by show ((y116_2.toInt.toNat : Nat) : Int) = _; exact (have a0 := in_u h1; have a1 := in_u ro_109_20; have a2 := in_u j116_5; have a3 := in_u j116_2; by omega)); rw [← e]; exact h)
        have m158 : rkb sc116.1 sc116.2.2.1 (x1).toInt (y116_2).toNatClampNeg < 32 := by exact (br_ok hIc116 g116_0.1).1 _ g116_3.1.1 g116_3.1.2.2
        exact gg_w (by omega) (gg_f (gf_cons rfl (gf_cons rfl (gf_cons rfl (gf_cons rfl (gf_cons rfl gf_nil))))) (ct158 (32) sc116 y116_2 y116_3 y116_2 hIc116 hFc116 (in_w 0 31 j116_2 rfl) (in_w 0 31 j116_2 rfl) n158 n158a n158b n158c n158d m158))
      · skip
        have hx116 : ((y116_5.toNatClampNeg : Nat) : Int) ≠ x1.toInt := (by show ((y116_5.toInt.toNat : Nat) : Int) ≠ _; exact (have a0 := in_u h1; have a1 := in_u ro_109_20; have a2 := in_u j116_5; have a3 := in_u j116_2; by omega))
        have hev := ev_bf hIc116 (rkf_ok g116_0.1) g116_5 hx116
        have hfo := fb_fo hIc116 g116_1.1 hev.2.2.2.2.1 hev.2.2.2.2.2.1
        refine g_aload_n 123 (gd rfl) rfl rfl (g_iload 125 (gd rfl) rfl rfl ?_)
        have p125 : BE sc116 (y116_5).toNatClampNeg := by exact hev.1
        refine g_callv (X := _) (As := [.int y116_5]) (r := []) (b := A 109) (q := 109) 128 (gd rfl) rfl rfl rfl rfl rfl (ww_o rfl) (Nat.le_of_ble_eq_true rfl) (Nat.zero_le _) (Nat.zero_le _) (k_350 (by omega) hIc116 (in_w 0 31 j116_5 rfl) p125) (fun e u h => h) (fun v u h => ?_)
        obtain ⟨z125, rfl, rfl, p125a⟩ := h
        show GG _ _ _ _ _ _ _ _ [.long z125] _ _ _
        have hz125 := p125a hfo
        refine g_lload_n 129 (gd rfl) rfl rfl (g_lcmp 130 (gd rfl) rfl (fun z129 e129 => have i129 := lc_in e129; g_if_ge 133 142 (gd rfl) rfl rfl (fun c130 => ?_) (fun c130 => ?_)))
        · skip
          have i130 := z_ge 0 1 c130 i129 rfl
          have c130a := lc_ge e129 c130
          refine g_lload_n 143 (gd rfl) rfl rfl (g_lstore_n 144 (gd rfl) rfl (Nat.le_of_ble_eq_true rfl) (g_aload_n 145 (gd rfl) rfl rfl (g_iload 147 (gd rfl) rfl rfl ?_)))
          have p147 : BE sc116 (y116_5).toNatClampNeg := by exact hev.1
          refine g_callv (X := _) (As := [.int y116_5]) (r := []) (b := A 109) (q := 109) 150 (gd rfl) rfl rfl rfl rfl rfl (ww_o rfl) (Nat.le_of_ble_eq_true rfl) (Nat.zero_le _) (Nat.zero_le _) (k_349 (by omega) hIc116 (in_w 0 31 j116_5 rfl) p147) (fun e u h => h) (fun v u h => ?_)
          obtain ⟨z147, rfl, rfl, i147, p147a⟩ := h
          show GG _ _ _ _ _ _ _ _ [.int z147] _ _ _
          refine g_istore 152 (gd rfl) rfl (Nat.le_of_ble_eq_true rfl) (g_goto 116 (gd rfl) rfl ?_)
          have n116 : CHE sc116 (x1).toInt := by first | exact g116_0 | exact g9_0
          have n116a : CO sc116 := by first | exact g116_1 | exact g9_1
          have n116b : sc116.2.1 150 = s.2.1 150 := by first | exact g116_2 | exact g9_2
          have n116c : ND sc116 (y116_2).toNatClampNeg ∧ (((y116_2).toNatClampNeg : Nat) : Int) ≠ (x1).toInt := by first | exact g116_3 | (rcases g9_3 with hk | ⟨k1, k2, k3⟩; (exfalso; exact (have a0 := in_u h1; have a1 := in_u ro_109_20; have a2 := in_u j116_5; have a3 := in_u j116_2; have a4 := in_u i147; by omega)); exact gd_i g9_0 j116_2 h1 k1 k2 k3 g9_2 q_2.2)
          have n116d : ∃ k, (z147).toNatClampNeg = it sc116 (y116_2).toNatClampNeg k ∧ WY sc116 (x1).toInt (y116_3).toInt (y116_2).toNatClampNeg k := by first | (obtain ⟨k, hk1, hk2⟩ := g116_4; exact ⟨k + 1, by rw [p147a, hk1]; rfl, wy_s hk2 (by rw [← hk1]; exact hx116) (by rw [← hk1]; exact g116_5) (by omega) (by rw [← hk1]; omega)⟩) | exact ⟨0, rfl, fun j hj => absurd hj (Nat.not_lt_zero _)⟩
          have n116e : ND sc116 (z147).toNatClampNeg := by first | (rw [p147a]; exact hev.2.1) | (rcases g9_3 with hk | ⟨k1, k2, k3⟩; (exfalso; exact (have a0 := in_u h1; have a1 := in_u ro_109_20; have a2 := in_u j116_5; have a3 := in_u j116_2; have a4 := in_u i147; by omega)); exact (gd_i g9_0 j116_2 h1 k1 k2 k3 g9_2 q_2.2).1)
          have n116f : MO s (x1).toNatClampNeg (y116_2).toNatClampNeg (y116_3).toInt := by first | (have hr1 := hev.2.2.2.1; have hq := g116_6; unfold MO at hq ⊢; exact ⟨by omega, by omega, by omega, by omega⟩) | (rcases g9_3 with hk | ⟨k1, k2, k3⟩; (exfalso; exact (have a0 := in_u h1; have a1 := in_u ro_109_20; have a2 := in_u j116_5; have a3 := in_u j116_2; have a4 := in_u i147; by omega)); (rw [hFc9.2.2.1 109 20 rfl] at k1; rw [g9_2] at k2; first | exact mo_1 q_1 h1 j116_2 q_2.1 k1 q_2.2 (by rw [← g9_2]; exact e84) (by rw [← g9_2]; exact e90) e91 (by rw [← g9_2]; exact e101) c93a | exact mo_2 q_1 h1 j116_2 q_2.1 k1 k2 (by rw [← g9_2]; exact e84) (by rw [← g9_2]; exact e90) e91 (by rw [← g9_2]; exact e110) e111 c93a))
          have m116 : rkb sc116.1 sc116.2.2.1 (x1).toInt (z147).toNatClampNeg < k116 := by rw [p147a]; have hl := (br_ok hIc116 g116_0.1).2 _ g116_5 hx116; have hm := mm116; omega
          exact gg_w (by omega) (gg_f (gf_cons rfl (gf_cons rfl (gf_cons rfl (gf_cons rfl (gf_cons rfl gf_nil))))) (ih116  sc116 y116_2 y116_3 z147 hIc116 hFc116 (in_w 0 31 j116_2 rfl) (in_w 0 31 i147 rfl) n116 n116a n116b n116c n116d n116e n116f m116))
        · skip
          have i130 := z_lt (-1) (-1) c130 i129 rfl
          have c130a := lc_lt e129 c130
          have i130a := lr_lt1 (-9223372036854775808) 9223372036854775806 c130a (l_rng z125) (l_rng y116_3) rfl
          have i130b := lr_lt2 (-9223372036854775807) 9223372036854775807 c130a (l_rng z125) (l_rng y116_3) rfl
          refine g_aload_n 134 (gd rfl) rfl rfl (g_iload 136 (gd rfl) rfl rfl ?_)
          have p136 : BE sc116 (y116_5).toNatClampNeg := by exact hev.1
          refine g_callv (X := _) (As := [.int y116_5]) (r := []) (b := A 109) (q := 109) 139 (gd rfl) rfl rfl rfl rfl rfl (ww_o rfl) (Nat.le_of_ble_eq_true rfl) (Nat.zero_le _) (Nat.zero_le _) (k_350 (by omega) hIc116 (in_w 0 31 j116_5 rfl) p136) (fun e u h => h) (fun v u h => ?_)
          obtain ⟨z136, rfl, rfl, p136a⟩ := h
          show GG _ _ _ _ _ _ _ _ [.long z136] _ _ _
          have hz136 := p136a hfo
          refine g_goto 143 (gd rfl) rfl (g_lstore_n 144 (gd rfl) rfl (Nat.le_of_ble_eq_true rfl) (g_aload_n 145 (gd rfl) rfl rfl (g_iload 147 (gd rfl) rfl rfl ?_)))
          have p147 : BE sc116 (y116_5).toNatClampNeg := by exact hev.1
          refine g_callv (X := _) (As := [.int y116_5]) (r := []) (b := A 109) (q := 109) 150 (gd rfl) rfl rfl rfl rfl rfl (ww_o rfl) (Nat.le_of_ble_eq_true rfl) (Nat.zero_le _) (Nat.zero_le _) (k_349 (by omega) hIc116 (in_w 0 31 j116_5 rfl) p147) (fun e u h => h) (fun v u h => ?_)
          obtain ⟨z147, rfl, rfl, i147, p147a⟩ := h
          show GG _ _ _ _ _ _ _ _ [.int z147] _ _ _
          refine g_istore 152 (gd rfl) rfl (Nat.le_of_ble_eq_true rfl) (g_goto 116 (gd rfl) rfl ?_)
          have n116 : CHE sc116 (x1).toInt := by first | exact g116_0 | exact g9_0
          have n116a : CO sc116 := by first | exact g116_1 | exact g9_1
          have n116b : sc116.2.1 150 = s.2.1 150 := by first | exact g116_2 | exact g9_2
          have n116c : ND sc116 (y116_2).toNatClampNeg ∧ (((y116_2).toNatClampNeg : Nat) : Int) ≠ (x1).toInt := by first | exact g116_3 | (rcases g9_3 with hk | ⟨k1, k2, k3⟩; (exfalso; exact (have a0 := in_u h1; have a1 := in_u ro_109_20; have a2 := in_u j116_5; have a3 := in_u j116_2; have a4 := in_u i147; by omega)); exact gd_i g9_0 j116_2 h1 k1 k2 k3 g9_2 q_2.2)
          have n116d : ∃ k, (z147).toNatClampNeg = it sc116 (y116_2).toNatClampNeg k ∧ WY sc116 (x1).toInt (z136).toInt (y116_2).toNatClampNeg k := by first | (obtain ⟨k, hk1, hk2⟩ := g116_4; exact ⟨k + 1, by rw [p147a, hk1]; rfl, wy_s hk2 (by rw [← hk1]; exact hx116) (by rw [← hk1]; exact g116_5) (by omega) (by rw [← hk1]; omega)⟩) | exact ⟨0, rfl, fun j hj => absurd hj (Nat.not_lt_zero _)⟩
          have n116e : ND sc116 (z147).toNatClampNeg := by first | (rw [p147a]; exact hev.2.1) | (rcases g9_3 with hk | ⟨k1, k2, k3⟩; (exfalso; exact (have a0 := in_u h1; have a1 := in_u ro_109_20; have a2 := in_u j116_5; have a3 := in_u j116_2; have a4 := in_u i147; by omega)); exact (gd_i g9_0 j116_2 h1 k1 k2 k3 g9_2 q_2.2).1)
          have n116f : MO s (x1).toNatClampNeg (y116_2).toNatClampNeg (z136).toInt := by first | (have hr1 := hev.2.2.2.1; have hq := g116_6; unfold MO at hq ⊢; exact ⟨by omega, by omega, by omega, by omega⟩) | (rcases g9_3 with hk | ⟨k1, k2, k3⟩; (exfalso; exact (have a0 := in_u h1; have a1 := in_u ro_109_20; have a2 := in_u j116_5; have a3 := in_u j116_2; have a4 := in_u i147; by omega)); (rw [hFc9.2.2.1 109 20 rfl] at k1; rw [g9_2] at k2; first | exact mo_1 q_1 h1 j116_2 q_2.1 k1 q_2.2 (by rw [← g9_2]; exact e84) (by rw [← g9_2]; exact e90) e91 (by rw [← g9_2]; exact e101) c93a | exact mo_2 q_1 h1 j116_2 q_2.1 k1 k2 (by rw [← g9_2]; exact e84) (by rw [← g9_2]; exact e90) e91 (by rw [← g9_2]; exact e110) e111 c93a))
          have m116 : rkb sc116.1 sc116.2.2.1 (x1).toInt (z147).toNatClampNeg < k116 := by rw [p147a]; have hl := (br_ok hIc116 g116_0.1).2 _ g116_5 hx116; have hm := mm116; omega
          exact gg_w (by omega) (gg_f (gf_cons rfl (gf_cons rfl (gf_cons rfl (gf_cons rfl (gf_cons rfl gf_nil))))) (ih116  sc116 y116_2 z136 z147 hIc116 hFc116 (in_w 0 31 j116_2 rfl) (in_w 0 31 i147 rfl) n116 n116a n116b n116c n116d n116e n116f m116))
  have ct9 : ∀ (k9 : Nat) (sc9 : GS) (y9_2 : Int32) (y9_3 : Int32), Inv sc9 → Fr fm_358 s sc9 → (In y9_2 (-1) 31) → (In y9_3 0 32) → (CHE sc9 (x1).toInt) → (CO sc9) → (sc9.2.1 150 = s.2.1 150) → ((y9_2).toInt < 0 ∨ ((y9_2).toInt < (sc9.2.2.1 109 20).toInt ∧ (sc9.2.1 150 (y9_2).toNatClampNeg).toInt < 0 ∧ (sc9.2.1 149 (y9_2).toNatClampNeg).toInt < 9000000000000000)) → 32 - (y9_3).toInt < (k9 : Int) → GG Z (d - 1) 358 post (gx xp) (57603 + k9 * 900) 9 (fun j => xlook j [(0, .ref (A 109)), (1, .int x1), (2, .int y9_2), (3, .int y9_3)]) [] (WW Z A sc9 ++ ex) 0 0 := by
    intro k9
    induction k9 with
    | zero => intro sc9 y9_2 y9_3 hIc9 hFc9 j9_2 j9_3 g9_0 g9_1 g9_2 g9_3 mm9; exact m_no mm9 j9_3 rfl
    | succ k9 ih9 =>
      intro sc9 y9_2 y9_3 hIc9 hFc9 j9_2 j9_3 g9_0 g9_1 g9_2 g9_3 mm9
      refine gg_w (M := 57603 + k9 * 900 + 900) (by omega) (g_iload_n 10 (gd rfl) rfl rfl (g_aload_n 11 (gd rfl) rfl rfl (g_getIv (y := u_109_20) 14 (gd rfl) rfl rfl rfl (fr_F e_109_20 hFc9 rfl) (g_cmp_ge 17 73 (gd rfl) rfl rfl (fun c14 => ?_) (fun c14 => ?_)))))
      · skip
        refine g_iload_n 74 (gd rfl) rfl rfl (g_if_ge 77 79 (gd rfl) rfl rfl (fun c74 => ?_) (fun c74 => ?_))
        · skip
          have i74 := z_ge 0 31 c74 j9_2 rfl
          refine g_aload_n 80 (gd rfl) rfl rfl (g_getA (q2 := 150) 83 (gd rfl) rfl rfl rfl rfl (g_iload_n 84 (gd rfl) rfl rfl (g_laload 85 (gd rfl) rfl (n := 32) rfl (in_ix h1 rfl) (fun z84 e84 => g_aload_n 86 (gd rfl) rfl rfl (g_getA (q2 := 150) 89 (gd rfl) rfl rfl rfl rfl (g_iload_n 90 (gd rfl) rfl rfl (g_laload 91 (gd rfl) rfl (n := 32) rfl (in_ix i74 rfl) (fun z90 e90 => g_lneg 92 (gd rfl) rfl (fun z91 e91 => g_lcmp 93 (gd rfl) rfl (fun z92 e92 => have i92 := lc_in e92; g_if_ge 96 105 (gd rfl) rfl rfl (fun c93 => ?_) (fun c93 => ?_)))))))))))
          · skip
            have i93 := z_ge 0 1 c93 i92 rfl
            have c93a := lc_ge e92 c93
            refine g_aload_n 106 (gd rfl) rfl rfl (g_getA (q2 := 150) 109 (gd rfl) rfl rfl rfl rfl (g_iload_n 110 (gd rfl) rfl rfl (g_laload 111 (gd rfl) rfl (n := 32) rfl (in_ix i74 rfl) (fun z110 e110 => g_lneg 112 (gd rfl) rfl (fun z111 e111 => g_lstore_n 113 (gd rfl) rfl (Nat.le_of_ble_eq_true rfl) (g_iload_n 114 (gd rfl) rfl rfl (g_istore 116 (gd rfl) rfl (Nat.le_of_ble_eq_true rfl) ?_)))))))
            have n116 : CHE sc9 (x1).toInt := by first | exact g116_0 | exact g9_0
            have n116a : CO sc9 := by first | exact g116_1 | exact g9_1
            have n116b : sc9.2.1 150 = s.2.1 150 := by first | exact g116_2 | exact g9_2
            have n116c : ND sc9 (y9_2).toNatClampNeg ∧ (((y9_2).toNatClampNeg : Nat) : Int) ≠ (x1).toInt := by first | exact g116_3 | (rcases g9_3 with hk | ⟨k1, k2, k3⟩; (exfalso; exact (have a0 := in_u h1; have a1 := in_u ro_109_20; have a2 := in_u j9_3; have a3 := in_u i74; by omega)); exact gd_i g9_0 i74 h1 k1 k2 k3 g9_2 q_2.2)
            have n116d : ∃ k, (y9_2).toNatClampNeg = it sc9 (y9_2).toNatClampNeg k ∧ WY sc9 (x1).toInt (z111).toInt (y9_2).toNatClampNeg k := by first | (obtain ⟨k, hk1, hk2⟩ := g116_4; exact ⟨k + 1, by rw [p147a, hk1]; rfl, wy_s hk2 (by rw [← hk1]; exact hx116) (by rw [← hk1]; exact g116_5) (by omega) (by rw [← hk1]; omega)⟩) | exact ⟨0, rfl, fun j hj => absurd hj (Nat.not_lt_zero _)⟩
            have n116e : ND sc9 (y9_2).toNatClampNeg := by first | (rw [p147a]; exact hev.2.1) | (rcases g9_3 with hk | ⟨k1, k2, k3⟩; (exfalso; exact (have a0 := in_u h1; have a1 := in_u ro_109_20; have a2 := in_u j9_3; have a3 := in_u i74; by omega)); exact (gd_i g9_0 i74 h1 k1 k2 k3 g9_2 q_2.2).1)
            have n116f : MO s (x1).toNatClampNeg (y9_2).toNatClampNeg (z111).toInt := by first | (have hr1 := hev.2.2.2.1; have hq := g116_6; unfold MO at hq ⊢; exact ⟨by omega, by omega, by omega, by omega⟩) | (rcases g9_3 with hk | ⟨k1, k2, k3⟩; (exfalso; exact (have a0 := in_u h1; have a1 := in_u ro_109_20; have a2 := in_u j9_3; have a3 := in_u i74; by omega)); (rw [hFc9.2.2.1 109 20 rfl] at k1; rw [g9_2] at k2; first | exact mo_1 q_1 h1 i74 q_2.1 k1 q_2.2 (by rw [← g9_2]; exact e84) (by rw [← g9_2]; exact e90) e91 (by rw [← g9_2]; exact e101) c93a | exact mo_2 q_1 h1 i74 q_2.1 k1 k2 (by rw [← g9_2]; exact e84) (by rw [← g9_2]; exact e90) e91 (by rw [← g9_2]; exact e110) e111 c93a))
            have m116 : rkb sc9.1 sc9.2.2.1 (x1).toInt (y9_2).toNatClampNeg < 32 := by exact (br_ok hIc9 n116.1).1 _ n116e.1 n116e.2.2
            exact gg_w (by omega) (gg_f (gf_cons rfl (gf_cons rfl (gf_cons rfl (gf_cons rfl (gf_cons rfl gf_nil))))) (ct116 (32) sc9 y9_2 z111 y9_2 hIc9 hFc9 (in_w 0 31 i74 rfl) (in_w 0 31 i74 rfl) n116 n116a n116b n116c n116d n116e n116f m116))
          · skip
            have i93 := z_lt (-1) (-1) c93 i92 rfl
            have c93a := lc_lt e92 c93
            have i93a := lr_lt1 (-9223372036854775808) 9223372036854775806 c93a (l_rng z84) (l_rng z91) rfl
            have i93b := lr_lt2 (-9223372036854775807) 9223372036854775807 c93a (l_rng z84) (l_rng z91) rfl
            refine g_aload_n 97 (gd rfl) rfl rfl (g_getA (q2 := 150) 100 (gd rfl) rfl rfl rfl rfl (g_iload_n 101 (gd rfl) rfl rfl (g_laload 102 (gd rfl) rfl (n := 32) rfl (in_ix h1 rfl) (fun z101 e101 => g_goto 112 (gd rfl) rfl (g_lstore_n 113 (gd rfl) rfl (Nat.le_of_ble_eq_true rfl) (g_iload_n 114 (gd rfl) rfl rfl (g_istore 116 (gd rfl) rfl (Nat.le_of_ble_eq_true rfl) ?_)))))))
            have n116 : CHE sc9 (x1).toInt := by first | exact g116_0 | exact g9_0
            have n116a : CO sc9 := by first | exact g116_1 | exact g9_1
            have n116b : sc9.2.1 150 = s.2.1 150 := by first | exact g116_2 | exact g9_2
            have n116c : ND sc9 (y9_2).toNatClampNeg ∧ (((y9_2).toNatClampNeg : Nat) : Int) ≠ (x1).toInt := by first | exact g116_3 | (rcases g9_3 with hk | ⟨k1, k2, k3⟩; (exfalso; exact (have a0 := in_u h1; have a1 := in_u ro_109_20; have a2 := in_u j9_3; have a3 := in_u i74; by omega)); exact gd_i g9_0 i74 h1 k1 k2 k3 g9_2 q_2.2)
            have n116d : ∃ k, (y9_2).toNatClampNeg = it sc9 (y9_2).toNatClampNeg k ∧ WY sc9 (x1).toInt (z101).toInt (y9_2).toNatClampNeg k := by first | (obtain ⟨k, hk1, hk2⟩ := g116_4; exact ⟨k + 1, by rw [p147a, hk1]; rfl, wy_s hk2 (by rw [← hk1]; exact hx116) (by rw [← hk1]; exact g116_5) (by omega) (by rw [← hk1]; omega)⟩) | exact ⟨0, rfl, fun j hj => absurd hj (Nat.not_lt_zero _)⟩
            have n116e : ND sc9 (y9_2).toNatClampNeg := by first | (rw [p147a]; exact hev.2.1) | (rcases g9_3 with hk | ⟨k1, k2, k3⟩; (exfalso; exact (have a0 := in_u h1; have a1 := in_u ro_109_20; have a2 := in_u j9_3; have a3 := in_u i74; by omega)); exact (gd_i g9_0 i74 h1 k1 k2 k3 g9_2 q_2.2).1)
            have n116f : MO s (x1).toNatClampNeg (y9_2).toNatClampNeg (z101).toInt := by first | (have hr1 := hev.2.2.2.1; have hq := g116_6; unfold MO at hq ⊢; exact ⟨by omega, by omega, by omega, by omega⟩) | (rcases g9_3 with hk | ⟨k1, k2, k3⟩; (exfalso; exact (have a0 := in_u h1; have a1 := in_u ro_109_20; have a2 := in_u j9_3; have a3 := in_u i74; by omega)); (rw [hFc9.2.2.1 109 20 rfl] at k1; rw [g9_2] at k2; first | exact mo_1 q_1 h1 i74 q_2.1 k1 q_2.2 (by rw [← g9_2]; exact e84) (by rw [← g9_2]; exact e90) e91 (by rw [← g9_2]; exact e101) c93a | exact mo_2 q_1 h1 i74 q_2.1 k1 k2 (by rw [← g9_2]; exact e84) (by rw [← g9_2]; exact e90) e91 (by rw [← g9_2]; exact e110) e111 c93a))
            have m116 : rkb sc9.1 sc9.2.2.1 (x1).toInt (y9_2).toNatClampNeg < 32 := by exact (br_ok hIc9 n116.1).1 _ n116e.1 n116e.2.2
            exact gg_w (by omega) (gg_f (gf_cons rfl (gf_cons rfl (gf_cons rfl (gf_cons rfl (gf_cons rfl gf_nil))))) (ct116 (32) sc9 y9_2 z101 y9_2 hIc9 hFc9 (in_w 0 31 i74 rfl) (in_w 0 31 i74 rfl) n116 n116a n116b n116c n116d n116e n116f m116))
        · skip
          have i74 := z_lt (-1) (-1) c74 j9_2 rfl
          refine g_iconst 0 78 (gd rfl) rfl rfl ?_
          have n78 : CO sc9 := by first | exact g9_1 | exact co_cg (pl_e g158_0 (by show ((y158_5.toInt.toNat : Nat) : Int) = _; exact (have a0 := in_u h1; have a1 := in_u ro_109_20; have a2 := in_u j9_3; have a3 := in_u i74; by omega))) ⟨rfl, rfl, rfl, rfl, rfl, by simp [sL], rfl, rfl⟩
          have n78a : SU sc9 := by first | (intro v hv hvn; rw [g9_2]; rw [hFc9.2.2.1 109 20 rfl] at hvn; exact q_1 v hv hvn) | exact (su_t (T := sc9) (m := y158_3) q_1 (nat_in h1 q_2.1).1 (nat_in h1 q_2.1).2 (nat_in i74 g158_4).1 (nat_in i74 g158_4).2 (fun e => g158_3 (by rw [e]; show ((x1.toInt.toNat : Nat) : Int) = _; exact (have a0 := in_u h1; have a1 := in_u ro_109_20; have a2 := in_u j9_3; have a3 := in_u i74; by omega))) g158_2 (by rw [← g158_1]; exact e192) e194 (by rw [e202, show (sL sc158 150 x1.toNatClampNeg z194).2.1 150 = vp_updL (sc158.2.1 150) x1.toNatClampNeg z194 from (by simp [sL]), g158_1]) e204 (by rw [show (sc9).2.1 150 = vp_updL (vp_updL (sc158.2.1 150) x1.toNatClampNeg z194) y158_2.toNatClampNeg z204 from (by simp [sL]), g158_1]) (hFc158.2.2.1 109 20 rfl)).1
          have n78b : (((Int32.ofInt 0)).toInt ≠ 0 → (sc9.2.1 150 (x1).toNatClampNeg).toInt < (s.2.1 150 (x1).toNatClampNeg).toInt ∧ 0 ≤ (sc9.2.1 150 (x1).toNatClampNeg).toInt) ∧ (((Int32.ofInt 0)).toInt = 0 → sc9.2.1 150 = s.2.1 150) := by first | exact ⟨fun hz => absurd (by decide) hz, fun _ => g9_2⟩ | exact ⟨fun _ => (su_t (T := sc9) (m := y158_3) q_1 (nat_in h1 q_2.1).1 (nat_in h1 q_2.1).2 (nat_in i74 g158_4).1 (nat_in i74 g158_4).2 (fun e => g158_3 (by rw [e]; show ((x1.toInt.toNat : Nat) : Int) = _; exact (have a0 := in_u h1; have a1 := in_u ro_109_20; have a2 := in_u j9_3; have a3 := in_u i74; by omega))) g158_2 (by rw [← g158_1]; exact e192) e194 (by rw [e202, show (sL sc158 150 x1.toNatClampNeg z194).2.1 150 = vp_updL (sc158.2.1 150) x1.toNatClampNeg z194 from (by simp [sL]), g158_1]) e204 (by rw [show (sc9).2.1 150 = vp_updL (vp_updL (sc158.2.1 150) x1.toNatClampNeg z194) y158_2.toNatClampNeg z204 from (by simp [sL]), g158_1]) (hFc158.2.2.1 109 20 rfl)).2, fun hz => absurd hz (by decide)⟩
          exact g_ireturn (gd rfl) rfl (nb01 (in_w 0 1 (in_c 0 rfl) rfl)) (hP _ _ ⟨sc9, hIc9, hFc9, (Int32.ofInt 0), rfl, rfl, in_w 0 1 (in_c 0 rfl) rfl, n78, n78a, n78b⟩)
      · skip
        have i14 := r_lt1 0 31 c14 j9_3 ro_109_20 rfl
        have i14a := r_lt2 1 32 c14 j9_3 ro_109_20 rfl
        refine g_aload_n 18 (gd rfl) rfl rfl (g_getA (q2 := 150) 21 (gd rfl) rfl rfl rfl rfl (g_iload_n 22 (gd rfl) rfl rfl (g_laload 23 (gd rfl) rfl (n := 32) rfl (in_ix i14 rfl) (fun z22 e22 => g_lconst 0 24 (gd rfl) rfl rfl (g_lcmp 25 (gd rfl) rfl (fun z24 e24 => have i24 := lc_in e24; g_if_ge 28 65 (gd rfl) rfl rfl (fun c25 => ?_) (fun c25 => ?_)))))))
        · skip
          have i25 := z_ge 0 1 c25 i24 rfl
          have c25a := lc_ge e24 c25
          have i25a := lr_le2 0 9223372036854775807 c25a (l_c 0 rfl) (l_rng z22) rfl
          refine g_iload_n 66 (gd rfl) rfl rfl (g_istore_n 67 (gd rfl) rfl (Nat.le_of_ble_eq_true rfl) (g_iinc 70 (gd rfl) rfl rfl (Nat.le_of_ble_eq_true rfl) (fun z67 e67 => have i67 := in_add 1 32 e67 i14 (in_c 1 rfl) rfl rfl; g_goto 9 (gd rfl) rfl ?_)))
          have n9 : CHE sc9 (x1).toInt := by first | exact g9_0 | exact p2b
          have n9a : CO sc9 := by first | exact g9_1 | exact co_cg q_0 ⟨hF2.1 112 rfl, hF2.1 113 rfl, hF2.1 114 rfl, hF2.1 115 rfl, hF2.1 116 rfl, hF2.2.1 147 rfl, hF2.2.2.1 109 19 rfl, hF2.2.2.1 109 20 rfl⟩
          have n9b : sc9.2.1 150 = s.2.1 150 := by first | exact g9_2 | exact hF2.2.1 150 rfl
          have n9c : (y9_2).toInt < 0 ∨ ((y9_2).toInt < (sc9.2.2.1 109 20).toInt ∧ (sc9.2.1 150 (y9_2).toNatClampNeg).toInt < 0 ∧ (sc9.2.1 149 (y9_2).toNatClampNeg).toInt < 9000000000000000) := by first | exact g9_3 | exact Or.inl (by decide) | exact Or.inr ⟨by rw [hFc9.2.2.1 109 20 rfl, ← e_109_20]; exact (have a0 := in_u h1; have a1 := in_u i14a; have a2 := in_u i14; have a3 := in_u j9_2; have a4 := in_u i67; have a5 := t_add e67 i14 (in_c 1 rfl) rfl; have a6 := in_u ((in_c 1 rfl)); by omega), by rw [← e22]; have h := i25a.2; omega, by rw [← e33]; have h := i38a.2; omega⟩
          exact gg_w (by omega) (gg_f (gf_cons rfl (gf_cons rfl (gf_cons rfl (gf_cons rfl gf_nil)))) (ih9 sc9 y9_2 z67 hIc9 hFc9 (in_w (-1) 31 j9_2 rfl) (in_w 0 32 i67 rfl) n9 n9a n9b n9c (m_up mm9 (t_add e67 i14 (in_c 1 rfl) rfl) (in_w 1 1 (in_c 1 rfl) rfl))))
        · skip
          have i25 := z_lt (-1) (-1) c25 i24 rfl
          have c25a := lc_lt e24 c25
          have i25a := lr_lt1 (-9223372036854775808) (-1) c25a (l_rng z22) (l_c 0 rfl) rfl
          refine g_aload_n 29 (gd rfl) rfl rfl (g_getA (q2 := 149) 32 (gd rfl) rfl rfl rfl rfl (g_iload_n 33 (gd rfl) rfl rfl (g_laload 34 (gd rfl) rfl (n := 34) rfl (in_ix i14 rfl) (fun z33 e33 => g_ldc2_w 9000000000000000 37 (gd rfl) rfl rfl (g_lcmp 38 (gd rfl) rfl (fun z37 e37 => have i37 := lc_in e37; g_if_ge 41 65 (gd rfl) rfl rfl (fun c38 => ?_) (fun c38 => ?_)))))))
          · skip
            have i38 := z_ge 0 1 c38 i37 rfl
            have c38a := lc_ge e37 c38
            have i38a := lr_le2 9000000000000000 9223372036854775807 c38a (l_c 9000000000000000 rfl) (l_rng z33) rfl
            refine g_iload_n 66 (gd rfl) rfl rfl (g_istore_n 67 (gd rfl) rfl (Nat.le_of_ble_eq_true rfl) (g_iinc 70 (gd rfl) rfl rfl (Nat.le_of_ble_eq_true rfl) (fun z67 e67 => have i67 := in_add 1 32 e67 i14 (in_c 1 rfl) rfl rfl; g_goto 9 (gd rfl) rfl ?_)))
            have n9 : CHE sc9 (x1).toInt := by first | exact g9_0 | exact p2b
            have n9a : CO sc9 := by first | exact g9_1 | exact co_cg q_0 ⟨hF2.1 112 rfl, hF2.1 113 rfl, hF2.1 114 rfl, hF2.1 115 rfl, hF2.1 116 rfl, hF2.2.1 147 rfl, hF2.2.2.1 109 19 rfl, hF2.2.2.1 109 20 rfl⟩
            have n9b : sc9.2.1 150 = s.2.1 150 := by first | exact g9_2 | exact hF2.2.1 150 rfl
            have n9c : (y9_2).toInt < 0 ∨ ((y9_2).toInt < (sc9.2.2.1 109 20).toInt ∧ (sc9.2.1 150 (y9_2).toNatClampNeg).toInt < 0 ∧ (sc9.2.1 149 (y9_2).toNatClampNeg).toInt < 9000000000000000) := by first | exact g9_3 | exact Or.inl (by decide) | exact Or.inr ⟨by rw [hFc9.2.2.1 109 20 rfl, ← e_109_20]; exact (have a0 := in_u h1; have a1 := in_u i14a; have a2 := in_u i14; have a3 := in_u j9_2; have a4 := in_u i67; have a5 := t_add e67 i14 (in_c 1 rfl) rfl; have a6 := in_u ((in_c 1 rfl)); by omega), by rw [← e22]; have h := i25a.2; omega, by rw [← e33]; have h := i38a.2; omega⟩
            exact gg_w (by omega) (gg_f (gf_cons rfl (gf_cons rfl (gf_cons rfl (gf_cons rfl gf_nil)))) (ih9 sc9 y9_2 z67 hIc9 hFc9 (in_w (-1) 31 j9_2 rfl) (in_w 0 32 i67 rfl) n9 n9a n9b n9c (m_up mm9 (t_add e67 i14 (in_c 1 rfl) rfl) (in_w 1 1 (in_c 1 rfl) rfl))))
          · skip
            have i38 := z_lt (-1) (-1) c38 i37 rfl
            have c38a := lc_lt e37 c38
            have i38a := lr_lt1 (-9223372036854775808) 8999999999999999 c38a (l_rng z33) (l_c 9000000000000000 rfl) rfl
            refine g_iload_n 42 (gd rfl) rfl rfl (g_if_lt 45 61 (gd rfl) rfl rfl (fun c42 => ?_) (fun c42 => ?_))
            · skip
              have i42 := z_lt (-1) (-1) c42 j9_2 rfl
              refine g_iload_n 62 (gd rfl) rfl rfl (g_goto 66 (gd rfl) rfl (g_istore_n 67 (gd rfl) rfl (Nat.le_of_ble_eq_true rfl) (g_iinc 70 (gd rfl) rfl rfl (Nat.le_of_ble_eq_true rfl) (fun z67 e67 => have i67 := in_add 1 32 e67 i14 (in_c 1 rfl) rfl rfl; g_goto 9 (gd rfl) rfl ?_))))
              have n9 : CHE sc9 (x1).toInt := by first | exact g9_0 | exact p2b
              have n9a : CO sc9 := by first | exact g9_1 | exact co_cg q_0 ⟨hF2.1 112 rfl, hF2.1 113 rfl, hF2.1 114 rfl, hF2.1 115 rfl, hF2.1 116 rfl, hF2.2.1 147 rfl, hF2.2.2.1 109 19 rfl, hF2.2.2.1 109 20 rfl⟩
              have n9b : sc9.2.1 150 = s.2.1 150 := by first | exact g9_2 | exact hF2.2.1 150 rfl
              have n9c : (y9_3).toInt < 0 ∨ ((y9_3).toInt < (sc9.2.2.1 109 20).toInt ∧ (sc9.2.1 150 (y9_3).toNatClampNeg).toInt < 0 ∧ (sc9.2.1 149 (y9_3).toNatClampNeg).toInt < 9000000000000000) := by first | exact g9_3 | exact Or.inl (by decide) | exact Or.inr ⟨by rw [hFc9.2.2.1 109 20 rfl, ← e_109_20]; exact (have a0 := in_u h1; have a1 := in_u i14a; have a2 := in_u i14; have a3 := in_u i42; have a4 := in_u i67; have a5 := t_add e67 i14 (in_c 1 rfl) rfl; have a6 := in_u ((in_c 1 rfl)); by omega), by rw [← e22]; have h := i25a.2; omega, by rw [← e33]; have h := i38a.2; omega⟩
              exact gg_w (by omega) (gg_f (gf_cons rfl (gf_cons rfl (gf_cons rfl (gf_cons rfl gf_nil)))) (ih9 sc9 y9_3 z67 hIc9 hFc9 (in_w (-1) 31 i14 rfl) (in_w 0 32 i67 rfl) n9 n9a n9b n9c (m_up mm9 (t_add e67 i14 (in_c 1 rfl) rfl) (in_w 1 1 (in_c 1 rfl) rfl))))
            · skip
              have i42 := z_ge 0 31 c42 j9_2 rfl
              refine g_aload_n 46 (gd rfl) rfl rfl (g_getA (q2 := 149) 49 (gd rfl) rfl rfl rfl rfl (g_iload_n 50 (gd rfl) rfl rfl (g_laload 51 (gd rfl) rfl (n := 34) rfl (in_ix i14 rfl) (fun z50 e50 => g_aload_n 52 (gd rfl) rfl rfl (g_getA (q2 := 149) 55 (gd rfl) rfl rfl rfl rfl (g_iload_n 56 (gd rfl) rfl rfl (g_laload 57 (gd rfl) rfl (n := 34) rfl (in_ix i42 rfl) (fun z56 e56 => g_lcmp 58 (gd rfl) rfl (fun z57 e57 => have i57 := lc_in e57; g_if_ge 61 65 (gd rfl) rfl rfl (fun c58 => ?_) (fun c58 => ?_))))))))))
              · skip
                have i58 := z_ge 0 1 c58 i57 rfl
                have c58a := lc_ge e57 c58
                refine g_iload_n 66 (gd rfl) rfl rfl (g_istore_n 67 (gd rfl) rfl (Nat.le_of_ble_eq_true rfl) (g_iinc 70 (gd rfl) rfl rfl (Nat.le_of_ble_eq_true rfl) (fun z67 e67 => have i67 := in_add 1 32 e67 i14 (in_c 1 rfl) rfl rfl; g_goto 9 (gd rfl) rfl ?_)))
                have n9 : CHE sc9 (x1).toInt := by first | exact g9_0 | exact p2b
                have n9a : CO sc9 := by first | exact g9_1 | exact co_cg q_0 ⟨hF2.1 112 rfl, hF2.1 113 rfl, hF2.1 114 rfl, hF2.1 115 rfl, hF2.1 116 rfl, hF2.2.1 147 rfl, hF2.2.2.1 109 19 rfl, hF2.2.2.1 109 20 rfl⟩
                have n9b : sc9.2.1 150 = s.2.1 150 := by first | exact g9_2 | exact hF2.2.1 150 rfl
                have n9c : (y9_2).toInt < 0 ∨ ((y9_2).toInt < (sc9.2.2.1 109 20).toInt ∧ (sc9.2.1 150 (y9_2).toNatClampNeg).toInt < 0 ∧ (sc9.2.1 149 (y9_2).toNatClampNeg).toInt < 9000000000000000) := by first | exact g9_3 | exact Or.inl (by decide) | exact Or.inr ⟨by rw [hFc9.2.2.1 109 20 rfl, ← e_109_20]; exact (have a0 := in_u h1; have a1 := in_u i14a; have a2 := in_u i14; have a3 := in_u i42; have a4 := in_u i67; have a5 := t_add e67 i14 (in_c 1 rfl) rfl; have a6 := in_u ((in_c 1 rfl)); by omega), by rw [← e22]; have h := i25a.2; omega, by rw [← e33]; have h := i38a.2; omega⟩
                exact gg_w (by omega) (gg_f (gf_cons rfl (gf_cons rfl (gf_cons rfl (gf_cons rfl gf_nil)))) (ih9 sc9 y9_2 z67 hIc9 hFc9 (in_w (-1) 31 i42 rfl) (in_w 0 32 i67 rfl) n9 n9a n9b n9c (m_up mm9 (t_add e67 i14 (in_c 1 rfl) rfl) (in_w 1 1 (in_c 1 rfl) rfl))))
              · skip
                have i58 := z_lt (-1) (-1) c58 i57 rfl
                have c58a := lc_lt e57 c58
                have i58a := lr_lt1 (-9223372036854775808) 9223372036854775806 c58a (l_rng z50) (l_rng z56) rfl
                have i58b := lr_lt2 (-9223372036854775807) 9223372036854775807 c58a (l_rng z50) (l_rng z56) rfl
                refine g_iload_n 62 (gd rfl) rfl rfl (g_goto 66 (gd rfl) rfl (g_istore_n 67 (gd rfl) rfl (Nat.le_of_ble_eq_true rfl) (g_iinc 70 (gd rfl) rfl rfl (Nat.le_of_ble_eq_true rfl) (fun z67 e67 => have i67 := in_add 1 32 e67 i14 (in_c 1 rfl) rfl rfl; g_goto 9 (gd rfl) rfl ?_))))
                have n9 : CHE sc9 (x1).toInt := by first | exact g9_0 | exact p2b
                have n9a : CO sc9 := by first | exact g9_1 | exact co_cg q_0 ⟨hF2.1 112 rfl, hF2.1 113 rfl, hF2.1 114 rfl, hF2.1 115 rfl, hF2.1 116 rfl, hF2.2.1 147 rfl, hF2.2.2.1 109 19 rfl, hF2.2.2.1 109 20 rfl⟩
                have n9b : sc9.2.1 150 = s.2.1 150 := by first | exact g9_2 | exact hF2.2.1 150 rfl
                have n9c : (y9_3).toInt < 0 ∨ ((y9_3).toInt < (sc9.2.2.1 109 20).toInt ∧ (sc9.2.1 150 (y9_3).toNatClampNeg).toInt < 0 ∧ (sc9.2.1 149 (y9_3).toNatClampNeg).toInt < 9000000000000000) := by first | exact g9_3 | exact Or.inl (by decide) | exact Or.inr ⟨by rw [hFc9.2.2.1 109 20 rfl, ← e_109_20]; exact (have a0 := in_u h1; have a1 := in_u i14a; have a2 := in_u i14; have a3 := in_u i42; have a4 := in_u i67; have a5 := t_add e67 i14 (in_c 1 rfl) rfl; have a6 := in_u ((in_c 1 rfl)); by omega), by rw [← e22]; have h := i25a.2; omega, by rw [← e33]; have h := i38a.2; omega⟩
                exact gg_w (by omega) (gg_f (gf_cons rfl (gf_cons rfl (gf_cons rfl (gf_cons rfl gf_nil)))) (ih9 sc9 y9_3 z67 hIc9 hFc9 (in_w (-1) 31 i14 rfl) (in_w 0 32 i67 rfl) n9 n9a n9b n9c (m_up mm9 (t_add e67 i14 (in_c 1 rfl) rfl) (in_w 1 1 (in_c 1 rfl) rfl))))
  refine g_enter2 (k := 358) (N := 88203) (by omega) rfl (Nat.le_of_ble_eq_true rfl) (g_aload_n 1 (gd rfl) rfl rfl (g_iload_n 2 (gd rfl) rfl rfl ?_))
  have p2 : CP s := by exact q_0.2
  have p2a : (x1).toInt < (s.2.2.1 109 20).toInt := by exact q_2.1
  refine g_callv (X := _) (As := [.int x1]) (r := []) (b := A 109) (q := 109) 5 (gd rfl) rfl rfl rfl rfl rfl (ww_o rfl) (Nat.le_of_ble_eq_true rfl) (Nat.zero_le _) (Nat.zero_le _) (k_356 (by omega) hI (in_w 0 31 h1 rfl) p2 p2a) (fun e u h => h) (fun v u h => ?_)
  obtain ⟨s2, hI2, hF2, rfl, rfl, p2b⟩ := h
  show GG _ _ _ _ _ _ _ _ [] _ _ _
  refine g_iconst (-1) 6 (gd rfl) rfl rfl (g_istore_n 7 (gd rfl) rfl (Nat.le_of_ble_eq_true rfl) (g_iconst 0 8 (gd rfl) rfl rfl (g_istore_n 9 (gd rfl) rfl (Nat.le_of_ble_eq_true rfl) ?_)))
  have n9 : CHE s2 (x1).toInt := by first | exact g9_0 | exact p2b
  have n9a : CO s2 := by first | exact g9_1 | exact co_cg q_0 ⟨hF2.1 112 rfl, hF2.1 113 rfl, hF2.1 114 rfl, hF2.1 115 rfl, hF2.1 116 rfl, hF2.2.1 147 rfl, hF2.2.2.1 109 19 rfl, hF2.2.2.1 109 20 rfl⟩
  have n9b : s2.2.1 150 = s.2.1 150 := by first | exact g9_2 | exact hF2.2.1 150 rfl
  have n9c : ((Int32.ofInt (-1))).toInt < 0 ∨ (((Int32.ofInt (-1))).toInt < (s2.2.2.1 109 20).toInt ∧ (s2.2.1 150 ((Int32.ofInt (-1))).toNatClampNeg).toInt < 0 ∧ (s2.2.1 149 ((Int32.ofInt (-1))).toNatClampNeg).toInt < 9000000000000000) := by first | exact g9_3 | exact Or.inl (by decide) | exact Or.inr ⟨by rw [hFc9.2.2.1 109 20 rfl, ← e_109_20]; exact (have a0 := in_u ro_109_20; have a1 := in_u h1; have a2 := in_u ((in_c 0 rfl)); have a3 := in_u ((in_c (-1) rfl)); by omega), by rw [← e22]; have h := i25a.2; omega, by rw [← e33]; have h := i38a.2; omega⟩
  exact gg_w (by omega) (gg_f (gf_cons rfl (gf_cons rfl (gf_cons rfl (gf_cons rfl gf_nil)))) (ct9 33 s2 (Int32.ofInt (-1)) (Int32.ofInt 0) hI2 (fr_tr rfl fr_rf hF2) (in_w (-1) 31 (in_c (-1) rfl) rfl) (in_w 0 32 (in_c 0 rfl) rfl) n9 n9a n9b n9c (m_in 33 (in_w 0 32 (in_c 0 rfl) rfl) rfl)))

def fm_361 : FM := ([148], [149], [], [])
/-- GraphHouseModel.cheapestPair -/
theorem k_361 {Z : AmZ} {A : Nat → Nat} {s : GS} {ex : va_W} {d : Nat} {X : AmX}  (hd : 2 ≤ d) (hI : Inv s) (q_0 : PP s) : GC Z d 361 [.ref (A 109)] (WW Z A s ++ ex) 0 0 (fun v u => ∃ t : GS, Inv t ∧ Fr fm_361 s t ∧ ∃ z : Int32, v = some (.int z) ∧ u = WW Z A t ++ ex ∧ In z (-1) 31 ∧ (∃ n, n ≤ 32 ∧ FLP t (z).toInt n) ∧ (0 ≤ (z).toInt → (t.1 151 (z).toNatClampNeg).toInt < 0)) X := by
  intro post xp hP hX
  obtain ⟨u_109_20, e_109_20⟩ : ∃ w, w = s.2.2.1 109 20 := ⟨_, rfl⟩
  have ro_109_20 := inv_F hI 0 32 rfl e_109_20
  have ct233 : ∀ (k233 : Nat) (sc233 : GS) (y233_1 : Int32) (y233_2 : Int32) (y233_3 : Int32), Inv sc233 → Fr fm_361 s sc233 → (In y233_1 0 0) → (In y233_2 (-1) 31) → (In y233_3 0 32) → (CIP s sc233) → (CLP s sc233 1024) → ((y233_2).toInt < 0 ∨ (In (y233_2) 0 31 ∧ (y233_2).toInt < nnq s ∧ ¬ FSQ s (y233_2).toNatClampNeg ∧ (s.1 151 (y233_2).toNatClampNeg).toInt < 0 ∧ (sc233.2.1 149 (y233_2).toNatClampNeg).toInt < 9000000000000000)) → 32 - (y233_3).toInt < (k233 : Int) → GG Z (d - 1) 361 post (gx xp) (1 + k233 * 900) 233 (fun j => xlook j [(0, .ref (A 109)), (1, .int y233_1), (2, .int y233_2), (3, .int y233_3)]) [] (WW Z A sc233 ++ ex) 0 0 := by
    intro k233
    induction k233 with
    | zero => intro sc233 y233_1 y233_2 y233_3 hIc233 hFc233 j233_1 j233_2 j233_3 g233_0 g233_1 g233_2 mm233; exact m_no mm233 j233_3 rfl
    | succ k233 ih233 =>
      intro sc233 y233_1 y233_2 y233_3 hIc233 hFc233 j233_1 j233_2 j233_3 g233_0 g233_1 g233_2 mm233
      refine gg_w (M := 1 + k233 * 900 + 900) (by omega) (g_iload_n 234 (gd rfl) rfl rfl (g_aload_n 235 (gd rfl) rfl rfl (g_getIv (y := u_109_20) 238 (gd rfl) rfl rfl rfl (fr_F e_109_20 hFc233 rfl) (g_cmp_ge 241 315 (gd rfl) rfl rfl (fun c238 => ?_) (fun c238 => ?_)))))
      · skip
        refine g_iload_n 316 (gd rfl) rfl rfl ?_
        have n316 : ∃ n, n ≤ 32 ∧ FLP sc233 (y233_2).toInt n := by exact flp_0 q_0 (hFc233.1 111 rfl) (hFc233.1 151 rfl) (hFc233.2.1 152 rfl) (hFc233.2.2.1 109 18 rfl) (hFc233.2.2.1 109 20 rfl) g233_0 g233_1 g233_2
        have n316a : 0 ≤ (y233_2).toInt → (sc233.1 151 (y233_2).toNatClampNeg).toInt < 0 := by intro h0; rcases g233_2 with h | h; (exfalso; omega); (rw [hFc233.1 151 rfl]; exact h.2.2.2.1)
        exact g_ireturn (gd rfl) rfl rfl (hP _ _ ⟨sc233, hIc233, hFc233, y233_2, rfl, rfl, in_w (-1) 31 j233_2 rfl, n316, n316a⟩)
      · skip
        have i238 := r_lt1 0 31 c238 j233_3 ro_109_20 rfl
        have i238a := r_lt2 1 32 c238 j233_3 ro_109_20 rfl
        refine g_aload_n 242 (gd rfl) rfl rfl (g_iload_n 243 (gd rfl) rfl rfl (g_callv (X := _) (As := [.int y233_3]) (r := []) (b := A 109) (q := 109) 246 (gd rfl) rfl rfl rfl rfl rfl (ww_o rfl) (Nat.le_of_ble_eq_true rfl) (Nat.zero_le _) (Nat.zero_le _) (k_359 (by omega) hIc233 (in_w 0 31 i238 rfl)) (fun e u h => h) (fun v u h => ?_)))
        obtain ⟨z243, rfl, rfl, i243, p243⟩ := h
        show GG _ _ _ _ _ _ _ _ [.int z243] _ _ _
        refine g_if_ne 249 275 (gd rfl) rfl rfl (fun c246 => ?_) (fun c246 => ?_)
        · skip
          have i246 := z_ne 1 1 c246 i243 rfl
          refine g_iconst 0 276 (gd rfl) rfl rfl (g_istore 278 (gd rfl) rfl (Nat.le_of_ble_eq_true rfl) (g_iload 280 (gd rfl) rfl rfl (g_if_eq 283 307 (gd rfl) rfl rfl (fun c280 => ?_) (fun c280 => ?_))))
          · skip
            refine g_iload_n 308 (gd rfl) rfl rfl (g_istore_n 309 (gd rfl) rfl (Nat.le_of_ble_eq_true rfl) (g_iinc 312 (gd rfl) rfl rfl (Nat.le_of_ble_eq_true rfl) (fun z309 e309 => have i309 := in_add 1 32 e309 i238 (in_c 1 rfl) rfl rfl; g_goto 233 (gd rfl) rfl ?_)))
            have n233 : CIP s sc233 := by first | exact g55_0 | exact g233_0
            have n233a : CLP s sc233 1024 := by first | exact g233_1 | exact g55_1 c56
            have n233b : (y233_2).toInt < 0 ∨ (In (y233_2) 0 31 ∧ (y233_2).toInt < nnq s ∧ ¬ FSQ s (y233_2).toNatClampNeg ∧ (s.1 151 (y233_2).toNatClampNeg).toInt < 0 ∧ (sc233.2.1 149 (y233_2).toNatClampNeg).toInt < 9000000000000000) := by first | exact g233_2 | exact Or.inl (by decide) | exact Or.inr ⟨i238, by unfold nnq; rw [← e_109_20]; exact (have a0 := in_u i238a; have a1 := in_u i238; have a2 := in_u j233_2; have a3 := in_u j233_1; have a4 := in_u ((in_c 0 rfl)); have a5 := in_u i309; have a6 := t_add e309 i238 (in_c 1 rfl) rfl; have a7 := in_u ((in_c 1 rfl)); by omega), fun h => absurd (p243.mpr ((fs_cg (hFc233.1 111 rfl) (hFc233.2.2.1 109 18 rfl)).mpr h)) (by have h2 := c246; omega), by rw [← hFc233.1 151 rfl, ← e254]; exact c255, by rw [← e263]; have h := i268a.2; omega⟩
            exact gg_w (by omega) (gg_f (gf_cons rfl (gf_cons rfl (gf_cons rfl (gf_cons rfl gf_nil)))) (ih233 sc233 y233_1 y233_2 z309 hIc233 hFc233 (in_w 0 0 j233_1 rfl) (in_w (-1) 31 j233_2 rfl) (in_w 0 32 i309 rfl) n233 n233a n233b (m_up mm233 (t_add e309 i238 (in_c 1 rfl) rfl) (in_w 1 1 (in_c 1 rfl) rfl))))
          · skip
            exact zn_ne c280 (in_c 0 rfl) rfl
        · skip
          have i246 := z_eq 0 0 c246 i243 rfl
          refine g_aload_n 250 (gd rfl) rfl rfl (g_getA (q2 := 151) 253 (gd rfl) rfl rfl rfl rfl (g_iload_n 254 (gd rfl) rfl rfl (g_iaload 255 (gd rfl) rfl (n := 32) rfl (in_ix i238 rfl) (fun z254 e254 => have i254 := inv_I hIc233 (n := 32) (t := 0) (-1) 31 rfl (in_ix i238 rfl) rfl e254; g_if_ge 258 275 (gd rfl) rfl rfl (fun c255 => ?_) (fun c255 => ?_)))))
          · skip
            have i255 := z_ge 0 31 c255 i254 rfl
            refine g_iconst 0 276 (gd rfl) rfl rfl (g_istore 278 (gd rfl) rfl (Nat.le_of_ble_eq_true rfl) (g_iload 280 (gd rfl) rfl rfl (g_if_eq 283 307 (gd rfl) rfl rfl (fun c280 => ?_) (fun c280 => ?_))))
            · skip
              refine g_iload_n 308 (gd rfl) rfl rfl (g_istore_n 309 (gd rfl) rfl (Nat.le_of_ble_eq_true rfl) (g_iinc 312 (gd rfl) rfl rfl (Nat.le_of_ble_eq_true rfl) (fun z309 e309 => have i309 := in_add 1 32 e309 i238 (in_c 1 rfl) rfl rfl; g_goto 233 (gd rfl) rfl ?_)))
              have n233 : CIP s sc233 := by first | exact g55_0 | exact g233_0
              have n233a : CLP s sc233 1024 := by first | exact g233_1 | exact g55_1 c56
              have n233b : (y233_2).toInt < 0 ∨ (In (y233_2) 0 31 ∧ (y233_2).toInt < nnq s ∧ ¬ FSQ s (y233_2).toNatClampNeg ∧ (s.1 151 (y233_2).toNatClampNeg).toInt < 0 ∧ (sc233.2.1 149 (y233_2).toNatClampNeg).toInt < 9000000000000000) := by first | exact g233_2 | exact Or.inl (by decide) | exact Or.inr ⟨i238, by unfold nnq; rw [← e_109_20]; exact (have a0 := in_u i238a; have a1 := in_u i238; have a2 := in_u j233_2; have a3 := in_u j233_1; have a4 := in_u ((in_c 0 rfl)); have a5 := in_u i309; have a6 := t_add e309 i238 (in_c 1 rfl) rfl; have a7 := in_u ((in_c 1 rfl)); by omega), fun h => absurd (p243.mpr ((fs_cg (hFc233.1 111 rfl) (hFc233.2.2.1 109 18 rfl)).mpr h)) (by have h2 := c246; omega), by rw [← hFc233.1 151 rfl, ← e254]; exact c255, by rw [← e263]; have h := i268a.2; omega⟩
              exact gg_w (by omega) (gg_f (gf_cons rfl (gf_cons rfl (gf_cons rfl (gf_cons rfl gf_nil)))) (ih233 sc233 y233_1 y233_2 z309 hIc233 hFc233 (in_w 0 0 j233_1 rfl) (in_w (-1) 31 j233_2 rfl) (in_w 0 32 i309 rfl) n233 n233a n233b (m_up mm233 (t_add e309 i238 (in_c 1 rfl) rfl) (in_w 1 1 (in_c 1 rfl) rfl))))
            · skip
              exact zn_ne c280 (in_c 0 rfl) rfl
          · skip
            have i255 := z_lt (-1) (-1) c255 i254 rfl
            refine g_aload_n 259 (gd rfl) rfl rfl (g_getA (q2 := 149) 262 (gd rfl) rfl rfl rfl rfl (g_iload_n 263 (gd rfl) rfl rfl (g_laload 264 (gd rfl) rfl (n := 34) rfl (in_ix i238 rfl) (fun z263 e263 => g_ldc2_w 9000000000000000 267 (gd rfl) rfl rfl (g_lcmp 268 (gd rfl) rfl (fun z267 e267 => have i267 := lc_in e267; g_if_ge 271 275 (gd rfl) rfl rfl (fun c268 => ?_) (fun c268 => ?_)))))))
            · skip
              have i268 := z_ge 0 1 c268 i267 rfl
              have c268a := lc_ge e267 c268
              have i268a := lr_le2 9000000000000000 9223372036854775807 c268a (l_c 9000000000000000 rfl) (l_rng z263) rfl
              refine g_iconst 0 276 (gd rfl) rfl rfl (g_istore 278 (gd rfl) rfl (Nat.le_of_ble_eq_true rfl) (g_iload 280 (gd rfl) rfl rfl (g_if_eq 283 307 (gd rfl) rfl rfl (fun c280 => ?_) (fun c280 => ?_))))
              · skip
                refine g_iload_n 308 (gd rfl) rfl rfl (g_istore_n 309 (gd rfl) rfl (Nat.le_of_ble_eq_true rfl) (g_iinc 312 (gd rfl) rfl rfl (Nat.le_of_ble_eq_true rfl) (fun z309 e309 => have i309 := in_add 1 32 e309 i238 (in_c 1 rfl) rfl rfl; g_goto 233 (gd rfl) rfl ?_)))
                have n233 : CIP s sc233 := by first | exact g55_0 | exact g233_0
                have n233a : CLP s sc233 1024 := by first | exact g233_1 | exact g55_1 c56
                have n233b : (y233_2).toInt < 0 ∨ (In (y233_2) 0 31 ∧ (y233_2).toInt < nnq s ∧ ¬ FSQ s (y233_2).toNatClampNeg ∧ (s.1 151 (y233_2).toNatClampNeg).toInt < 0 ∧ (sc233.2.1 149 (y233_2).toNatClampNeg).toInt < 9000000000000000) := by first | exact g233_2 | exact Or.inl (by decide) | exact Or.inr ⟨i238, by unfold nnq; rw [← e_109_20]; exact (have a0 := in_u i238a; have a1 := in_u i238; have a2 := in_u j233_2; have a3 := in_u j233_1; have a4 := in_u ((in_c 0 rfl)); have a5 := in_u i309; have a6 := t_add e309 i238 (in_c 1 rfl) rfl; have a7 := in_u ((in_c 1 rfl)); by omega), fun h => absurd (p243.mpr ((fs_cg (hFc233.1 111 rfl) (hFc233.2.2.1 109 18 rfl)).mpr h)) (by have h2 := c246; omega), by rw [← hFc233.1 151 rfl, ← e254]; exact c255, by rw [← e263]; have h := i268a.2; omega⟩
                exact gg_w (by omega) (gg_f (gf_cons rfl (gf_cons rfl (gf_cons rfl (gf_cons rfl gf_nil)))) (ih233 sc233 y233_1 y233_2 z309 hIc233 hFc233 (in_w 0 0 j233_1 rfl) (in_w (-1) 31 j233_2 rfl) (in_w 0 32 i309 rfl) n233 n233a n233b (m_up mm233 (t_add e309 i238 (in_c 1 rfl) rfl) (in_w 1 1 (in_c 1 rfl) rfl))))
              · skip
                exact zn_ne c280 (in_c 0 rfl) rfl
            · skip
              have i268 := z_lt (-1) (-1) c268 i267 rfl
              have c268a := lc_lt e267 c268
              have i268a := lr_lt1 (-9223372036854775808) 8999999999999999 c268a (l_rng z263) (l_c 9000000000000000 rfl) rfl
              refine g_iconst 1 272 (gd rfl) rfl rfl (g_goto 276 (gd rfl) rfl (g_istore 278 (gd rfl) rfl (Nat.le_of_ble_eq_true rfl) (g_iload 280 (gd rfl) rfl rfl (g_if_eq 283 307 (gd rfl) rfl rfl (fun c280 => ?_) (fun c280 => ?_)))))
              · skip
                exact zn_eq c280 (in_c 1 rfl) rfl
              · skip
                refine g_iload_n 284 (gd rfl) rfl rfl (g_if_lt 287 303 (gd rfl) rfl rfl (fun c284 => ?_) (fun c284 => ?_))
                · skip
                  have i284 := z_lt (-1) (-1) c284 j233_2 rfl
                  refine g_iload_n 304 (gd rfl) rfl rfl (g_goto 308 (gd rfl) rfl (g_istore_n 309 (gd rfl) rfl (Nat.le_of_ble_eq_true rfl) (g_iinc 312 (gd rfl) rfl rfl (Nat.le_of_ble_eq_true rfl) (fun z309 e309 => have i309 := in_add 1 32 e309 i238 (in_c 1 rfl) rfl rfl; g_goto 233 (gd rfl) rfl ?_))))
                  have n233 : CIP s sc233 := by first | exact g55_0 | exact g233_0
                  have n233a : CLP s sc233 1024 := by first | exact g233_1 | exact g55_1 c56
                  have n233b : (y233_3).toInt < 0 ∨ (In (y233_3) 0 31 ∧ (y233_3).toInt < nnq s ∧ ¬ FSQ s (y233_3).toNatClampNeg ∧ (s.1 151 (y233_3).toNatClampNeg).toInt < 0 ∧ (sc233.2.1 149 (y233_3).toNatClampNeg).toInt < 9000000000000000) := by first | exact g233_2 | exact Or.inl (by decide) | exact Or.inr ⟨i238, by unfold nnq; rw [← e_109_20]; exact (have a0 := in_u i238a; have a1 := in_u i238; have a2 := in_u i284; have a3 := in_u j233_1; have a4 := in_u ((in_c 1 rfl)); have a5 := in_u i309; have a6 := t_add e309 i238 (in_c 1 rfl) rfl; by omega), fun h => absurd (p243.mpr ((fs_cg (hFc233.1 111 rfl) (hFc233.2.2.1 109 18 rfl)).mpr h)) (by have h2 := c246; omega), by rw [← hFc233.1 151 rfl, ← e254]; exact c255, by rw [← e263]; have h := i268a.2; omega⟩
                  exact gg_w (by omega) (gg_f (gf_cons rfl (gf_cons rfl (gf_cons rfl (gf_cons rfl gf_nil)))) (ih233 sc233 y233_1 y233_3 z309 hIc233 hFc233 (in_w 0 0 j233_1 rfl) (in_w (-1) 31 i238 rfl) (in_w 0 32 i309 rfl) n233 n233a n233b (m_up mm233 (t_add e309 i238 (in_c 1 rfl) rfl) (in_w 1 1 (in_c 1 rfl) rfl))))
                · skip
                  have i284 := z_ge 0 31 c284 j233_2 rfl
                  refine g_aload_n 288 (gd rfl) rfl rfl (g_getA (q2 := 149) 291 (gd rfl) rfl rfl rfl rfl (g_iload_n 292 (gd rfl) rfl rfl (g_laload 293 (gd rfl) rfl (n := 34) rfl (in_ix i238 rfl) (fun z292 e292 => g_aload_n 294 (gd rfl) rfl rfl (g_getA (q2 := 149) 297 (gd rfl) rfl rfl rfl rfl (g_iload_n 298 (gd rfl) rfl rfl (g_laload 299 (gd rfl) rfl (n := 34) rfl (in_ix i284 rfl) (fun z298 e298 => g_lcmp 300 (gd rfl) rfl (fun z299 e299 => have i299 := lc_in e299; g_if_ge 303 307 (gd rfl) rfl rfl (fun c300 => ?_) (fun c300 => ?_))))))))))
                  · skip
                    have i300 := z_ge 0 1 c300 i299 rfl
                    have c300a := lc_ge e299 c300
                    refine g_iload_n 308 (gd rfl) rfl rfl (g_istore_n 309 (gd rfl) rfl (Nat.le_of_ble_eq_true rfl) (g_iinc 312 (gd rfl) rfl rfl (Nat.le_of_ble_eq_true rfl) (fun z309 e309 => have i309 := in_add 1 32 e309 i238 (in_c 1 rfl) rfl rfl; g_goto 233 (gd rfl) rfl ?_)))
                    have n233 : CIP s sc233 := by first | exact g55_0 | exact g233_0
                    have n233a : CLP s sc233 1024 := by first | exact g233_1 | exact g55_1 c56
                    have n233b : (y233_2).toInt < 0 ∨ (In (y233_2) 0 31 ∧ (y233_2).toInt < nnq s ∧ ¬ FSQ s (y233_2).toNatClampNeg ∧ (s.1 151 (y233_2).toNatClampNeg).toInt < 0 ∧ (sc233.2.1 149 (y233_2).toNatClampNeg).toInt < 9000000000000000) := by first | exact g233_2 | exact Or.inl (by decide) | exact Or.inr ⟨i238, by unfold nnq; rw [← e_109_20]; exact (have a0 := in_u i238a; have a1 := in_u i238; have a2 := in_u i284; have a3 := in_u j233_1; have a4 := in_u ((in_c 1 rfl)); have a5 := in_u i309; have a6 := t_add e309 i238 (in_c 1 rfl) rfl; by omega), fun h => absurd (p243.mpr ((fs_cg (hFc233.1 111 rfl) (hFc233.2.2.1 109 18 rfl)).mpr h)) (by have h2 := c246; omega), by rw [← hFc233.1 151 rfl, ← e254]; exact c255, by rw [← e263]; have h := i268a.2; omega⟩
                    exact gg_w (by omega) (gg_f (gf_cons rfl (gf_cons rfl (gf_cons rfl (gf_cons rfl gf_nil)))) (ih233 sc233 y233_1 y233_2 z309 hIc233 hFc233 (in_w 0 0 j233_1 rfl) (in_w (-1) 31 i284 rfl) (in_w 0 32 i309 rfl) n233 n233a n233b (m_up mm233 (t_add e309 i238 (in_c 1 rfl) rfl) (in_w 1 1 (in_c 1 rfl) rfl))))
                  · skip
                    have i300 := z_lt (-1) (-1) c300 i299 rfl
                    have c300a := lc_lt e299 c300
                    have i300a := lr_lt1 (-9223372036854775808) 9223372036854775806 c300a (l_rng z292) (l_rng z298) rfl
                    have i300b := lr_lt2 (-9223372036854775807) 9223372036854775807 c300a (l_rng z292) (l_rng z298) rfl
                    refine g_iload_n 304 (gd rfl) rfl rfl (g_goto 308 (gd rfl) rfl (g_istore_n 309 (gd rfl) rfl (Nat.le_of_ble_eq_true rfl) (g_iinc 312 (gd rfl) rfl rfl (Nat.le_of_ble_eq_true rfl) (fun z309 e309 => have i309 := in_add 1 32 e309 i238 (in_c 1 rfl) rfl rfl; g_goto 233 (gd rfl) rfl ?_))))
                    have n233 : CIP s sc233 := by first | exact g55_0 | exact g233_0
                    have n233a : CLP s sc233 1024 := by first | exact g233_1 | exact g55_1 c56
                    have n233b : (y233_3).toInt < 0 ∨ (In (y233_3) 0 31 ∧ (y233_3).toInt < nnq s ∧ ¬ FSQ s (y233_3).toNatClampNeg ∧ (s.1 151 (y233_3).toNatClampNeg).toInt < 0 ∧ (sc233.2.1 149 (y233_3).toNatClampNeg).toInt < 9000000000000000) := by first | exact g233_2 | exact Or.inl (by decide) | exact Or.inr ⟨i238, by unfold nnq; rw [← e_109_20]; exact (have a0 := in_u i238a; have a1 := in_u i238; have a2 := in_u i284; have a3 := in_u j233_1; have a4 := in_u ((in_c 1 rfl)); have a5 := in_u i309; have a6 := t_add e309 i238 (in_c 1 rfl) rfl; by omega), fun h => absurd (p243.mpr ((fs_cg (hFc233.1 111 rfl) (hFc233.2.2.1 109 18 rfl)).mpr h)) (by have h2 := c246; omega), by rw [← hFc233.1 151 rfl, ← e254]; exact c255, by rw [← e263]; have h := i268a.2; omega⟩
                    exact gg_w (by omega) (gg_f (gf_cons rfl (gf_cons rfl (gf_cons rfl (gf_cons rfl gf_nil)))) (ih233 sc233 y233_1 y233_3 z309 hIc233 hFc233 (in_w 0 0 j233_1 rfl) (in_w (-1) 31 i238 rfl) (in_w 0 32 i309 rfl) n233 n233a n233b (m_up mm233 (t_add e309 i238 (in_c 1 rfl) rfl) (in_w 1 1 (in_c 1 rfl) rfl))))
  have ct55 : ∀ (k55 : Nat) (sc55 : GS) (y55_1 : Int32), Inv sc55 → Fr fm_361 s sc55 → (In y55_1 0 1) → (CIP s sc55) → ((y55_1).toInt = 0 → CLP s sc55 1024) → 2 * mqp s sc55 + (y55_1).toInt.toNat < k55 → GG Z (d - 1) 361 post (gx xp) (29702 + k55 * 925201) 55 (fun j => xlook j [(0, .ref (A 109)), (1, .int y55_1)]) [] (WW Z A sc55 ++ ex) 0 0 := by
    intro k55
    induction k55 with
    | zero => intro sc55 y55_1 hIc55 hFc55 j55_1 g55_0 g55_1 mm55; exact absurd mm55 (Nat.not_lt_zero _)
    | succ k55 ih55 =>
      intro sc55 y55_1 hIc55 hFc55 j55_1 g55_0 g55_1 mm55
      refine gg_w (M := 29702 + k55 * 925201 + 925201) (by omega) ?_
      have ct63 : ∀ (k63 : Nat) (sc63 : GS) (y63_1 : Int32) (y63_2 : Int32), Inv sc63 → Fr fm_361 s sc63 → (In y63_1 0 1) → (In y63_2 0 1024) → (WKP s (mqp s sc55) sc63 (y63_1).toInt (y63_2).toNatClampNeg) → (y55_1.toInt = 1) → 1024 - (y63_2).toInt < (k63 : Int) → GG Z (d - 1) 361 post (gx xp) (29702 + k55 * 925201 + 1 + k63 * 900) 63 (fun j => xlook j [(0, .ref (A 109)), (1, .int y63_1), (2, .int y63_2)]) [] (WW Z A sc63 ++ ex) 0 0 := by
        intro k63
        induction k63 with
        | zero => intro sc63 y63_1 y63_2 hIc63 hFc63 j63_1 j63_2 g63_0 g63_1 mm63; exact m_no mm63 j63_2 rfl
        | succ k63 ih63 =>
          intro sc63 y63_1 y63_2 hIc63 hFc63 j63_1 j63_2 g63_0 g63_1 mm63
          refine gg_w (M := 29702 + k55 * 925201 + 1 + k63 * 900 + 900) (by omega) (g_iload_n 64 (gd rfl) rfl rfl (g_sipush 1024 67 (gd rfl) rfl rfl (g_cmp_ge 70 226 (gd rfl) rfl rfl (fun c67 => ?_) (fun c67 => ?_))))
          · skip
            have i67 := r_le2 1024 1024 c67 (in_c 1024 rfl) j63_2 rfl
            refine g_goto 55 (gd rfl) rfl ?_
            have n55 : CIP s sc63 := by first | exact g63_0.1 | exact cip_0 q_0 (hFc2.2.2.1 109 20 rfl) (fun k hk => g2_0 k (by unfold nnq at hk; rw [← e_109_20] at hk; exact (have a0 := in_u ro_109_20; have a1 := in_u i67; have a2 := in_u j63_1; by omega)))
            have n55a : (y63_1).toInt = 0 → CLP s sc63 1024 := by first | (intro hz; exfalso; have h0 : (Int32.ofInt 1).toInt = 1 := rfl; omega) | (intro hz; have hc := g63_0.2.2.2 hz; rw [show y63_2.toNatClampNeg = 1024 from (by show y63_2.toInt.toNat = 1024; exact (have a0 := in_u ro_109_20; have a1 := in_u i67; have a2 := in_u j63_1; by omega))] at hc; exact hc)
            have m55 : 2 * mqp s sc63 + (y63_1).toInt.toNat < k55 := by have hm := mm55; have hj := g63_1; have hm1 := g63_0.2.1; have hm2 := g63_0.2.2.1; by_cases hz : y63_1.toInt = 0; (exact (have a0 := in_u ro_109_20; have a1 := in_u i67; have a2 := in_u j63_1; by omega)); (have hm3 := hm2 hz; have hjj := j63_1; unfold In at hjj; exact (have a0 := in_u ro_109_20; have a1 := in_u i67; have a2 := in_u j63_1; by omega))
            exact gg_w (by omega) (gg_f (gf_cons rfl (gf_cons rfl gf_nil)) (ih55  sc63 y63_1 hIc63 hFc63 (in_w 0 1 j63_1 rfl) n55 n55a m55))
          · skip
            have i67 := r_lt1 0 1023 c67 j63_2 (in_c 1024 rfl) rfl
            refine g_iload_n 71 (gd rfl) rfl rfl (g_bipush 32 73 (gd rfl) rfl rfl (g_idiv 74 (gd rfl) rfl (by decide) (fun z73 e73 => have i73 := in_div 0 31 e73 i67 rfl rfl; g_istore_n 75 (gd rfl) rfl (Nat.le_of_ble_eq_true rfl) (g_iload_n 76 (gd rfl) rfl rfl (g_bipush 32 78 (gd rfl) rfl rfl (g_irem 79 (gd rfl) rfl (by decide) (fun z78 e78 => have i78 := in_rem 31 e78 i67 rfl rfl; g_istore 81 (gd rfl) rfl (Nat.le_of_ble_eq_true rfl) (g_aload_n 82 (gd rfl) rfl rfl (g_getA (q2 := 152) 85 (gd rfl) rfl rfl rfl rfl (g_iload_n 86 (gd rfl) rfl rfl (g_laload 87 (gd rfl) rfl (n := 1024) rfl (in_ix i67 rfl) (fun z86 e86 => g_ldc2_w 9000000000000000 90 (gd rfl) rfl rfl (g_lcmp 91 (gd rfl) rfl (fun z90 e90 => have i90 := lc_in e90; g_if_ge 94 220 (gd rfl) rfl rfl (fun c91 => ?_) (fun c91 => ?_)))))))))))))))
            · skip
              have i91 := z_ge 0 1 c91 i90 rfl
              have c91a := lc_ge e90 c91
              have i91a := lr_le2 9000000000000000 9223372036854775807 c91a (l_c 9000000000000000 rfl) (l_rng z86) rfl
              refine g_iinc 223 (gd rfl) rfl rfl (Nat.le_of_ble_eq_true rfl) (fun z220 e220 => have i220 := in_add 1 1024 e220 i67 (in_c 1 rfl) rfl rfl; g_goto 63 (gd rfl) rfl ?_)
              have n63 : WKP s (mqp s sc55) sc63 (y63_1).toInt (z220).toNatClampNeg := by rw [show (z220).toNatClampNeg = y63_2.toNatClampNeg + 1 from (by show z220.toInt.toNat = y63_2.toInt.toNat + 1; exact (have a0 := in_u ro_109_20; have a1 := in_u i67; have a2 := in_u j63_1; have a3 := in_u i78; have a4 := in_u i73; have a5 := t_div e73 i67 rfl; have a6 := in_u i220; have a7 := t_add e220 i67 (in_c 1 rfl) rfl; have a8 := in_u ((in_c 1 rfl)); by omega))]; exact wkp_s g63_0 i73 i78 (kp32 i67 e73 e78) (fun h1 _ _ => by exfalso; rw [← hFc63.2.1 152 rfl, ← e86] at h1; have h := i91a.1; omega)
              have n63a : y55_1.toInt = 1 := by first | exact g63_1 | (have hj := j55_1; unfold In at hj; have hc := c56; omega)
              exact gg_w (by omega) (gg_f (gf_cons rfl (gf_cons rfl (gf_cons rfl gf_nil))) (ih63 sc63 y63_1 z220 hIc63 hFc63 (in_w 0 1 j63_1 rfl) (in_w 0 1024 i220 rfl) n63 n63a (m_up mm63 (t_add e220 i67 (in_c 1 rfl) rfl) (in_w 1 1 (in_c 1 rfl) rfl))))
            · skip
              have i91 := z_lt (-1) (-1) c91 i90 rfl
              have c91a := lc_lt e90 c91
              have i91a := lr_lt1 (-9223372036854775808) 8999999999999999 c91a (l_rng z86) (l_c 9000000000000000 rfl) rfl
              refine g_aload_n 95 (gd rfl) rfl rfl (g_getA (q2 := 149) 98 (gd rfl) rfl rfl rfl rfl (g_iload_n 99 (gd rfl) rfl rfl (g_laload 100 (gd rfl) rfl (n := 34) rfl (in_ix i73 rfl) (fun z99 e99 => g_ldc2_w 9000000000000000 103 (gd rfl) rfl rfl (g_lcmp 104 (gd rfl) rfl (fun z103 e103 => have i103 := lc_in e103; g_if_ge 107 220 (gd rfl) rfl rfl (fun c104 => ?_) (fun c104 => ?_)))))))
              · skip
                have i104 := z_ge 0 1 c104 i103 rfl
                have c104a := lc_ge e103 c104
                have i104a := lr_le2 9000000000000000 9223372036854775807 c104a (l_c 9000000000000000 rfl) (l_rng z99) rfl
                refine g_iinc 223 (gd rfl) rfl rfl (Nat.le_of_ble_eq_true rfl) (fun z220 e220 => have i220 := in_add 1 1024 e220 i67 (in_c 1 rfl) rfl rfl; g_goto 63 (gd rfl) rfl ?_)
                have n63 : WKP s (mqp s sc55) sc63 (y63_1).toInt (z220).toNatClampNeg := by rw [show (z220).toNatClampNeg = y63_2.toNatClampNeg + 1 from (by show z220.toInt.toNat = y63_2.toInt.toNat + 1; exact (have a0 := in_u ro_109_20; have a1 := in_u i67; have a2 := in_u j63_1; have a3 := in_u i78; have a4 := in_u i73; have a5 := t_div e73 i67 rfl; have a6 := in_u i220; have a7 := t_add e220 i67 (in_c 1 rfl) rfl; have a8 := in_u ((in_c 1 rfl)); by omega))]; exact wkp_s g63_0 i73 i78 (kp32 i67 e73 e78) (fun _ h2 _ => by exfalso; rw [← e99] at h2; have h := i104a.1; omega)
                have n63a : y55_1.toInt = 1 := by first | exact g63_1 | (have hj := j55_1; unfold In at hj; have hc := c56; omega)
                exact gg_w (by omega) (gg_f (gf_cons rfl (gf_cons rfl (gf_cons rfl gf_nil))) (ih63 sc63 y63_1 z220 hIc63 hFc63 (in_w 0 1 j63_1 rfl) (in_w 0 1024 i220 rfl) n63 n63a (m_up mm63 (t_add e220 i67 (in_c 1 rfl) rfl) (in_w 1 1 (in_c 1 rfl) rfl))))
              · skip
                have i104 := z_lt (-1) (-1) c104 i103 rfl
                have c104a := lc_lt e103 c104
                have i104a := lr_lt1 (-9223372036854775808) 8999999999999999 c104a (l_rng z99) (l_c 9000000000000000 rfl) rfl
                refine g_aload_n 108 (gd rfl) rfl rfl (g_getA (q2 := 151) 111 (gd rfl) rfl rfl rfl rfl (g_iload_n 112 (gd rfl) rfl rfl (g_iaload 113 (gd rfl) rfl (n := 32) rfl (in_ix i73 rfl) (fun z112 e112 => have i112 := inv_I hIc63 (n := 32) (t := 0) (-1) 31 rfl (in_ix i73 rfl) rfl e112; g_iload 115 (gd rfl) rfl rfl (g_cmp_eq 118 220 (gd rfl) rfl rfl (fun c115 => ?_) (fun c115 => ?_))))))
                · skip
                  have i115 := r_eq1 0 31 c115 i112 i78 rfl
                  refine g_iinc 223 (gd rfl) rfl rfl (Nat.le_of_ble_eq_true rfl) (fun z220 e220 => have i220 := in_add 1 1024 e220 i67 (in_c 1 rfl) rfl rfl; g_goto 63 (gd rfl) rfl ?_)
                  have n63 : WKP s (mqp s sc55) sc63 (y63_1).toInt (z220).toNatClampNeg := by rw [show (z220).toNatClampNeg = y63_2.toNatClampNeg + 1 from (by show z220.toInt.toNat = y63_2.toInt.toNat + 1; exact (have a0 := in_u ro_109_20; have a1 := in_u i67; have a2 := in_u j63_1; have a3 := in_u i78; have a4 := in_u i73; have a5 := t_div e73 i67 rfl; have a6 := in_u i220; have a7 := t_add e220 i67 (in_c 1 rfl) rfl; have a8 := in_u ((in_c 1 rfl)); by omega))]; exact wkp_s g63_0 i73 i78 (kp32 i67 e73 e78) (fun _ _ h3 => absurd (by rw [← hFc63.1 151 rfl, ← e112]; exact c115) h3)
                  have n63a : y55_1.toInt = 1 := by first | exact g63_1 | (have hj := j55_1; unfold In at hj; have hc := c56; omega)
                  exact gg_w (by omega) (gg_f (gf_cons rfl (gf_cons rfl (gf_cons rfl gf_nil))) (ih63 sc63 y63_1 z220 hIc63 hFc63 (in_w 0 1 j63_1 rfl) (in_w 0 1024 i220 rfl) n63 n63a (m_up mm63 (t_add e220 i67 (in_c 1 rfl) rfl) (in_w 1 1 (in_c 1 rfl) rfl))))
                · skip
                  refine g_aload_n 119 (gd rfl) rfl rfl (g_getA (q2 := 149) 122 (gd rfl) rfl rfl rfl rfl (g_iload_n 123 (gd rfl) rfl rfl (g_laload 124 (gd rfl) rfl (n := 34) rfl (in_ix i73 rfl) (fun z123 e123 => g_aload_n 125 (gd rfl) rfl rfl (g_getA (q2 := 152) 128 (gd rfl) rfl rfl rfl rfl (g_iload_n 129 (gd rfl) rfl rfl (g_laload 130 (gd rfl) rfl (n := 1024) rfl (in_ix i67 rfl) (fun z129 e129 => g_ladd 131 (gd rfl) rfl (fun z130 e130 => g_aload_n 132 (gd rfl) rfl rfl (g_getA (q2 := 149) 135 (gd rfl) rfl rfl rfl rfl (g_iload 137 (gd rfl) rfl rfl (g_laload 138 (gd rfl) rfl (n := 34) rfl (in_ix i78 rfl) (fun z137 e137 => g_lcmp 139 (gd rfl) rfl (fun z138 e138 => have i138 := lc_in e138; g_if_ge 142 220 (gd rfl) rfl rfl (fun c139 => ?_) (fun c139 => ?_)))))))))))))))
                  · skip
                    have i139 := z_ge 0 1 c139 i138 rfl
                    have c139a := lc_ge e138 c139
                    refine g_iinc 223 (gd rfl) rfl rfl (Nat.le_of_ble_eq_true rfl) (fun z220 e220 => have i220 := in_add 1 1024 e220 i67 (in_c 1 rfl) rfl rfl; g_goto 63 (gd rfl) rfl ?_)
                    have n63 : WKP s (mqp s sc55) sc63 (y63_1).toInt (z220).toNatClampNeg := by rw [show (z220).toNatClampNeg = y63_2.toNatClampNeg + 1 from (by show z220.toInt.toNat = y63_2.toInt.toNat + 1; exact (have a0 := in_u ro_109_20; have a1 := in_u i67; have a2 := in_u j63_1; have a3 := in_u i78; have a4 := in_u i73; have a5 := t_div e73 i67 rfl; have a6 := in_u i220; have a7 := t_add e220 i67 (in_c 1 rfl) rfl; have a8 := in_u ((in_c 1 rfl)); by omega))]; exact wkp_s g63_0 i73 i78 (kp32 i67 e73 e78) (fun _ _ _ => cip_add q_0 (hFc63.2.2.1 109 20 rfl) g63_0.1 i73 i78 (kp32 i67 e73 e78) (by rw [← hFc63.2.1 152 rfl]; exact e129) (by rw [e129, ← e86]; have h := i91a.2; omega) e123 (by rw [e123, ← e99]; have h := i104a.2; omega) e130 e137 c139a)
                    have n63a : y55_1.toInt = 1 := by first | exact g63_1 | (have hj := j55_1; unfold In at hj; have hc := c56; omega)
                    exact gg_w (by omega) (gg_f (gf_cons rfl (gf_cons rfl (gf_cons rfl gf_nil))) (ih63 sc63 y63_1 z220 hIc63 hFc63 (in_w 0 1 j63_1 rfl) (in_w 0 1024 i220 rfl) n63 n63a (m_up mm63 (t_add e220 i67 (in_c 1 rfl) rfl) (in_w 1 1 (in_c 1 rfl) rfl))))
                  · skip
                    have i139 := z_lt (-1) (-1) c139 i138 rfl
                    have c139a := lc_lt e138 c139
                    have i139a := lr_lt1 (-9223372036854775808) 9223372036854775806 c139a (l_rng z130) (l_rng z137) rfl
                    have i139b := lr_lt2 (-9223372036854775807) 9223372036854775807 c139a (l_rng z130) (l_rng z137) rfl
                    refine g_aload_n 143 (gd rfl) rfl rfl (g_getA (q2 := 149) 146 (gd rfl) rfl rfl rfl rfl (g_iload 148 (gd rfl) rfl rfl (g_aload_n 149 (gd rfl) rfl rfl (g_getA (q2 := 149) 152 (gd rfl) rfl rfl rfl rfl (g_iload_n 153 (gd rfl) rfl rfl (g_laload 154 (gd rfl) rfl (n := 34) rfl (in_ix i73 rfl) (fun z153 e153 => g_aload_n 155 (gd rfl) rfl rfl (g_getA (q2 := 152) 158 (gd rfl) rfl rfl rfl rfl (g_iload_n 159 (gd rfl) rfl rfl (g_laload 160 (gd rfl) rfl (n := 1024) rfl (in_ix i67 rfl) (fun z159 e159 => g_ladd 161 (gd rfl) rfl (fun z160 e160 => g_lastore 162 (gd rfl) rfl (n := 34) rfl (in_ix i78 rfl) (have hI161 := inv_sL (q := 149) (j := z78.toNatClampNeg) (x := z160) hIc63 rfl (l_rng z160); g_aload_n 163 (gd rfl) rfl rfl (g_getA (q2 := 148) 166 (gd rfl) rfl rfl rfl rfl (g_iload 168 (gd rfl) rfl rfl (g_iload_n 169 (gd rfl) rfl rfl (g_iastore 170 (gd rfl) rfl (n := 34) rfl (in_ix i78 rfl) (have hI169 := inv_sI (q := 148) (j := z78.toNatClampNeg) hI161 rfl (in_w (-1) 1000 i73 rfl); g_iconst 1 171 (gd rfl) rfl rfl (g_istore_n 172 (gd rfl) rfl (Nat.le_of_ble_eq_true rfl) (g_aload_n 173 (gd rfl) rfl rfl (g_getA (q2 := 151) 176 (gd rfl) rfl rfl rfl rfl (g_iload 178 (gd rfl) rfl rfl (g_iaload 179 (gd rfl) rfl (n := 32) rfl (in_ix i78 rfl) (fun z178 e178 => have i178 := inv_I hI169 (n := 32) (t := 0) (-1) 31 rfl (in_ix i78 rfl) rfl e178; g_if_lt 182 220 (gd rfl) rfl rfl (fun c179 => ?_) (fun c179 => ?_)))))))))))))))))))))))))
                    · skip
                      have i179 := z_lt (-1) (-1) c179 i178 rfl
                      refine g_iinc 223 (gd rfl) rfl rfl (Nat.le_of_ble_eq_true rfl) (fun z220 e220 => have i220 := in_add 1 1024 e220 i67 (in_c 1 rfl) rfl rfl; g_goto 63 (gd rfl) rfl ?_)
                      have n63 : WKP s (mqp s sc55) (sI (sL sc63 149 z78.toNatClampNeg z160) 148 z78.toNatClampNeg z73) ((Int32.ofInt 1)).toInt (z220).toNatClampNeg := by rw [show (z220).toNatClampNeg = y63_2.toNatClampNeg + 1 from (by show z220.toInt.toNat = y63_2.toInt.toNat + 1; exact (have a0 := in_u ro_109_20; have a1 := in_u i67; have a2 := in_u j63_1; have a3 := in_u i78; have a4 := in_u i73; have a5 := t_div e73 i67 rfl; have a6 := in_u i220; have a7 := t_add e220 i67 (in_c 1 rfl) rfl; have a8 := in_u ((in_c 1 rfl)); by omega))]; exact (wkp_ch g63_0 (cip_1 q_0 (hFc63.2.2.1 109 20 rfl) g63_0.1 i73 i78 (kp32 i67 e73 e78) (by rw [← hFc63.2.1 152 rfl]; exact e159) (by rw [e159, ← e86]; have h := i91a.2; omega) e153 (by rw [e153, ← e99]; have h := i104a.2; omega) e160 (by rw [show z160 = z130 from (by rw [e160, e130, e153, e123, e159, e129]), ← e137]; exact c139a) (by rw [← hFc63.1 151 rfl, show sc63.1 151 z78.toNatClampNeg = z178 from (by rw [e178, sI_p rfl]; rfl)]; exact c179)) _)
                      have n63a : y55_1.toInt = 1 := by first | exact g63_1 | (have hj := j55_1; unfold In at hj; have hc := c56; omega)
                      exact gg_w (by omega) (gg_f (gf_cons rfl (gf_cons rfl (gf_cons rfl gf_nil))) (ih63 (sI (sL sc63 149 z78.toNatClampNeg z160) 148 z78.toNatClampNeg z73) (Int32.ofInt 1) z220 hI169 (fr_sI rfl (fr_sL rfl hFc63)) (in_w 0 1 (in_c 1 rfl) rfl) (in_w 0 1024 i220 rfl) n63 n63a (m_up mm63 (t_add e220 i67 (in_c 1 rfl) rfl) (in_w 1 1 (in_c 1 rfl) rfl))))
                    · skip
                      have i179 := z_ge 0 31 c179 i178 rfl
                      refine g_aload_n 183 (gd rfl) rfl rfl (g_getA (q2 := 149) 186 (gd rfl) rfl rfl rfl rfl (g_aload_n 187 (gd rfl) rfl rfl (g_getA (q2 := 151) 190 (gd rfl) rfl rfl rfl rfl (g_iload 192 (gd rfl) rfl rfl (g_ialoadv (y := z178) 193 (gd rfl) rfl (n := 32) rfl (in_ix i78 rfl) (e178) (g_aload_n 194 (gd rfl) rfl rfl (g_getA (q2 := 149) 197 (gd rfl) rfl rfl rfl rfl (g_iload 199 (gd rfl) rfl rfl (g_laload 200 (gd rfl) rfl (n := 34) rfl (in_ix i78 rfl) (fun z199 e199 => g_aload_n 201 (gd rfl) rfl rfl (g_getA (q2 := 152) 204 (gd rfl) rfl rfl rfl rfl (g_bipush 32 206 (gd rfl) rfl rfl (g_aload_n 207 (gd rfl) rfl rfl (g_getA (q2 := 151) 210 (gd rfl) rfl rfl rfl rfl (g_iload 212 (gd rfl) rfl rfl (g_ialoadv (y := z178) 213 (gd rfl) rfl (n := 32) rfl (in_ix i78 rfl) (e178) (g_imul 214 (gd rfl) rfl (fun z213 e213 => have i213 := in_mulc 32 0 992 (Or.inl e213) i179 rfl rfl; g_iload 216 (gd rfl) rfl rfl (g_iadd 217 (gd rfl) rfl (fun z216 e216 => have i216 := in_add 0 1023 e216 i213 i78 rfl rfl; g_laload 218 (gd rfl) rfl (n := 1024) rfl (in_ix i216 rfl) (fun z217 e217 => g_lsub 219 (gd rfl) rfl (fun z218 e218 => g_lastore 220 (gd rfl) rfl (n := 34) rfl (in_ix i179 rfl) (have hI219 := inv_sL (q := 149) (j := z178.toNatClampNeg) (x := z218) hI169 rfl (l_rng z218); g_iinc 223 (gd rfl) rfl rfl (Nat.le_of_ble_eq_true rfl) (fun z220 e220 => have i220 := in_add 1 1024 e220 i67 (in_c 1 rfl) rfl rfl; g_goto 63 (gd rfl) rfl ?_))))))))))))))))))))))))
                      have n63 : WKP s (mqp s sc55) (sL (sI (sL sc63 149 z78.toNatClampNeg z160) 148 z78.toNatClampNeg z73) 149 z178.toNatClampNeg z218) ((Int32.ofInt 1)).toInt (z220).toNatClampNeg := by rw [show (z220).toNatClampNeg = y63_2.toNatClampNeg + 1 from (by show z220.toInt.toNat = y63_2.toInt.toNat + 1; exact (have a0 := in_u ro_109_20; have a1 := in_u i67; have a2 := in_u j63_1; have a3 := in_u i78; have a4 := in_u i73; have a5 := t_div e73 i67 rfl; have a6 := in_u i220; have a7 := t_add e220 i67 (in_c 1 rfl) rfl; have a8 := in_u ((in_c 1 rfl)); have a9 := in_u i216; have a10 := t_add e216 i213 i78 rfl; have a11 := in_u i213; have a12 := (t_mulc 32 (Or.inl e213) i179 rfl).1; have a13 := in_u i179; by omega))]; exact (wkp_ch g63_0 (cip_2 (w2 := z217) q_0 (hFc63.2.2.1 109 20 rfl) g63_0.1 i73 i78 (kp32 i67 e73 e78) (by rw [← hFc63.2.1 152 rfl]; exact e159) (by rw [e159, ← e86]; have h := i91a.2; omega) e153 (by rw [e153, ← e99]; have h := i104a.2; omega) e160 (by rw [show z160 = z130 from (by rw [e160, e130, e153, e123, e159, e129]), ← e137]; exact c139a) (by rw [← hFc63.1 151 rfl, show sc63.1 151 z78.toNatClampNeg = z178 from (by rw [e178, sI_p rfl]; rfl)]; have h := c179; omega) (by rw [← hFc63.1 151 rfl, show sc63.1 151 z78.toNatClampNeg = z178 from (by rw [e178, sI_p rfl]; rfl)]) (by rw [show 32 * z178.toNatClampNeg + z78.toNatClampNeg = z216.toNatClampNeg from (by show 32 * z178.toInt.toNat + z78.toInt.toNat = z216.toInt.toNat; exact (have a0 := in_u ro_109_20; have a1 := in_u i67; have a2 := in_u j63_1; have a3 := in_u i78; have a4 := in_u i73; have a5 := t_div e73 i67 rfl; have a6 := in_u i220; have a7 := t_add e220 i67 (in_c 1 rfl) rfl; have a8 := in_u ((in_c 1 rfl)); have a9 := in_u i216; have a10 := t_add e216 i213 i78 rfl; have a11 := in_u i213; have a12 := (t_mulc 32 (Or.inl e213) i179 rfl).1; have a13 := in_u i179; by omega)), ← hFc63.2.1 152 rfl, e217]; simp [sI, sL]) (by rw [e218, show z199 = z160 from (by rw [e199]; simp [sI, sL, vp_updL])])) _)
                      have n63a : y55_1.toInt = 1 := by first | exact g63_1 | (have hj := j55_1; unfold In at hj; have hc := c56; omega)
                      exact gg_w (by omega) (gg_f (gf_cons rfl (gf_cons rfl (gf_cons rfl gf_nil))) (ih63 (sL (sI (sL sc63 149 z78.toNatClampNeg z160) 148 z78.toNatClampNeg z73) 149 z178.toNatClampNeg z218) (Int32.ofInt 1) z220 hI219 (fr_sL rfl (fr_sI rfl (fr_sL rfl hFc63))) (in_w 0 1 (in_c 1 rfl) rfl) (in_w 0 1024 i220 rfl) n63 n63a (m_up mm63 (t_add e220 i67 (in_c 1 rfl) rfl) (in_w 1 1 (in_c 1 rfl) rfl))))
      refine g_iload_n 56 (gd rfl) rfl rfl (g_if_eq 59 229 (gd rfl) rfl rfl (fun c56 => ?_) (fun c56 => ?_))
      · skip
        have i56 := z_eq 0 0 c56 j55_1 rfl
        refine g_iconst (-1) 230 (gd rfl) rfl rfl (g_istore_n 231 (gd rfl) rfl (Nat.le_of_ble_eq_true rfl) (g_iconst 0 232 (gd rfl) rfl rfl (g_istore_n 233 (gd rfl) rfl (Nat.le_of_ble_eq_true rfl) ?_)))
        have n233 : CIP s sc55 := by first | exact g55_0 | exact g233_0
        have n233a : CLP s sc55 1024 := by first | exact g233_1 | exact g55_1 c56
        have n233b : ((Int32.ofInt (-1))).toInt < 0 ∨ (In ((Int32.ofInt (-1))) 0 31 ∧ ((Int32.ofInt (-1))).toInt < nnq s ∧ ¬ FSQ s ((Int32.ofInt (-1))).toNatClampNeg ∧ (s.1 151 ((Int32.ofInt (-1))).toNatClampNeg).toInt < 0 ∧ (sc55.2.1 149 ((Int32.ofInt (-1))).toNatClampNeg).toInt < 9000000000000000) := by first | exact g233_2 | exact Or.inl (by decide) | exact Or.inr ⟨i238, by unfold nnq; rw [← e_109_20]; exact (have a0 := in_u ro_109_20; have a1 := in_u i56; have a2 := in_u ((in_c 0 rfl)); have a3 := in_u ((in_c (-1) rfl)); by omega), fun h => absurd (p243.mpr ((fs_cg (hFc233.1 111 rfl) (hFc233.2.2.1 109 18 rfl)).mpr h)) (by have h2 := c246; omega), by rw [← hFc233.1 151 rfl, ← e254]; exact c255, by rw [← e263]; have h := i268a.2; omega⟩
        exact gg_w (by omega) (gg_f (gf_cons rfl (gf_cons rfl (gf_cons rfl (gf_cons rfl gf_nil)))) (ct233 33 sc55 y55_1 (Int32.ofInt (-1)) (Int32.ofInt 0) hIc55 hFc55 (in_w 0 0 i56 rfl) (in_w (-1) 31 (in_c (-1) rfl) rfl) (in_w 0 32 (in_c 0 rfl) rfl) n233 n233a n233b (m_in 33 (in_w 0 32 (in_c 0 rfl) rfl) rfl)))
      · skip
        have i56 := z_ne 1 1 c56 j55_1 rfl
        refine g_iconst 0 60 (gd rfl) rfl rfl (g_istore_n 61 (gd rfl) rfl (Nat.le_of_ble_eq_true rfl) (g_iconst 0 62 (gd rfl) rfl rfl (g_istore_n 63 (gd rfl) rfl (Nat.le_of_ble_eq_true rfl) ?_)))
        have n63 : WKP s (mqp s sc55) sc55 ((Int32.ofInt 0)).toInt ((Int32.ofInt 0)).toNatClampNeg := by exact wkp_0 g55_0
        have n63a : y55_1.toInt = 1 := by first | exact g63_1 | (have hj := j55_1; unfold In at hj; have hc := c56; omega)
        exact gg_w (by omega) (gg_f (gf_cons rfl (gf_cons rfl (gf_cons rfl gf_nil))) (ct63 1025 sc55 (Int32.ofInt 0) (Int32.ofInt 0) hIc55 hFc55 (in_w 0 1 (in_c 0 rfl) rfl) (in_w 0 1024 (in_c 0 rfl) rfl) n63 n63a (m_in 1025 (in_w 0 1024 (in_c 0 rfl) rfl) rfl)))
  have ct2 : ∀ (k2 : Nat) (sc2 : GS) (y2_1 : Int32), Inv sc2 → Fr fm_361 s sc2 → (In y2_1 0 32) → (∀ k : Nat, (k : Int) < (y2_1).toInt → (spq s k → (sc2.2.1 149 k).toInt = 0) ∧ (¬ spq s k → (sc2.2.1 149 k).toInt = 9000000000000000)) → 32 - (y2_1).toInt < (k2 : Int) → GG Z (d - 1) 361 post (gx xp) (5921286401880105 + k2 * 900) 2 (fun j => xlook j [(0, .ref (A 109)), (1, .int y2_1)]) [] (WW Z A sc2 ++ ex) 0 0 := by
    intro k2
    induction k2 with
    | zero => intro sc2 y2_1 hIc2 hFc2 j2_1 g2_0 mm2; exact m_no mm2 j2_1 rfl
    | succ k2 ih2 =>
      intro sc2 y2_1 hIc2 hFc2 j2_1 g2_0 mm2
      refine gg_w (M := 5921286401880105 + k2 * 900 + 900) (by omega) (g_iload_n 3 (gd rfl) rfl rfl (g_aload_n 4 (gd rfl) rfl rfl (g_getIv (y := u_109_20) 7 (gd rfl) rfl rfl rfl (fr_F e_109_20 hFc2 rfl) (g_cmp_ge 10 53 (gd rfl) rfl rfl (fun c7 => ?_) (fun c7 => ?_)))))
      · skip
        refine g_iconst 1 54 (gd rfl) rfl rfl (g_istore_n 55 (gd rfl) rfl (Nat.le_of_ble_eq_true rfl) ?_)
        have n55 : CIP s sc2 := by first | exact g63_0.1 | exact cip_0 q_0 (hFc2.2.2.1 109 20 rfl) (fun k hk => g2_0 k (by unfold nnq at hk; rw [← e_109_20] at hk; exact (have a0 := in_u ro_109_20; have a1 := in_u j2_1; have a2 := in_u ((in_c 1 rfl)); by omega)))
        have n55a : ((Int32.ofInt 1)).toInt = 0 → CLP s sc2 1024 := by first | (intro hz; exfalso; have h0 : (Int32.ofInt 1).toInt = 1 := rfl; omega) | (intro hz; have hc := g63_0.2.2.2 hz; rw [show y63_2.toNatClampNeg = 1024 from (by show y63_2.toInt.toNat = 1024; exact (have a0 := in_u ro_109_20; have a1 := in_u j2_1; have a2 := in_u ((in_c 1 rfl)); by omega))] at hc; exact hc)
        have m55 : 2 * mqp s sc2 + ((Int32.ofInt 1)).toInt.toNat < 6400000002 := by have hm := cip_m n55; have h1 : (Int32.ofInt 1).toInt.toNat = 1 := rfl; omega
        exact gg_w (by omega) (gg_f (gf_cons rfl (gf_cons rfl gf_nil)) (ct55 (6400000002) sc2 (Int32.ofInt 1) hIc2 hFc2 (in_w 0 1 (in_c 1 rfl) rfl) n55 n55a m55))
      · skip
        have i7 := r_lt1 0 31 c7 j2_1 ro_109_20 rfl
        have i7a := r_lt2 1 32 c7 j2_1 ro_109_20 rfl
        refine g_aload_n 11 (gd rfl) rfl rfl (g_getA (q2 := 149) 14 (gd rfl) rfl rfl rfl rfl (g_iload_n 15 (gd rfl) rfl rfl (g_aload_n 16 (gd rfl) rfl rfl (g_iload_n 17 (gd rfl) rfl rfl (g_callv (X := _) (As := [.int y2_1]) (r := [.int y2_1, .ref (A 149)]) (b := A 109) (q := 109) 20 (gd rfl) rfl rfl rfl rfl rfl (ww_o rfl) (Nat.le_of_ble_eq_true rfl) (Nat.zero_le _) (Nat.zero_le _) (k_359 (by omega) hIc2 (in_w 0 31 i7 rfl)) (fun e u h => h) (fun v u h => ?_))))))
        obtain ⟨z17, rfl, rfl, i17, p17⟩ := h
        show GG _ _ _ _ _ _ _ _ [.int z17, .int y2_1, .ref (A 149)] _ _ _
        refine g_if_eq 23 36 (gd rfl) rfl rfl (fun c20 => ?_) (fun c20 => ?_)
        · skip
          have i20 := z_eq 0 0 c20 i17 rfl
          refine g_ldc2_w 9000000000000000 39 (gd rfl) rfl rfl (g_lastore 40 (gd rfl) rfl (n := 34) rfl (in_ix i7 rfl) (have hI39 := inv_sL (q := 149) (j := y2_1.toNatClampNeg) (x := (Int64.ofInt 9000000000000000)) hIc2 rfl (l_rng (Int64.ofInt 9000000000000000)); g_aload_n 41 (gd rfl) rfl rfl (g_getA (q2 := 148) 44 (gd rfl) rfl rfl rfl rfl (g_iload_n 45 (gd rfl) rfl rfl (g_iconst (-1) 46 (gd rfl) rfl rfl (g_iastore 47 (gd rfl) rfl (n := 34) rfl (in_ix i7 rfl) (have hI46 := inv_sI (q := 148) (j := y2_1.toNatClampNeg) hI39 rfl (in_w (-1) 1000 (in_c (-1) rfl) rfl); g_iinc 50 (gd rfl) rfl rfl (Nat.le_of_ble_eq_true rfl) (fun z47 e47 => have i47 := in_add 1 32 e47 i7 (in_c 1 rfl) rfl rfl; g_goto 2 (gd rfl) rfl ?_))))))))
          have n2 : ∀ k : Nat, (k : Int) < (z47).toInt → (spq s k → ((sI (sL sc2 149 y2_1.toNatClampNeg (Int64.ofInt 9000000000000000)) 148 y2_1.toNatClampNeg (Int32.ofInt (-1))).2.1 149 k).toInt = 0) ∧ (¬ spq s k → ((sI (sL sc2 149 y2_1.toNatClampNeg (Int64.ofInt 9000000000000000)) 148 y2_1.toNatClampNeg (Int32.ofInt (-1))).2.1 149 k).toInt = 9000000000000000) := by exact inp_s (w := Int64.ofInt 9000000000000000) g2_0 (by simp [sI, sL]) (by exact (have a0 := in_u i7a; have a1 := in_u i7; have a2 := in_u i47; have a3 := t_add e47 i7 (in_c 1 rfl) rfl; have a4 := in_u ((in_c 1 rfl)); by omega)) (by exact (have a0 := in_u i7a; have a1 := in_u i7; have a2 := in_u i47; have a3 := t_add e47 i7 (in_c 1 rfl) rfl; have a4 := in_u ((in_c 1 rfl)); by omega)) ⟨fun h => absurd (p17.mpr ((fs_cg (hFc2.1 111 rfl) (hFc2.2.2.1 109 18 rfl)).mpr h.1)) (by have h2 := c20; omega), fun _ => (by have hl : InL (Int64.ofInt 9000000000000000) 9000000000000000 9000000000000000 := l_c 9000000000000000 rfl; exact Int.le_antisymm hl.2 hl.1)⟩
          exact gg_w (by omega) (gg_f (gf_cons rfl (gf_cons rfl gf_nil)) (ih2 (sI (sL sc2 149 y2_1.toNatClampNeg (Int64.ofInt 9000000000000000)) 148 y2_1.toNatClampNeg (Int32.ofInt (-1))) z47 hI46 (fr_sI rfl (fr_sL rfl hFc2)) (in_w 0 32 i47 rfl) n2 (m_up mm2 (t_add e47 i7 (in_c 1 rfl) rfl) (in_w 1 1 (in_c 1 rfl) rfl))))
        · skip
          have i20 := z_ne 1 1 c20 i17 rfl
          refine g_aload_n 24 (gd rfl) rfl rfl (g_getA (q2 := 151) 27 (gd rfl) rfl rfl rfl rfl (g_iload_n 28 (gd rfl) rfl rfl (g_iaload 29 (gd rfl) rfl (n := 32) rfl (in_ix i7 rfl) (fun z28 e28 => have i28 := inv_I hIc2 (n := 32) (t := 0) (-1) 31 rfl (in_ix i7 rfl) rfl e28; g_if_ge 32 36 (gd rfl) rfl rfl (fun c29 => ?_) (fun c29 => ?_)))))
          · skip
            have i29 := z_ge 0 31 c29 i28 rfl
            refine g_ldc2_w 9000000000000000 39 (gd rfl) rfl rfl (g_lastore 40 (gd rfl) rfl (n := 34) rfl (in_ix i7 rfl) (have hI39 := inv_sL (q := 149) (j := y2_1.toNatClampNeg) (x := (Int64.ofInt 9000000000000000)) hIc2 rfl (l_rng (Int64.ofInt 9000000000000000)); g_aload_n 41 (gd rfl) rfl rfl (g_getA (q2 := 148) 44 (gd rfl) rfl rfl rfl rfl (g_iload_n 45 (gd rfl) rfl rfl (g_iconst (-1) 46 (gd rfl) rfl rfl (g_iastore 47 (gd rfl) rfl (n := 34) rfl (in_ix i7 rfl) (have hI46 := inv_sI (q := 148) (j := y2_1.toNatClampNeg) hI39 rfl (in_w (-1) 1000 (in_c (-1) rfl) rfl); g_iinc 50 (gd rfl) rfl rfl (Nat.le_of_ble_eq_true rfl) (fun z47 e47 => have i47 := in_add 1 32 e47 i7 (in_c 1 rfl) rfl rfl; g_goto 2 (gd rfl) rfl ?_))))))))
            have n2 : ∀ k : Nat, (k : Int) < (z47).toInt → (spq s k → ((sI (sL sc2 149 y2_1.toNatClampNeg (Int64.ofInt 9000000000000000)) 148 y2_1.toNatClampNeg (Int32.ofInt (-1))).2.1 149 k).toInt = 0) ∧ (¬ spq s k → ((sI (sL sc2 149 y2_1.toNatClampNeg (Int64.ofInt 9000000000000000)) 148 y2_1.toNatClampNeg (Int32.ofInt (-1))).2.1 149 k).toInt = 9000000000000000) := by first | (exact inp_s (w := Int64.ofInt 0) g2_0 (by simp [sI, sL]) (by exact (have a0 := in_u i7a; have a1 := in_u i7; have a2 := in_u i47; have a3 := t_add e47 i7 (in_c 1 rfl) rfl; have a4 := in_u ((in_c 1 rfl)); by omega)) (by exact (have a0 := in_u i7a; have a1 := in_u i7; have a2 := in_u i47; have a3 := t_add e47 i7 (in_c 1 rfl) rfl; have a4 := in_u ((in_c 1 rfl)); by omega)) ⟨fun _ => by decide, fun h => absurd ⟨(fs_cg (hFc2.1 111 rfl) (hFc2.2.2.1 109 18 rfl)).mp (p17.mp c20), by rw [← hFc2.1 151 rfl, ← e28]; exact c29⟩ h⟩) | (exact inp_s (w := Int64.ofInt 9000000000000000) g2_0 (by simp [sI, sL]) (by exact (have a0 := in_u i7a; have a1 := in_u i7; have a2 := in_u i47; have a3 := t_add e47 i7 (in_c 1 rfl) rfl; have a4 := in_u ((in_c 1 rfl)); by omega)) (by exact (have a0 := in_u i7a; have a1 := in_u i7; have a2 := in_u i47; have a3 := t_add e47 i7 (in_c 1 rfl) rfl; have a4 := in_u ((in_c 1 rfl)); by omega)) ⟨fun h => by exfalso; have h2 := h.2; rw [← hFc2.1 151 rfl, ← e28] at h2; have h3 := c29; omega, fun _ => (by have hl : InL (Int64.ofInt 9000000000000000) 9000000000000000 9000000000000000 := l_c 9000000000000000 rfl; exact Int.le_antisymm hl.2 hl.1)⟩)
            exact gg_w (by omega) (gg_f (gf_cons rfl (gf_cons rfl gf_nil)) (ih2 (sI (sL sc2 149 y2_1.toNatClampNeg (Int64.ofInt 9000000000000000)) 148 y2_1.toNatClampNeg (Int32.ofInt (-1))) z47 hI46 (fr_sI rfl (fr_sL rfl hFc2)) (in_w 0 32 i47 rfl) n2 (m_up mm2 (t_add e47 i7 (in_c 1 rfl) rfl) (in_w 1 1 (in_c 1 rfl) rfl))))
          · skip
            have i29 := z_lt (-1) (-1) c29 i28 rfl
            refine g_lconst 0 33 (gd rfl) rfl rfl (g_goto 39 (gd rfl) rfl (g_lastore 40 (gd rfl) rfl (n := 34) rfl (in_ix i7 rfl) (have hI39 := inv_sL (q := 149) (j := y2_1.toNatClampNeg) (x := (Int64.ofInt 0)) hIc2 rfl (l_rng (Int64.ofInt 0)); g_aload_n 41 (gd rfl) rfl rfl (g_getA (q2 := 148) 44 (gd rfl) rfl rfl rfl rfl (g_iload_n 45 (gd rfl) rfl rfl (g_iconst (-1) 46 (gd rfl) rfl rfl (g_iastore 47 (gd rfl) rfl (n := 34) rfl (in_ix i7 rfl) (have hI46 := inv_sI (q := 148) (j := y2_1.toNatClampNeg) hI39 rfl (in_w (-1) 1000 (in_c (-1) rfl) rfl); g_iinc 50 (gd rfl) rfl rfl (Nat.le_of_ble_eq_true rfl) (fun z47 e47 => have i47 := in_add 1 32 e47 i7 (in_c 1 rfl) rfl rfl; g_goto 2 (gd rfl) rfl ?_)))))))))
            have n2 : ∀ k : Nat, (k : Int) < (z47).toInt → (spq s k → ((sI (sL sc2 149 y2_1.toNatClampNeg (Int64.ofInt 0)) 148 y2_1.toNatClampNeg (Int32.ofInt (-1))).2.1 149 k).toInt = 0) ∧ (¬ spq s k → ((sI (sL sc2 149 y2_1.toNatClampNeg (Int64.ofInt 0)) 148 y2_1.toNatClampNeg (Int32.ofInt (-1))).2.1 149 k).toInt = 9000000000000000) := by first | (exact inp_s (w := Int64.ofInt 0) g2_0 (by simp [sI, sL]) (by exact (have a0 := in_u i7a; have a1 := in_u i7; have a2 := in_u i47; have a3 := t_add e47 i7 (in_c 1 rfl) rfl; have a4 := in_u ((in_c 1 rfl)); by omega)) (by exact (have a0 := in_u i7a; have a1 := in_u i7; have a2 := in_u i47; have a3 := t_add e47 i7 (in_c 1 rfl) rfl; have a4 := in_u ((in_c 1 rfl)); by omega)) ⟨fun _ => by decide, fun h => absurd ⟨(fs_cg (hFc2.1 111 rfl) (hFc2.2.2.1 109 18 rfl)).mp (p17.mp c20), by rw [← hFc2.1 151 rfl, ← e28]; exact c29⟩ h⟩) | (exact inp_s (w := Int64.ofInt 9000000000000000) g2_0 (by simp [sI, sL]) (by exact (have a0 := in_u i7a; have a1 := in_u i7; have a2 := in_u i47; have a3 := t_add e47 i7 (in_c 1 rfl) rfl; have a4 := in_u ((in_c 1 rfl)); by omega)) (by exact (have a0 := in_u i7a; have a1 := in_u i7; have a2 := in_u i47; have a3 := t_add e47 i7 (in_c 1 rfl) rfl; have a4 := in_u ((in_c 1 rfl)); by omega)) ⟨fun h => by exfalso; have h2 := h.2; rw [← hFc2.1 151 rfl, ← e28] at h2; have h3 := c29; omega, fun _ => (by have hl : InL (Int64.ofInt 9000000000000000) 9000000000000000 9000000000000000 := l_c 9000000000000000 rfl; exact Int.le_antisymm hl.2 hl.1)⟩)
            exact gg_w (by omega) (gg_f (gf_cons rfl (gf_cons rfl gf_nil)) (ih2 (sI (sL sc2 149 y2_1.toNatClampNeg (Int64.ofInt 0)) 148 y2_1.toNatClampNeg (Int32.ofInt (-1))) z47 hI46 (fr_sI rfl (fr_sL rfl hFc2)) (in_w 0 32 i47 rfl) n2 (m_up mm2 (t_add e47 i7 (in_c 1 rfl) rfl) (in_w 1 1 (in_c 1 rfl) rfl))))
  refine g_enter2 (k := 361) (N := 5921286401910705) (by omega) rfl (Nat.le_of_ble_eq_true rfl) (g_iconst 0 1 (gd rfl) rfl rfl (g_istore_n 2 (gd rfl) rfl (Nat.le_of_ble_eq_true rfl) ?_))
  have n2 : ∀ k : Nat, (k : Int) < ((Int32.ofInt 0)).toInt → (spq s k → (s.2.1 149 k).toInt = 0) ∧ (¬ spq s k → (s.2.1 149 k).toInt = 9000000000000000) := by (intro k hk; exfalso; have h0 : (Int32.ofInt 0).toInt = 0 := rfl; omega)
  exact gg_w (by omega) (gg_f (gf_cons rfl (gf_cons rfl gf_nil)) (ct2 33 s (Int32.ofInt 0) hI fr_rf (in_w 0 32 (in_c 0 rfl) rfl) n2 (m_in 33 (in_w 0 32 (in_c 0 rfl) rfl) rfl)))
