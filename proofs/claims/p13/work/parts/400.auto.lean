/-! methods, by vc.py -/
def fm_310 : FM := ([129], [], [], [])
/-- GraphHouseModel.close -/
theorem k_310 {Z : AmZ} {A : Nat → Nat} {s : GS} {ex : va_W} {d : Nat} {X : AmX} {x1 : Int32} {x2 : Int32} {x3 : Int32} (hd : 1 ≤ d) (hI : Inv s) (h1 : In x1 0 1) (h2 : In x2 (-1) 159) (h3 : In x3 (-1) 31) : GC Z d 310 [.ref (A 109), .int x1, .int x2, .int x3] (WW Z A s ++ ex) 0 0 (fun v u => ∃ t : GS, Inv t ∧ Fr fm_310 s t ∧ v = none ∧ u = WW Z A t ++ ex ∧ (∀ j : Nat, ((j : Int) < (t.2.2.1 109 20).toInt ∧ (j : Int) ≠ (x3).toInt) → bt (t.1 129 j) j = true) ∧ ((x1).toInt = 0 → (x2).toInt = -1 → (x3).toInt = -1 → RCH t (t.1 129))) X := by
  intro post xp hP hX
  obtain ⟨u_109_19, e_109_19⟩ : ∃ w, w = s.2.2.1 109 19 := ⟨_, rfl⟩
  have ro_109_19 := inv_F hI 0 160 rfl e_109_19
  obtain ⟨u_109_20, e_109_20⟩ : ∃ w, w = s.2.2.1 109 20 := ⟨_, rfl⟩
  have ro_109_20 := inv_F hI 0 32 rfl e_109_20
  have ct156 : ∀ (k156 : Nat) (sc156 : GS) (y156_4 : Int32), Inv sc156 → Fr fm_310 s sc156 → (In y156_4 0 32) → (∀ j : Nat, ((j : Int) < (u_109_20).toInt ∧ (j : Int) ≠ (x3).toInt) → bt (sc156.1 129 j) j = true) → ((x1).toInt = 0 → (x2).toInt = -1 → (x3).toInt = -1 → RQ2 s (sc156.1 129) (y156_4).toNatClampNeg) → 32 - (y156_4).toInt < (k156 : Int) → GG Z (d - 1) 310 post (gx xp) (1 + k156 * 32401) 156 (fun j => xlook j [(0, .ref (A 109)), (1, .int x1), (2, .int x2), (3, .int x3), (4, .int y156_4)]) [] (WW Z A sc156 ++ ex) 0 0 := by
    intro k156
    induction k156 with
    | zero => intro sc156 y156_4 hIc156 hFc156 j156_4 g156_0 g156_1 mm156; exact m_no mm156 j156_4 rfl
    | succ k156 ih156 =>
      intro sc156 y156_4 hIc156 hFc156 j156_4 g156_0 g156_1 mm156
      refine gg_w (M := 1 + k156 * 32401 + 32401) (by omega) ?_
      have ct168 : ∀ (k168 : Nat) (sc168 : GS) (y168_5 : Int32), Inv sc168 → Fr fm_310 s sc168 → (In y156_4 0 31) → (In y168_5 0 32) → ((y156_4).toInt < (u_109_20).toInt) → (∀ j : Nat, ((j : Int) < (u_109_20).toInt ∧ (j : Int) ≠ (x3).toInt) → bt (sc168.1 129 j) j = true) → (RQ3 (nmx s) (sc156.1 129) (sc168.1 129) (y156_4).toNatClampNeg (y168_5).toInt) → 32 - (y168_5).toInt < (k168 : Int) → GG Z (d - 1) 310 post (gx xp) (1 + k156 * 32401 + 1 + k168 * 900) 168 (fun j => xlook j [(0, .ref (A 109)), (1, .int x1), (2, .int x2), (3, .int x3), (4, .int y156_4), (5, .int y168_5)]) [] (WW Z A sc168 ++ ex) 0 0 := by
        intro k168
        induction k168 with
        | zero => intro sc168 y168_5 hIc168 hFc168 j168_4 j168_5 n168_0 g168_0 g168_1 mm168; exact m_no mm168 j168_5 rfl
        | succ k168 ih168 =>
          intro sc168 y168_5 hIc168 hFc168 j168_4 j168_5 n168_0 g168_0 g168_1 mm168
          refine gg_w (M := 1 + k156 * 32401 + 1 + k168 * 900 + 900) (by omega) ?_
          refine g_iload 170 (gd rfl) rfl rfl ?_
          refine g_aload_n 171 (gd rfl) rfl rfl ?_
          refine g_getI 174 (gd rfl) rfl rfl rfl (fun z171 e171 => ?_)
          have q171 : u_109_20 = z171 := (fr_F e_109_20 hFc168 rfl).trans e171.symm
          subst q171
          refine g_cmp_ge 177 220 (gd rfl) rfl rfl (fun c174 => ?_) (fun c174 => ?_)
          · skip
            refine g_iinc 223 (gd rfl) rfl rfl (Nat.le_of_ble_eq_true rfl) (fun z220 e220 => ?_)
            have i220 := in_add 1 32 e220 j168_4 (in_c 1 rfl) rfl rfl
            refine g_goto 156 (gd rfl) rfl ?_
            have n156 : ∀ j : Nat, ((j : Int) < (u_109_20).toInt ∧ (j : Int) ≠ (x3).toInt) → bt (sc168.1 129 j) j = true := by first | exact g42_0 | exact g168_0
            have n156a : (x1).toInt = 0 → (x2).toInt = -1 → (x3).toInt = -1 → RQ2 s (sc168.1 129) (z220).toNatClampNeg := by exact fun qa qb qc => (by rw [show (z220).toNatClampNeg = y156_4.toNatClampNeg + 1 from (by show z220.toInt.toNat = y156_4.toInt.toNat + 1; have a0 := j168_4; unfold In at a0; have a1 := h3; unfold In at a1; have a2 := h2; unfold In at a2; have a3 := h1; unfold In at a3; have a4 := ro_109_20; unfold In at a4; have a5 := ro_109_19; unfold In at a5; have a6 := j168_5; unfold In at a6; have a7 := i220; unfold In at a7; have a8 := t_add e220 j168_4 (in_c 1 rfl) rfl; have a9 := (in_c 1 rfl); unfold In at a9; omega)]; exact rq2_s hI (g156_1 qa qb qc) g168_1 (by unfold nmx; rw [← e_109_20]; have a0 := j168_4; unfold In at a0; have a1 := h3; unfold In at a1; have a2 := h2; unfold In at a2; have a3 := h1; unfold In at a3; have a4 := ro_109_20; unfold In at a4; have a5 := ro_109_19; unfold In at a5; have a6 := j168_5; unfold In at a6; have a7 := i220; unfold In at a7; have a8 := t_add e220 j168_4 (in_c 1 rfl) rfl; have a9 := (in_c 1 rfl); unfold In at a9; omega) (by unfold nmx; rw [← e_109_20]; show ((y156_4.toInt.toNat : Nat) : Int) < _; have a0 := j168_4; unfold In at a0; have a1 := h3; unfold In at a1; have a2 := h2; unfold In at a2; have a3 := h1; unfold In at a3; have a4 := ro_109_20; unfold In at a4; have a5 := ro_109_19; unfold In at a5; have a6 := j168_5; unfold In at a6; have a7 := i220; unfold In at a7; have a8 := t_add e220 j168_4 (in_c 1 rfl) rfl; have a9 := (in_c 1 rfl); unfold In at a9; omega))
            exact gg_w (by omega) (gg_f (gf_cons rfl (gf_cons rfl (gf_cons rfl (gf_cons rfl (gf_cons rfl gf_nil))))) (ih156 sc168 z220 hIc168 hFc168 (in_w 0 32 i220 rfl) n156 n156a (m_up mm156 (t_add e220 j168_4 (in_c 1 rfl) rfl) (in_w 1 1 (in_c 1 rfl) rfl))))
          · skip
            have i174 := r_lt1 0 31 c174 j168_5 ro_109_20 rfl
            have i174a := r_lt2 1 32 c174 j168_5 ro_109_20 rfl
            refine g_aload_n 178 (gd rfl) rfl rfl ?_
            refine g_getA (q2 := 129) 181 (gd rfl) rfl rfl rfl rfl ?_
            refine g_iload 183 (gd rfl) rfl rfl ?_
            refine g_dup2 184 (gd rfl) rfl rfl rfl ?_
            refine g_iaload 185 (gd rfl) rfl (n := 32) rfl (in_ix i174 rfl) (fun z184 e184 => ?_)
            refine g_aload_n 186 (gd rfl) rfl rfl ?_
            refine g_getA (q2 := 129) 189 (gd rfl) rfl rfl rfl rfl ?_
            refine g_iload 191 (gd rfl) rfl rfl ?_
            refine g_iaload 192 (gd rfl) rfl (n := 32) rfl (in_ix i174 rfl) (fun z191 e191 => ?_)
            have q191 : z184 = z191 := (e184).trans e191.symm
            subst q191
            refine g_iload 194 (gd rfl) rfl rfl ?_
            refine g_ishr 195 (gd rfl) rfl (fun z194 e194 => ?_)
            refine g_iconst 1 196 (gd rfl) rfl rfl ?_
            refine g_iand 197 (gd rfl) rfl (fun z196 e196 => ?_)
            have i196 := in_and2 e196 (in_c 1 rfl) rfl
            refine g_iconst 1 198 (gd rfl) rfl rfl ?_
            refine g_cmp_ne 201 211 (gd rfl) rfl rfl (fun c198 => ?_) (fun c198 => ?_)
            · skip
              have i198 := r_ne1 0 0 c198 i196 (in_c 1 rfl) rfl
              refine g_iconst 0 212 (gd rfl) rfl rfl ?_
              refine g_ior 213 (gd rfl) rfl (fun z212 e212 => ?_)
              refine g_iastore 214 (gd rfl) rfl (n := 32) rfl (in_ix i174 rfl) ?_
              have hI213 := inv_sI (q := 129) (j := y168_5.toNatClampNeg) hIc168 rfl (in_w (-2147483648) 2147483647 (i_rng z212) rfl)
              refine g_iinc 217 (gd rfl) rfl rfl (Nat.le_of_ble_eq_true rfl) (fun z214 e214 => ?_)
              have i214 := in_add 1 32 e214 i174 (in_c 1 rfl) rfl rfl
              refine g_goto 168 (gd rfl) rfl ?_
              have n168 : (y156_4).toInt < (u_109_20).toInt := by have a0 := j168_4; unfold In at a0; have a1 := h3; unfold In at a1; have a2 := h2; unfold In at a2; have a3 := h1; unfold In at a3; have a4 := i174a; unfold In at a4; have a5 := ro_109_19; unfold In at a5; have a6 := i174; unfold In at a6; have a7 := i214; unfold In at a7; have a8 := t_add e214 i174 (in_c 1 rfl) rfl; have a9 := (in_c 1 rfl); unfold In at a9; omega
              have n168a : ∀ j : Nat, ((j : Int) < (u_109_20).toInt ∧ (j : Int) ≠ (x3).toInt) → bt ((sI sc168 129 y168_5.toNatClampNeg z212).1 129 j) j = true := by first | exact g156_0 | (rw [sI_q]; exact bo_up g168_0 e184 e212)
              have n168b : RQ3 (nmx s) (sc156.1 129) ((sI sc168 129 y168_5.toNatClampNeg z212).1 129) (y156_4).toNatClampNeg (z214).toInt := by rw [show (z214).toInt = y168_5.toInt + 1 from (by have a0 := j168_4; unfold In at a0; have a1 := h3; unfold In at a1; have a2 := h2; unfold In at a2; have a3 := h1; unfold In at a3; have a4 := i174a; unfold In at a4; have a5 := ro_109_19; unfold In at a5; have a6 := i174; unfold In at a6; have a7 := i214; unfold In at a7; have a8 := t_add e214 i174 (in_c 1 rfl) rfl; have a9 := (in_c 1 rfl); unfold In at a9; omega), sI_q]; exact rq3_s g168_1 rfl (by have a0 := j168_4; unfold In at a0; have a1 := h3; unfold In at a1; have a2 := h2; unfold In at a2; have a3 := h1; unfold In at a3; have a4 := i174a; unfold In at a4; have a5 := ro_109_19; unfold In at a5; have a6 := i174; unfold In at a6; have a7 := i214; unfold In at a7; have a8 := t_add e214 i174 (in_c 1 rfl) rfl; have a9 := (in_c 1 rfl); unfold In at a9; omega) (by unfold nmx; rw [← e_109_20]; have a0 := j168_4; unfold In at a0; have a1 := h3; unfold In at a1; have a2 := h2; unfold In at a2; have a3 := h1; unfold In at a3; have a4 := i174a; unfold In at a4; have a5 := ro_109_19; unfold In at a5; have a6 := i174; unfold In at a6; have a7 := i214; unfold In at a7; have a8 := t_add e214 i174 (in_c 1 rfl) rfl; have a9 := (in_c 1 rfl); unfold In at a9; omega) (by unfold nmx; rw [← e_109_20]; show ((y156_4.toInt.toNat : Nat) : Int) < _; have a0 := j168_4; unfold In at a0; have a1 := h3; unfold In at a1; have a2 := h2; unfold In at a2; have a3 := h1; unfold In at a3; have a4 := i174a; unfold In at a4; have a5 := ro_109_19; unfold In at a5; have a6 := i174; unfold In at a6; have a7 := i214; unfold In at a7; have a8 := t_add e214 i174 (in_c 1 rfl) rfl; have a9 := (in_c 1 rfl); unfold In at a9; omega) (fun w => by rw [bt_or e212, show (Int32.ofInt 0) = (0 : Int32) from rfl, bt_z, Bool.or_false, e184]; exact ⟨Or.inl, fun h => by rcases h with h | h; (exact h); (exfalso; have hb := bt_no e194 e196 j168_4 c198; rw [e184, h.1] at hb; cases hb)⟩)
              exact gg_w (by omega) (gg_f (gf_cons rfl (gf_cons rfl (gf_cons rfl (gf_cons rfl (gf_cons rfl (gf_cons rfl gf_nil)))))) (ih168 (sI sc168 129 y168_5.toNatClampNeg z212) z214 hI213 (fr_sI rfl hFc168) (in_w 0 31 j168_4 rfl) (in_w 0 32 i214 rfl) n168 n168a n168b (m_up mm168 (t_add e214 i174 (in_c 1 rfl) rfl) (in_w 1 1 (in_c 1 rfl) rfl))))
            · skip
              have i198 := r_eq1 1 1 c198 i196 (in_c 1 rfl) rfl
              refine g_aload_n 202 (gd rfl) rfl rfl ?_
              refine g_getA (q2 := 129) 205 (gd rfl) rfl rfl rfl rfl ?_
              refine g_iload 207 (gd rfl) rfl rfl ?_
              refine g_iaload 208 (gd rfl) rfl (n := 32) rfl (in_ix j168_4 rfl) (fun z207 e207 => ?_)
              refine g_goto 212 (gd rfl) rfl ?_
              refine g_ior 213 (gd rfl) rfl (fun z212 e212 => ?_)
              refine g_iastore 214 (gd rfl) rfl (n := 32) rfl (in_ix i174 rfl) ?_
              have hI213 := inv_sI (q := 129) (j := y168_5.toNatClampNeg) hIc168 rfl (in_w (-2147483648) 2147483647 (i_rng z212) rfl)
              refine g_iinc 217 (gd rfl) rfl rfl (Nat.le_of_ble_eq_true rfl) (fun z214 e214 => ?_)
              have i214 := in_add 1 32 e214 i174 (in_c 1 rfl) rfl rfl
              refine g_goto 168 (gd rfl) rfl ?_
              have n168 : (y156_4).toInt < (u_109_20).toInt := by have a0 := j168_4; unfold In at a0; have a1 := h3; unfold In at a1; have a2 := h2; unfold In at a2; have a3 := h1; unfold In at a3; have a4 := i174a; unfold In at a4; have a5 := ro_109_19; unfold In at a5; have a6 := i174; unfold In at a6; have a7 := i214; unfold In at a7; have a8 := t_add e214 i174 (in_c 1 rfl) rfl; have a9 := (in_c 1 rfl); unfold In at a9; omega
              have n168a : ∀ j : Nat, ((j : Int) < (u_109_20).toInt ∧ (j : Int) ≠ (x3).toInt) → bt ((sI sc168 129 y168_5.toNatClampNeg z212).1 129 j) j = true := by first | exact g156_0 | (rw [sI_q]; exact bo_up g168_0 e184 e212)
              have n168b : RQ3 (nmx s) (sc156.1 129) ((sI sc168 129 y168_5.toNatClampNeg z212).1 129) (y156_4).toNatClampNeg (z214).toInt := by rw [show (z214).toInt = y168_5.toInt + 1 from (by have a0 := j168_4; unfold In at a0; have a1 := h3; unfold In at a1; have a2 := h2; unfold In at a2; have a3 := h1; unfold In at a3; have a4 := i174a; unfold In at a4; have a5 := ro_109_19; unfold In at a5; have a6 := i174; unfold In at a6; have a7 := i214; unfold In at a7; have a8 := t_add e214 i174 (in_c 1 rfl) rfl; have a9 := (in_c 1 rfl); unfold In at a9; omega), sI_q]; exact rq3_s g168_1 rfl (by have a0 := j168_4; unfold In at a0; have a1 := h3; unfold In at a1; have a2 := h2; unfold In at a2; have a3 := h1; unfold In at a3; have a4 := i174a; unfold In at a4; have a5 := ro_109_19; unfold In at a5; have a6 := i174; unfold In at a6; have a7 := i214; unfold In at a7; have a8 := t_add e214 i174 (in_c 1 rfl) rfl; have a9 := (in_c 1 rfl); unfold In at a9; omega) (by unfold nmx; rw [← e_109_20]; have a0 := j168_4; unfold In at a0; have a1 := h3; unfold In at a1; have a2 := h2; unfold In at a2; have a3 := h1; unfold In at a3; have a4 := i174a; unfold In at a4; have a5 := ro_109_19; unfold In at a5; have a6 := i174; unfold In at a6; have a7 := i214; unfold In at a7; have a8 := t_add e214 i174 (in_c 1 rfl) rfl; have a9 := (in_c 1 rfl); unfold In at a9; omega) (by unfold nmx; rw [← e_109_20]; show ((y156_4.toInt.toNat : Nat) : Int) < _; have a0 := j168_4; unfold In at a0; have a1 := h3; unfold In at a1; have a2 := h2; unfold In at a2; have a3 := h1; unfold In at a3; have a4 := i174a; unfold In at a4; have a5 := ro_109_19; unfold In at a5; have a6 := i174; unfold In at a6; have a7 := i214; unfold In at a7; have a8 := t_add e214 i174 (in_c 1 rfl) rfl; have a9 := (in_c 1 rfl); unfold In at a9; omega) (fun w => by have hb := bt_yes e194 e196 j168_4 c198; rw [e184] at hb; rw [bt_or e212, e184, e207]; exact ⟨fun h => by rcases (Bool.or_eq_true _ _).mp h with h | h; (exact Or.inl h); (exact Or.inr ⟨hb, h⟩), fun h => by rcases h with h | h; (rw [h, Bool.true_or]); (rw [h.2, Bool.or_true])⟩)
              exact gg_w (by omega) (gg_f (gf_cons rfl (gf_cons rfl (gf_cons rfl (gf_cons rfl (gf_cons rfl (gf_cons rfl gf_nil)))))) (ih168 (sI sc168 129 y168_5.toNatClampNeg z212) z214 hI213 (fr_sI rfl hFc168) (in_w 0 31 j168_4 rfl) (in_w 0 32 i214 rfl) n168 n168a n168b (m_up mm168 (t_add e214 i174 (in_c 1 rfl) rfl) (in_w 1 1 (in_c 1 rfl) rfl))))
      refine g_iload 158 (gd rfl) rfl rfl ?_
      refine g_aload_n 159 (gd rfl) rfl rfl ?_
      refine g_getI 162 (gd rfl) rfl rfl rfl (fun z159 e159 => ?_)
      have q159 : u_109_20 = z159 := (fr_F e_109_20 hFc156 rfl).trans e159.symm
      subst q159
      refine g_cmp_ge 165 226 (gd rfl) rfl rfl (fun c162 => ?_) (fun c162 => ?_)
      · skip
        have n226 : ∀ j : Nat, ((j : Int) < (sc156.2.2.1 109 20).toInt ∧ (j : Int) ≠ (x3).toInt) → bt (sc156.1 129 j) j = true := by intro j hj; have hn := (show u_109_20 = sc156.2.2.1 109 20 from fr_F e_109_20 hFc156 rfl); rw [← hn] at hj; exact g156_0 j hj
        have n226a : (x1).toInt = 0 → (x2).toInt = -1 → (x3).toInt = -1 → RCH sc156 (sc156.1 129) := by exact fun qa qb qc => rch_cg (rch_e (g156_1 qa qb qc) (by unfold nmx; rw [← e_109_20]; show _ ≤ ((y156_4.toInt.toNat : Nat) : Int); have a0 := h3; unfold In at a0; have a1 := h2; unfold In at a1; have a2 := h1; unfold In at a2; have a3 := ro_109_20; unfold In at a3; have a4 := ro_109_19; unfold In at a4; have a5 := j156_4; unfold In at a5; omega)) (hFc156.1 112 rfl) (hFc156.1 113 rfl) (hFc156.1 114 rfl) (hFc156.2.2.1 109 19 rfl) (hFc156.2.2.1 109 20 rfl)
        exact g_return (gd rfl) rfl (hP _ _ ⟨sc156, hIc156, hFc156, rfl, rfl, n226, n226a⟩)
      · skip
        have i162 := r_lt1 0 31 c162 j156_4 ro_109_20 rfl
        have i162a := r_lt2 1 32 c162 j156_4 ro_109_20 rfl
        refine g_iconst 0 166 (gd rfl) rfl rfl ?_
        refine g_istore 168 (gd rfl) rfl (Nat.le_of_ble_eq_true rfl) ?_
        have n168 : (y156_4).toInt < (u_109_20).toInt := by have a0 := h3; unfold In at a0; have a1 := h2; unfold In at a1; have a2 := h1; unfold In at a2; have a3 := i162a; unfold In at a3; have a4 := ro_109_19; unfold In at a4; have a5 := i162; unfold In at a5; have a6 := (in_c 0 rfl); unfold In at a6; omega
        have n168a : ∀ j : Nat, ((j : Int) < (u_109_20).toInt ∧ (j : Int) ≠ (x3).toInt) → bt (sc156.1 129 j) j = true := by first | exact g156_0 | (rw [sI_q]; exact bo_up g168_0 e184 e212)
        have n168b : RQ3 (nmx s) (sc156.1 129) (sc156.1 129) (y156_4).toNatClampNeg ((Int32.ofInt 0)).toInt := by exact rq3_0
        exact gg_w (by omega) (gg_f (gf_cons rfl (gf_cons rfl (gf_cons rfl (gf_cons rfl (gf_cons rfl (gf_cons rfl gf_nil)))))) (ct168 33 sc156 (Int32.ofInt 0) hIc156 hFc156 (in_w 0 31 i162 rfl) (in_w 0 32 (in_c 0 rfl) rfl) n168 n168a n168b (m_in 33 (in_w 0 32 (in_c 0 rfl) rfl) rfl)))
  have ct42 : ∀ (k42 : Nat) (sc42 : GS) (y42_4 : Int32), Inv sc42 → Fr fm_310 s sc42 → (In y42_4 0 160) → (∀ j : Nat, ((j : Int) < (u_109_20).toInt ∧ (j : Int) ≠ (x3).toInt) → bt (sc42.1 129 j) j = true) → ((x1).toInt = 0 → (x2).toInt = -1 → (x3).toInt = -1 → RQ1 s (sc42.1 129) (y42_4).toNatClampNeg) → 160 - (y42_4).toInt < (k42 : Int) → GG Z (d - 1) 310 post (gx xp) (1069235 + k42 * 900) 42 (fun j => xlook j [(0, .ref (A 109)), (1, .int x1), (2, .int x2), (3, .int x3), (4, .int y42_4)]) [] (WW Z A sc42 ++ ex) 0 0 := by
    intro k42
    induction k42 with
    | zero => intro sc42 y42_4 hIc42 hFc42 j42_4 g42_0 g42_1 mm42; exact m_no mm42 j42_4 rfl
    | succ k42 ih42 =>
      intro sc42 y42_4 hIc42 hFc42 j42_4 g42_0 g42_1 mm42
      refine gg_w (M := 1069235 + k42 * 900 + 900) (by omega) ?_
      refine g_iload 44 (gd rfl) rfl rfl ?_
      refine g_sipush 160 47 (gd rfl) rfl rfl ?_
      refine g_cmp_ge 50 153 (gd rfl) rfl rfl (fun c47 => ?_) (fun c47 => ?_)
      · skip
        have i47 := r_le2 160 160 c47 (in_c 160 rfl) j42_4 rfl
        refine g_iconst 0 154 (gd rfl) rfl rfl ?_
        refine g_istore 156 (gd rfl) rfl (Nat.le_of_ble_eq_true rfl) ?_
        have n156 : ∀ j : Nat, ((j : Int) < (u_109_20).toInt ∧ (j : Int) ≠ (x3).toInt) → bt (sc42.1 129 j) j = true := by first | exact g42_0 | exact g168_0
        have n156a : (x1).toInt = 0 → (x2).toInt = -1 → (x3).toInt = -1 → RQ2 s (sc42.1 129) ((Int32.ofInt 0)).toNatClampNeg := by exact fun qa qb qc => ⟨by have h := g42_1 qa qb qc; rw [show y42_4.toNatClampNeg = 160 from (by show y42_4.toInt.toNat = 160; have a0 := h3; unfold In at a0; have a1 := h2; unfold In at a1; have a2 := h1; unfold In at a2; have a3 := ro_109_20; unfold In at a3; have a4 := ro_109_19; unfold In at a4; have a5 := i47; unfold In at a5; have a6 := (in_c 0 rfl); unfold In at a6; omega)] at h; exact h, fun v u w hv => absurd hv (Nat.not_lt_zero _)⟩
        exact gg_w (by omega) (gg_f (gf_cons rfl (gf_cons rfl (gf_cons rfl (gf_cons rfl (gf_cons rfl gf_nil))))) (ct156 33 sc42 (Int32.ofInt 0) hIc42 hFc42 (in_w 0 32 (in_c 0 rfl) rfl) n156 n156a (m_in 33 (in_w 0 32 (in_c 0 rfl) rfl) rfl)))
      · skip
        have i47 := r_lt1 0 159 c47 j42_4 (in_c 160 rfl) rfl
        refine g_aload_n 51 (gd rfl) rfl rfl ?_
        refine g_getA (q2 := 113) 54 (gd rfl) rfl rfl rfl rfl ?_
        refine g_aload_n 55 (gd rfl) rfl rfl ?_
        refine g_getI 58 (gd rfl) rfl rfl rfl (fun z55 e55 => ?_)
        have q55 : u_109_19 = z55 := (fr_F e_109_19 hFc42 rfl).trans e55.symm
        subst q55
        refine g_iload 60 (gd rfl) rfl rfl ?_
        refine g_iadd 61 (gd rfl) rfl (fun z60 e60 => ?_)
        have i60 := in_add 0 319 e60 ro_109_19 i47 rfl rfl
        refine g_iaload 62 (gd rfl) rfl (n := 480) rfl (in_ix i60 rfl) (fun z61 e61 => ?_)
        have i61 := inv_I hIc42 (n := 480) (t := 0) 0 31 rfl (in_ix i60 rfl) rfl e61
        refine g_istore 64 (gd rfl) rfl (Nat.le_of_ble_eq_true rfl) ?_
        refine g_aload_n 65 (gd rfl) rfl rfl ?_
        refine g_getA (q2 := 114) 68 (gd rfl) rfl rfl rfl rfl ?_
        refine g_aload_n 69 (gd rfl) rfl rfl ?_
        refine g_getI 72 (gd rfl) rfl rfl rfl (fun z69 e69 => ?_)
        have q69 : u_109_19 = z69 := (fr_F e_109_19 hFc42 rfl).trans e69.symm
        subst q69
        refine g_iload 74 (gd rfl) rfl rfl ?_
        refine g_iadd 75 (gd rfl) rfl (fun z74 e74 => ?_)
        have i74 := in_add 0 319 e74 ro_109_19 i47 rfl rfl
        refine g_iaload 76 (gd rfl) rfl (n := 480) rfl (in_ix i74 rfl) (fun z75 e75 => ?_)
        have i75 := inv_I hIc42 (n := 480) (t := 0) 0 31 rfl (in_ix i74 rfl) rfl e75
        refine g_istore 78 (gd rfl) rfl (Nat.le_of_ble_eq_true rfl) ?_
        refine g_aload_n 79 (gd rfl) rfl rfl ?_
        refine g_getA (q2 := 112) 82 (gd rfl) rfl rfl rfl rfl ?_
        refine g_aload_n 83 (gd rfl) rfl rfl ?_
        refine g_getI 86 (gd rfl) rfl rfl rfl (fun z83 e83 => ?_)
        have q83 : u_109_19 = z83 := (fr_F e_109_19 hFc42 rfl).trans e83.symm
        subst q83
        refine g_iload 88 (gd rfl) rfl rfl ?_
        refine g_iadd 89 (gd rfl) rfl (fun z88 e88 => ?_)
        have i88 := in_add 0 319 e88 ro_109_19 i47 rfl rfl
        refine g_baload 90 (gd rfl) rfl (n := 480) rfl (in_ix i88 rfl) (fun z89 e89 => ?_)
        have i89 := inv_I hIc42 (n := 480) (t := 3) 0 1 rfl (in_ix i88 rfl) rfl e89
        refine g_if_eq 93 147 (gd rfl) rfl rfl (fun c90 => ?_) (fun c90 => ?_)
        · skip
          have i90 := z_eq 0 0 c90 i89 rfl
          refine g_iinc 150 (gd rfl) rfl rfl (Nat.le_of_ble_eq_true rfl) (fun z147 e147 => ?_)
          have i147 := in_add 1 160 e147 i47 (in_c 1 rfl) rfl rfl
          refine g_goto 42 (gd rfl) rfl ?_
          have n42 : ∀ j : Nat, ((j : Int) < (u_109_20).toInt ∧ (j : Int) ≠ (x3).toInt) → bt (sc42.1 129 j) j = true := by first | exact fun j hj => g3_0 j ⟨by have a0 := h3; unfold In at a0; have a1 := h2; unfold In at a1; have a2 := h1; unfold In at a2; have a3 := ro_109_20; unfold In at a3; have a4 := ro_109_19; unfold In at a4; have a5 := i47; unfold In at a5; have a6 := i75; unfold In at a6; have a7 := i61; unfold In at a7; have a8 := i147; unfold In at a8; have a9 := t_add e147 i47 (in_c 1 rfl) rfl; have a10 := (in_c 1 rfl); unfold In at a10; have a11 := i88; unfold In at a11; have a12 := t_add e88 ro_109_19 i47 rfl; have a13 := i74; unfold In at a13; have a14 := t_add e74 ro_109_19 i47 rfl; have a15 := i60; unfold In at a15; have a16 := t_add e60 ro_109_19 i47 rfl; omega, hj.2⟩ | exact g42_0 | (rw [sI_q, sI_q]; rw [sI_q] at e132; exact bo_up (bo_up g42_0 e118 e123) e132 e145)
          have n42a : (x1).toInt = 0 → (x2).toInt = -1 → (x3).toInt = -1 → RQ1 s (sc42.1 129) (z147).toNatClampNeg := by exact fun qa qb qc => (by rw [show (z147).toNatClampNeg = y42_4.toNatClampNeg + 1 from (by show z147.toInt.toNat = y42_4.toInt.toNat + 1; have a0 := h3; unfold In at a0; have a1 := h2; unfold In at a1; have a2 := h1; unfold In at a2; have a3 := ro_109_20; unfold In at a3; have a4 := ro_109_19; unfold In at a4; have a5 := i47; unfold In at a5; have a6 := i75; unfold In at a6; have a7 := i61; unfold In at a7; have a8 := i147; unfold In at a8; have a9 := t_add e147 i47 (in_c 1 rfl) rfl; have a10 := (in_c 1 rfl); unfold In at a10; have a11 := i88; unfold In at a11; have a12 := t_add e88 ro_109_19 i47 rfl; have a13 := i74; unfold In at a13; have a14 := t_add e74 ro_109_19 i47 rfl; have a15 := i60; unfold In at a15; have a16 := t_add e60 ro_109_19 i47 rfl; omega)]; exact rq1_no (g42_1 qa qb qc) (by rw [(bs_x (x := z88) (a := y42_4) e_109_19 (by have a0 := h3; unfold In at a0; have a1 := h2; unfold In at a1; have a2 := h1; unfold In at a2; have a3 := ro_109_20; unfold In at a3; have a4 := ro_109_19; unfold In at a4; have a5 := i47; unfold In at a5; have a6 := i75; unfold In at a6; have a7 := i61; unfold In at a7; have a8 := i147; unfold In at a8; have a9 := t_add e147 i47 (in_c 1 rfl) rfl; have a10 := (in_c 1 rfl); unfold In at a10; have a11 := i88; unfold In at a11; have a12 := t_add e88 ro_109_19 i47 rfl; have a13 := i74; unfold In at a13; have a14 := t_add e74 ro_109_19 i47 rfl; have a15 := i60; unfold In at a15; have a16 := t_add e60 ro_109_19 i47 rfl; omega) (by have a0 := h3; unfold In at a0; have a1 := h2; unfold In at a1; have a2 := h1; unfold In at a2; have a3 := ro_109_20; unfold In at a3; have a4 := ro_109_19; unfold In at a4; have a5 := i47; unfold In at a5; have a6 := i75; unfold In at a6; have a7 := i61; unfold In at a7; have a8 := i147; unfold In at a8; have a9 := t_add e147 i47 (in_c 1 rfl) rfl; have a10 := (in_c 1 rfl); unfold In at a10; have a11 := i88; unfold In at a11; have a12 := t_add e88 ro_109_19 i47 rfl; have a13 := i74; unfold In at a13; have a14 := t_add e74 ro_109_19 i47 rfl; have a15 := i60; unfold In at a15; have a16 := t_add e60 ro_109_19 i47 rfl; omega) (by have a0 := h3; unfold In at a0; have a1 := h2; unfold In at a1; have a2 := h1; unfold In at a2; have a3 := ro_109_20; unfold In at a3; have a4 := ro_109_19; unfold In at a4; have a5 := i47; unfold In at a5; have a6 := i75; unfold In at a6; have a7 := i61; unfold In at a7; have a8 := i147; unfold In at a8; have a9 := t_add e147 i47 (in_c 1 rfl) rfl; have a10 := (in_c 1 rfl); unfold In at a10; have a11 := i88; unfold In at a11; have a12 := t_add e88 ro_109_19 i47 rfl; have a13 := i74; unfold In at a13; have a14 := t_add e74 ro_109_19 i47 rfl; have a15 := i60; unfold In at a15; have a16 := t_add e60 ro_109_19 i47 rfl; omega)), ← hFc42.1 112 rfl, ← e89]; exact c90))
          exact gg_w (by omega) (gg_f (gf_cons rfl (gf_cons rfl (gf_cons rfl (gf_cons rfl (gf_cons rfl gf_nil))))) (ih42 sc42 z147 hIc42 hFc42 (in_w 0 160 i147 rfl) n42 n42a (m_up mm42 (t_add e147 i47 (in_c 1 rfl) rfl) (in_w 1 1 (in_c 1 rfl) rfl))))
        · skip
          have i90 := z_ne 1 1 c90 i89 rfl
          refine g_iload 95 (gd rfl) rfl rfl ?_
          refine g_iload_n 96 (gd rfl) rfl rfl ?_
          refine g_cmp_eq 99 147 (gd rfl) rfl rfl (fun c96 => ?_) (fun c96 => ?_)
          · skip
            have i96 := r_eq2 0 159 c96 i47 h2 rfl
            refine g_iinc 150 (gd rfl) rfl rfl (Nat.le_of_ble_eq_true rfl) (fun z147 e147 => ?_)
            have i147 := in_add 1 160 e147 i47 (in_c 1 rfl) rfl rfl
            refine g_goto 42 (gd rfl) rfl ?_
            have n42 : ∀ j : Nat, ((j : Int) < (u_109_20).toInt ∧ (j : Int) ≠ (x3).toInt) → bt (sc42.1 129 j) j = true := by first | exact fun j hj => g3_0 j ⟨by have a0 := h3; unfold In at a0; have a1 := i96; unfold In at a1; have a2 := h1; unfold In at a2; have a3 := ro_109_20; unfold In at a3; have a4 := ro_109_19; unfold In at a4; have a5 := i47; unfold In at a5; have a6 := i75; unfold In at a6; have a7 := i61; unfold In at a7; have a8 := i147; unfold In at a8; have a9 := t_add e147 i47 (in_c 1 rfl) rfl; have a10 := (in_c 1 rfl); unfold In at a10; have a11 := i88; unfold In at a11; have a12 := t_add e88 ro_109_19 i47 rfl; have a13 := i74; unfold In at a13; have a14 := t_add e74 ro_109_19 i47 rfl; have a15 := i60; unfold In at a15; have a16 := t_add e60 ro_109_19 i47 rfl; omega, hj.2⟩ | exact g42_0 | (rw [sI_q, sI_q]; rw [sI_q] at e132; exact bo_up (bo_up g42_0 e118 e123) e132 e145)
            have n42a : (x1).toInt = 0 → (x2).toInt = -1 → (x3).toInt = -1 → RQ1 s (sc42.1 129) (z147).toNatClampNeg := by exact fun _ qb _ => (by exfalso; have h := c96; have a0 := h3; unfold In at a0; have a1 := i96; unfold In at a1; have a2 := h1; unfold In at a2; have a3 := ro_109_20; unfold In at a3; have a4 := ro_109_19; unfold In at a4; have a5 := i47; unfold In at a5; have a6 := i75; unfold In at a6; have a7 := i61; unfold In at a7; have a8 := i147; unfold In at a8; have a9 := t_add e147 i47 (in_c 1 rfl) rfl; have a10 := (in_c 1 rfl); unfold In at a10; have a11 := i88; unfold In at a11; have a12 := t_add e88 ro_109_19 i47 rfl; have a13 := i74; unfold In at a13; have a14 := t_add e74 ro_109_19 i47 rfl; have a15 := i60; unfold In at a15; have a16 := t_add e60 ro_109_19 i47 rfl; omega)
            exact gg_w (by omega) (gg_f (gf_cons rfl (gf_cons rfl (gf_cons rfl (gf_cons rfl (gf_cons rfl gf_nil))))) (ih42 sc42 z147 hIc42 hFc42 (in_w 0 160 i147 rfl) n42 n42a (m_up mm42 (t_add e147 i47 (in_c 1 rfl) rfl) (in_w 1 1 (in_c 1 rfl) rfl))))
          · skip
            refine g_iload 101 (gd rfl) rfl rfl ?_
            refine g_iload_n 102 (gd rfl) rfl rfl ?_
            refine g_cmp_eq 105 147 (gd rfl) rfl rfl (fun c102 => ?_) (fun c102 => ?_)
            · skip
              have i102 := r_eq2 0 31 c102 i61 h3 rfl
              refine g_iinc 150 (gd rfl) rfl rfl (Nat.le_of_ble_eq_true rfl) (fun z147 e147 => ?_)
              have i147 := in_add 1 160 e147 i47 (in_c 1 rfl) rfl rfl
              refine g_goto 42 (gd rfl) rfl ?_
              have n42 : ∀ j : Nat, ((j : Int) < (u_109_20).toInt ∧ (j : Int) ≠ (x3).toInt) → bt (sc42.1 129 j) j = true := by first | exact fun j hj => g3_0 j ⟨by have a0 := i102; unfold In at a0; have a1 := h2; unfold In at a1; have a2 := h1; unfold In at a2; have a3 := ro_109_20; unfold In at a3; have a4 := ro_109_19; unfold In at a4; have a5 := i47; unfold In at a5; have a6 := i75; unfold In at a6; have a7 := i61; unfold In at a7; have a8 := i147; unfold In at a8; have a9 := t_add e147 i47 (in_c 1 rfl) rfl; have a10 := (in_c 1 rfl); unfold In at a10; have a11 := i88; unfold In at a11; have a12 := t_add e88 ro_109_19 i47 rfl; have a13 := i74; unfold In at a13; have a14 := t_add e74 ro_109_19 i47 rfl; have a15 := i60; unfold In at a15; have a16 := t_add e60 ro_109_19 i47 rfl; omega, hj.2⟩ | exact g42_0 | (rw [sI_q, sI_q]; rw [sI_q] at e132; exact bo_up (bo_up g42_0 e118 e123) e132 e145)
              have n42a : (x1).toInt = 0 → (x2).toInt = -1 → (x3).toInt = -1 → RQ1 s (sc42.1 129) (z147).toNatClampNeg := by exact fun _ _ qc => (by exfalso; have h := c102; have a0 := i102; unfold In at a0; have a1 := h2; unfold In at a1; have a2 := h1; unfold In at a2; have a3 := ro_109_20; unfold In at a3; have a4 := ro_109_19; unfold In at a4; have a5 := i47; unfold In at a5; have a6 := i75; unfold In at a6; have a7 := i61; unfold In at a7; have a8 := i147; unfold In at a8; have a9 := t_add e147 i47 (in_c 1 rfl) rfl; have a10 := (in_c 1 rfl); unfold In at a10; have a11 := i88; unfold In at a11; have a12 := t_add e88 ro_109_19 i47 rfl; have a13 := i74; unfold In at a13; have a14 := t_add e74 ro_109_19 i47 rfl; have a15 := i60; unfold In at a15; have a16 := t_add e60 ro_109_19 i47 rfl; omega)
              exact gg_w (by omega) (gg_f (gf_cons rfl (gf_cons rfl (gf_cons rfl (gf_cons rfl (gf_cons rfl gf_nil))))) (ih42 sc42 z147 hIc42 hFc42 (in_w 0 160 i147 rfl) n42 n42a (m_up mm42 (t_add e147 i47 (in_c 1 rfl) rfl) (in_w 1 1 (in_c 1 rfl) rfl))))
            · skip
              refine g_iload 107 (gd rfl) rfl rfl ?_
              refine g_iload_n 108 (gd rfl) rfl rfl ?_
              refine g_cmp_eq 111 147 (gd rfl) rfl rfl (fun c108 => ?_) (fun c108 => ?_)
              · skip
                have i108 := r_eq2 0 31 c108 i75 h3 rfl
                refine g_iinc 150 (gd rfl) rfl rfl (Nat.le_of_ble_eq_true rfl) (fun z147 e147 => ?_)
                have i147 := in_add 1 160 e147 i47 (in_c 1 rfl) rfl rfl
                refine g_goto 42 (gd rfl) rfl ?_
                have n42 : ∀ j : Nat, ((j : Int) < (u_109_20).toInt ∧ (j : Int) ≠ (x3).toInt) → bt (sc42.1 129 j) j = true := by first | exact fun j hj => g3_0 j ⟨by have a0 := i108; unfold In at a0; have a1 := h2; unfold In at a1; have a2 := h1; unfold In at a2; have a3 := ro_109_20; unfold In at a3; have a4 := ro_109_19; unfold In at a4; have a5 := i47; unfold In at a5; have a6 := i75; unfold In at a6; have a7 := i61; unfold In at a7; have a8 := i147; unfold In at a8; have a9 := t_add e147 i47 (in_c 1 rfl) rfl; have a10 := (in_c 1 rfl); unfold In at a10; have a11 := i88; unfold In at a11; have a12 := t_add e88 ro_109_19 i47 rfl; have a13 := i74; unfold In at a13; have a14 := t_add e74 ro_109_19 i47 rfl; have a15 := i60; unfold In at a15; have a16 := t_add e60 ro_109_19 i47 rfl; omega, hj.2⟩ | exact g42_0 | (rw [sI_q, sI_q]; rw [sI_q] at e132; exact bo_up (bo_up g42_0 e118 e123) e132 e145)
                have n42a : (x1).toInt = 0 → (x2).toInt = -1 → (x3).toInt = -1 → RQ1 s (sc42.1 129) (z147).toNatClampNeg := by exact fun _ _ qc => (by exfalso; have h := c108; have a0 := i108; unfold In at a0; have a1 := h2; unfold In at a1; have a2 := h1; unfold In at a2; have a3 := ro_109_20; unfold In at a3; have a4 := ro_109_19; unfold In at a4; have a5 := i47; unfold In at a5; have a6 := i75; unfold In at a6; have a7 := i61; unfold In at a7; have a8 := i147; unfold In at a8; have a9 := t_add e147 i47 (in_c 1 rfl) rfl; have a10 := (in_c 1 rfl); unfold In at a10; have a11 := i88; unfold In at a11; have a12 := t_add e88 ro_109_19 i47 rfl; have a13 := i74; unfold In at a13; have a14 := t_add e74 ro_109_19 i47 rfl; have a15 := i60; unfold In at a15; have a16 := t_add e60 ro_109_19 i47 rfl; omega)
                exact gg_w (by omega) (gg_f (gf_cons rfl (gf_cons rfl (gf_cons rfl (gf_cons rfl (gf_cons rfl gf_nil))))) (ih42 sc42 z147 hIc42 hFc42 (in_w 0 160 i147 rfl) n42 n42a (m_up mm42 (t_add e147 i47 (in_c 1 rfl) rfl) (in_w 1 1 (in_c 1 rfl) rfl))))
              · skip
                refine g_aload_n 112 (gd rfl) rfl rfl ?_
                refine g_getA (q2 := 129) 115 (gd rfl) rfl rfl rfl rfl ?_
                refine g_iload 117 (gd rfl) rfl rfl ?_
                refine g_dup2 118 (gd rfl) rfl rfl rfl ?_
                refine g_iaload 119 (gd rfl) rfl (n := 32) rfl (in_ix i61 rfl) (fun z118 e118 => ?_)
                refine g_iconst 1 120 (gd rfl) rfl rfl ?_
                refine g_iload 122 (gd rfl) rfl rfl ?_
                refine g_ishl 123 (gd rfl) rfl (fun z122 e122 => ?_)
                refine g_ior 124 (gd rfl) rfl (fun z123 e123 => ?_)
                refine g_iastore 125 (gd rfl) rfl (n := 32) rfl (in_ix i61 rfl) ?_
                have hI124 := inv_sI (q := 129) (j := z61.toNatClampNeg) hIc42 rfl (in_w (-2147483648) 2147483647 (i_rng z123) rfl)
                refine g_aload_n 126 (gd rfl) rfl rfl ?_
                refine g_getA (q2 := 129) 129 (gd rfl) rfl rfl rfl rfl ?_
                refine g_iload 131 (gd rfl) rfl rfl ?_
                refine g_dup2 132 (gd rfl) rfl rfl rfl ?_
                refine g_iaload 133 (gd rfl) rfl (n := 32) rfl (in_ix i75 rfl) (fun z132 e132 => ?_)
                refine g_iload_n 134 (gd rfl) rfl rfl ?_
                refine g_if_eq 137 144 (gd rfl) rfl rfl (fun c134 => ?_) (fun c134 => ?_)
                · skip
                  have i134 := z_eq 0 0 c134 h1 rfl
                  refine g_iconst 0 145 (gd rfl) rfl rfl ?_
                  refine g_ior 146 (gd rfl) rfl (fun z145 e145 => ?_)
                  refine g_iastore 147 (gd rfl) rfl (n := 32) rfl (in_ix i75 rfl) ?_
                  have hI146 := inv_sI (q := 129) (j := z75.toNatClampNeg) hI124 rfl (in_w (-2147483648) 2147483647 (i_rng z145) rfl)
                  refine g_iinc 150 (gd rfl) rfl rfl (Nat.le_of_ble_eq_true rfl) (fun z147 e147 => ?_)
                  have i147 := in_add 1 160 e147 i47 (in_c 1 rfl) rfl rfl
                  refine g_goto 42 (gd rfl) rfl ?_
                  have n42 : ∀ j : Nat, ((j : Int) < (u_109_20).toInt ∧ (j : Int) ≠ (x3).toInt) → bt ((sI (sI sc42 129 z61.toNatClampNeg z123) 129 z75.toNatClampNeg z145).1 129 j) j = true := by first | exact fun j hj => g3_0 j ⟨by have a0 := h3; unfold In at a0; have a1 := h2; unfold In at a1; have a2 := i134; unfold In at a2; have a3 := ro_109_20; unfold In at a3; have a4 := ro_109_19; unfold In at a4; have a5 := i47; unfold In at a5; have a6 := i75; unfold In at a6; have a7 := i61; unfold In at a7; have a8 := i147; unfold In at a8; have a9 := t_add e147 i47 (in_c 1 rfl) rfl; have a10 := (in_c 1 rfl); unfold In at a10; have a11 := i88; unfold In at a11; have a12 := t_add e88 ro_109_19 i47 rfl; have a13 := i74; unfold In at a13; have a14 := t_add e74 ro_109_19 i47 rfl; have a15 := i60; unfold In at a15; have a16 := t_add e60 ro_109_19 i47 rfl; omega, hj.2⟩ | exact g42_0 | (rw [sI_q, sI_q]; rw [sI_q] at e132; exact bo_up (bo_up g42_0 e118 e123) e132 e145)
                  have n42a : (x1).toInt = 0 → (x2).toInt = -1 → (x3).toInt = -1 → RQ1 s ((sI (sI sc42 129 z61.toNatClampNeg z123) 129 z75.toNatClampNeg z145).1 129) (z147).toNatClampNeg := by exact fun qa qb qc => (by rw [show (z147).toNatClampNeg = y42_4.toNatClampNeg + 1 from (by show z147.toInt.toNat = y42_4.toInt.toNat + 1; have a0 := h3; unfold In at a0; have a1 := h2; unfold In at a1; have a2 := i134; unfold In at a2; have a3 := ro_109_20; unfold In at a3; have a4 := ro_109_19; unfold In at a4; have a5 := i47; unfold In at a5; have a6 := i75; unfold In at a6; have a7 := i61; unfold In at a7; have a8 := i147; unfold In at a8; have a9 := t_add e147 i47 (in_c 1 rfl) rfl; have a10 := (in_c 1 rfl); unfold In at a10; have a11 := i88; unfold In at a11; have a12 := t_add e88 ro_109_19 i47 rfl; have a13 := i74; unfold In at a13; have a14 := t_add e74 ro_109_19 i47 rfl; have a15 := i60; unfold In at a15; have a16 := t_add e60 ro_109_19 i47 rfl; omega), sI_q, sI_q]; exact rq1_st (g42_1 qa qb qc) (by show y42_4.toInt.toNat < 160; have a0 := h3; unfold In at a0; have a1 := h2; unfold In at a1; have a2 := i134; unfold In at a2; have a3 := ro_109_20; unfold In at a3; have a4 := ro_109_19; unfold In at a4; have a5 := i47; unfold In at a5; have a6 := i75; unfold In at a6; have a7 := i61; unfold In at a7; have a8 := i147; unfold In at a8; have a9 := t_add e147 i47 (in_c 1 rfl) rfl; have a10 := (in_c 1 rfl); unfold In at a10; have a11 := i88; unfold In at a11; have a12 := t_add e88 ro_109_19 i47 rfl; have a13 := i74; unfold In at a13; have a14 := t_add e74 ro_109_19 i47 rfl; have a15 := i60; unfold In at a15; have a16 := t_add e60 ro_109_19 i47 rfl; omega) (by rw [(bs_x (x := z88) (a := y42_4) e_109_19 (by have a0 := h3; unfold In at a0; have a1 := h2; unfold In at a1; have a2 := i134; unfold In at a2; have a3 := ro_109_20; unfold In at a3; have a4 := ro_109_19; unfold In at a4; have a5 := i47; unfold In at a5; have a6 := i75; unfold In at a6; have a7 := i61; unfold In at a7; have a8 := i147; unfold In at a8; have a9 := t_add e147 i47 (in_c 1 rfl) rfl; have a10 := (in_c 1 rfl); unfold In at a10; have a11 := i88; unfold In at a11; have a12 := t_add e88 ro_109_19 i47 rfl; have a13 := i74; unfold In at a13; have a14 := t_add e74 ro_109_19 i47 rfl; have a15 := i60; unfold In at a15; have a16 := t_add e60 ro_109_19 i47 rfl; omega) (by have a0 := h3; unfold In at a0; have a1 := h2; unfold In at a1; have a2 := i134; unfold In at a2; have a3 := ro_109_20; unfold In at a3; have a4 := ro_109_19; unfold In at a4; have a5 := i47; unfold In at a5; have a6 := i75; unfold In at a6; have a7 := i61; unfold In at a7; have a8 := i147; unfold In at a8; have a9 := t_add e147 i47 (in_c 1 rfl) rfl; have a10 := (in_c 1 rfl); unfold In at a10; have a11 := i88; unfold In at a11; have a12 := t_add e88 ro_109_19 i47 rfl; have a13 := i74; unfold In at a13; have a14 := t_add e74 ro_109_19 i47 rfl; have a15 := i60; unfold In at a15; have a16 := t_add e60 ro_109_19 i47 rfl; omega) (by have a0 := h3; unfold In at a0; have a1 := h2; unfold In at a1; have a2 := i134; unfold In at a2; have a3 := ro_109_20; unfold In at a3; have a4 := ro_109_19; unfold In at a4; have a5 := i47; unfold In at a5; have a6 := i75; unfold In at a6; have a7 := i61; unfold In at a7; have a8 := i147; unfold In at a8; have a9 := t_add e147 i47 (in_c 1 rfl) rfl; have a10 := (in_c 1 rfl); unfold In at a10; have a11 := i88; unfold In at a11; have a12 := t_add e88 ro_109_19 i47 rfl; have a13 := i74; unfold In at a13; have a14 := t_add e74 ro_109_19 i47 rfl; have a15 := i60; unfold In at a15; have a16 := t_add e60 ro_109_19 i47 rfl; omega)), ← hFc42.1 112 rfl, ← e89]; exact c90) (by rw [(bs_x (x := z60) (a := y42_4) e_109_19 (by have a0 := h3; unfold In at a0; have a1 := h2; unfold In at a1; have a2 := i134; unfold In at a2; have a3 := ro_109_20; unfold In at a3; have a4 := ro_109_19; unfold In at a4; have a5 := i47; unfold In at a5; have a6 := i75; unfold In at a6; have a7 := i61; unfold In at a7; have a8 := i147; unfold In at a8; have a9 := t_add e147 i47 (in_c 1 rfl) rfl; have a10 := (in_c 1 rfl); unfold In at a10; have a11 := i88; unfold In at a11; have a12 := t_add e88 ro_109_19 i47 rfl; have a13 := i74; unfold In at a13; have a14 := t_add e74 ro_109_19 i47 rfl; have a15 := i60; unfold In at a15; have a16 := t_add e60 ro_109_19 i47 rfl; omega) (by have a0 := h3; unfold In at a0; have a1 := h2; unfold In at a1; have a2 := i134; unfold In at a2; have a3 := ro_109_20; unfold In at a3; have a4 := ro_109_19; unfold In at a4; have a5 := i47; unfold In at a5; have a6 := i75; unfold In at a6; have a7 := i61; unfold In at a7; have a8 := i147; unfold In at a8; have a9 := t_add e147 i47 (in_c 1 rfl) rfl; have a10 := (in_c 1 rfl); unfold In at a10; have a11 := i88; unfold In at a11; have a12 := t_add e88 ro_109_19 i47 rfl; have a13 := i74; unfold In at a13; have a14 := t_add e74 ro_109_19 i47 rfl; have a15 := i60; unfold In at a15; have a16 := t_add e60 ro_109_19 i47 rfl; omega) (by have a0 := h3; unfold In at a0; have a1 := h2; unfold In at a1; have a2 := i134; unfold In at a2; have a3 := ro_109_20; unfold In at a3; have a4 := ro_109_19; unfold In at a4; have a5 := i47; unfold In at a5; have a6 := i75; unfold In at a6; have a7 := i61; unfold In at a7; have a8 := i147; unfold In at a8; have a9 := t_add e147 i47 (in_c 1 rfl) rfl; have a10 := (in_c 1 rfl); unfold In at a10; have a11 := i88; unfold In at a11; have a12 := t_add e88 ro_109_19 i47 rfl; have a13 := i74; unfold In at a13; have a14 := t_add e74 ro_109_19 i47 rfl; have a15 := i60; unfold In at a15; have a16 := t_add e60 ro_109_19 i47 rfl; omega)), ← hFc42.1 113 rfl]; exact e61) (by rw [(bs_x (x := z74) (a := y42_4) e_109_19 (by have a0 := h3; unfold In at a0; have a1 := h2; unfold In at a1; have a2 := i134; unfold In at a2; have a3 := ro_109_20; unfold In at a3; have a4 := ro_109_19; unfold In at a4; have a5 := i47; unfold In at a5; have a6 := i75; unfold In at a6; have a7 := i61; unfold In at a7; have a8 := i147; unfold In at a8; have a9 := t_add e147 i47 (in_c 1 rfl) rfl; have a10 := (in_c 1 rfl); unfold In at a10; have a11 := i88; unfold In at a11; have a12 := t_add e88 ro_109_19 i47 rfl; have a13 := i74; unfold In at a13; have a14 := t_add e74 ro_109_19 i47 rfl; have a15 := i60; unfold In at a15; have a16 := t_add e60 ro_109_19 i47 rfl; omega) (by have a0 := h3; unfold In at a0; have a1 := h2; unfold In at a1; have a2 := i134; unfold In at a2; have a3 := ro_109_20; unfold In at a3; have a4 := ro_109_19; unfold In at a4; have a5 := i47; unfold In at a5; have a6 := i75; unfold In at a6; have a7 := i61; unfold In at a7; have a8 := i147; unfold In at a8; have a9 := t_add e147 i47 (in_c 1 rfl) rfl; have a10 := (in_c 1 rfl); unfold In at a10; have a11 := i88; unfold In at a11; have a12 := t_add e88 ro_109_19 i47 rfl; have a13 := i74; unfold In at a13; have a14 := t_add e74 ro_109_19 i47 rfl; have a15 := i60; unfold In at a15; have a16 := t_add e60 ro_109_19 i47 rfl; omega) (by have a0 := h3; unfold In at a0; have a1 := h2; unfold In at a1; have a2 := i134; unfold In at a2; have a3 := ro_109_20; unfold In at a3; have a4 := ro_109_19; unfold In at a4; have a5 := i47; unfold In at a5; have a6 := i75; unfold In at a6; have a7 := i61; unfold In at a7; have a8 := i147; unfold In at a8; have a9 := t_add e147 i47 (in_c 1 rfl) rfl; have a10 := (in_c 1 rfl); unfold In at a10; have a11 := i88; unfold In at a11; have a12 := t_add e88 ro_109_19 i47 rfl; have a13 := i74; unfold In at a13; have a14 := t_add e74 ro_109_19 i47 rfl; have a15 := i60; unfold In at a15; have a16 := t_add e60 ro_109_19 i47 rfl; omega)), ← hFc42.1 114 rfl]; exact e75) i75 e118 e122 e123 (by rw [e132, sI_q]) e145)
                  exact gg_w (by omega) (gg_f (gf_cons rfl (gf_cons rfl (gf_cons rfl (gf_cons rfl (gf_cons rfl gf_nil))))) (ih42 (sI (sI sc42 129 z61.toNatClampNeg z123) 129 z75.toNatClampNeg z145) z147 hI146 (fr_sI rfl (fr_sI rfl hFc42)) (in_w 0 160 i147 rfl) n42 n42a (m_up mm42 (t_add e147 i47 (in_c 1 rfl) rfl) (in_w 1 1 (in_c 1 rfl) rfl))))
                · skip
                  have i134 := z_ne 1 1 c134 h1 rfl
                  refine g_iconst 1 138 (gd rfl) rfl rfl ?_
                  refine g_iload 140 (gd rfl) rfl rfl ?_
                  refine g_ishl 141 (gd rfl) rfl (fun z140 e140 => ?_)
                  refine g_goto 145 (gd rfl) rfl ?_
                  refine g_ior 146 (gd rfl) rfl (fun z145 e145 => ?_)
                  refine g_iastore 147 (gd rfl) rfl (n := 32) rfl (in_ix i75 rfl) ?_
                  have hI146 := inv_sI (q := 129) (j := z75.toNatClampNeg) hI124 rfl (in_w (-2147483648) 2147483647 (i_rng z145) rfl)
                  refine g_iinc 150 (gd rfl) rfl rfl (Nat.le_of_ble_eq_true rfl) (fun z147 e147 => ?_)
                  have i147 := in_add 1 160 e147 i47 (in_c 1 rfl) rfl rfl
                  refine g_goto 42 (gd rfl) rfl ?_
                  have n42 : ∀ j : Nat, ((j : Int) < (u_109_20).toInt ∧ (j : Int) ≠ (x3).toInt) → bt ((sI (sI sc42 129 z61.toNatClampNeg z123) 129 z75.toNatClampNeg z145).1 129 j) j = true := by first | exact fun j hj => g3_0 j ⟨by have a0 := h3; unfold In at a0; have a1 := h2; unfold In at a1; have a2 := i134; unfold In at a2; have a3 := ro_109_20; unfold In at a3; have a4 := ro_109_19; unfold In at a4; have a5 := i47; unfold In at a5; have a6 := i75; unfold In at a6; have a7 := i61; unfold In at a7; have a8 := i147; unfold In at a8; have a9 := t_add e147 i47 (in_c 1 rfl) rfl; have a10 := (in_c 1 rfl); unfold In at a10; have a11 := i88; unfold In at a11; have a12 := t_add e88 ro_109_19 i47 rfl; have a13 := i74; unfold In at a13; have a14 := t_add e74 ro_109_19 i47 rfl; have a15 := i60; unfold In at a15; have a16 := t_add e60 ro_109_19 i47 rfl; omega, hj.2⟩ | exact g42_0 | (rw [sI_q, sI_q]; rw [sI_q] at e132; exact bo_up (bo_up g42_0 e118 e123) e132 e145)
                  have n42a : (x1).toInt = 0 → (x2).toInt = -1 → (x3).toInt = -1 → RQ1 s ((sI (sI sc42 129 z61.toNatClampNeg z123) 129 z75.toNatClampNeg z145).1 129) (z147).toNatClampNeg := by exact fun qa _ _ => absurd qa c134
                  exact gg_w (by omega) (gg_f (gf_cons rfl (gf_cons rfl (gf_cons rfl (gf_cons rfl (gf_cons rfl gf_nil))))) (ih42 (sI (sI sc42 129 z61.toNatClampNeg z123) 129 z75.toNatClampNeg z145) z147 hI146 (fr_sI rfl (fr_sI rfl hFc42)) (in_w 0 160 i147 rfl) n42 n42a (m_up mm42 (t_add e147 i47 (in_c 1 rfl) rfl) (in_w 1 1 (in_c 1 rfl) rfl))))
  have ct3 : ∀ (k3 : Nat) (sc3 : GS) (y3_4 : Int32), Inv sc3 → Fr fm_310 s sc3 → (In y3_4 0 32) → (∀ j : Nat, ((j : Int) < (y3_4).toInt ∧ (j : Int) ≠ (x3).toInt) → bt (sc3.1 129 j) j = true) → (∀ j w : Nat, (j : Int) < (y3_4).toInt → bt (sc3.1 129 j) w = true → j = w) → 32 - (y3_4).toInt < (k3 : Int) → GG Z (d - 1) 310 post (gx xp) (1214136 + k3 * 900) 3 (fun j => xlook j [(0, .ref (A 109)), (1, .int x1), (2, .int x2), (3, .int x3), (4, .int y3_4)]) [] (WW Z A sc3 ++ ex) 0 0 := by
    intro k3
    induction k3 with
    | zero => intro sc3 y3_4 hIc3 hFc3 j3_4 g3_0 g3_1 mm3; exact m_no mm3 j3_4 rfl
    | succ k3 ih3 =>
      intro sc3 y3_4 hIc3 hFc3 j3_4 g3_0 g3_1 mm3
      refine gg_w (M := 1214136 + k3 * 900 + 900) (by omega) ?_
      refine g_iload 5 (gd rfl) rfl rfl ?_
      refine g_aload_n 6 (gd rfl) rfl rfl ?_
      refine g_getI 9 (gd rfl) rfl rfl rfl (fun z6 e6 => ?_)
      have q6 : u_109_20 = z6 := (fr_F e_109_20 hFc3 rfl).trans e6.symm
      subst q6
      refine g_cmp_ge 12 39 (gd rfl) rfl rfl (fun c9 => ?_) (fun c9 => ?_)
      · skip
        refine g_iconst 0 40 (gd rfl) rfl rfl ?_
        refine g_istore 42 (gd rfl) rfl (Nat.le_of_ble_eq_true rfl) ?_
        have n42 : ∀ j : Nat, ((j : Int) < (u_109_20).toInt ∧ (j : Int) ≠ (x3).toInt) → bt (sc3.1 129 j) j = true := by first | exact fun j hj => g3_0 j ⟨by have a0 := h3; unfold In at a0; have a1 := h2; unfold In at a1; have a2 := h1; unfold In at a2; have a3 := ro_109_20; unfold In at a3; have a4 := ro_109_19; unfold In at a4; have a5 := j3_4; unfold In at a5; have a6 := (in_c 0 rfl); unfold In at a6; omega, hj.2⟩ | exact g42_0 | (rw [sI_q, sI_q]; rw [sI_q] at e132; exact bo_up (bo_up g42_0 e118 e123) e132 e145)
        have n42a : (x1).toInt = 0 → (x2).toInt = -1 → (x3).toInt = -1 → RQ1 s (sc3.1 129) ((Int32.ofInt 0)).toNatClampNeg := by exact fun _ _ _ => rq1_0 (fun u w hu hb => g3_1 u w (by unfold nmx at hu; rw [← e_109_20] at hu; have a0 := h3; unfold In at a0; have a1 := h2; unfold In at a1; have a2 := h1; unfold In at a2; have a3 := ro_109_20; unfold In at a3; have a4 := ro_109_19; unfold In at a4; have a5 := j3_4; unfold In at a5; have a6 := (in_c 0 rfl); unfold In at a6; omega) hb)
        exact gg_w (by omega) (gg_f (gf_cons rfl (gf_cons rfl (gf_cons rfl (gf_cons rfl (gf_cons rfl gf_nil))))) (ct42 161 sc3 (Int32.ofInt 0) hIc3 hFc3 (in_w 0 160 (in_c 0 rfl) rfl) n42 n42a (m_in 161 (in_w 0 160 (in_c 0 rfl) rfl) rfl)))
      · skip
        have i9 := r_lt1 0 31 c9 j3_4 ro_109_20 rfl
        have i9a := r_lt2 1 32 c9 j3_4 ro_109_20 rfl
        refine g_aload_n 13 (gd rfl) rfl rfl ?_
        refine g_getA (q2 := 129) 16 (gd rfl) rfl rfl rfl rfl ?_
        refine g_iload 18 (gd rfl) rfl rfl ?_
        refine g_iload 20 (gd rfl) rfl rfl ?_
        refine g_iload_n 21 (gd rfl) rfl rfl ?_
        refine g_cmp_ne 24 28 (gd rfl) rfl rfl (fun c21 => ?_) (fun c21 => ?_)
        · skip
          refine g_iconst 1 29 (gd rfl) rfl rfl ?_
          refine g_iload 31 (gd rfl) rfl rfl ?_
          refine g_ishl 32 (gd rfl) rfl (fun z31 e31 => ?_)
          refine g_iastore 33 (gd rfl) rfl (n := 32) rfl (in_ix i9 rfl) ?_
          have hI32 := inv_sI (q := 129) (j := y3_4.toNatClampNeg) hIc3 rfl (in_w (-2147483648) 2147483647 (i_rng z31) rfl)
          refine g_iinc 36 (gd rfl) rfl rfl (Nat.le_of_ble_eq_true rfl) (fun z33 e33 => ?_)
          have i33 := in_add 1 32 e33 i9 (in_c 1 rfl) rfl rfl
          refine g_goto 3 (gd rfl) rfl ?_
          have n3 : ∀ j : Nat, ((j : Int) < (z33).toInt ∧ (j : Int) ≠ (x3).toInt) → bt ((sI sc3 129 y3_4.toNatClampNeg z31).1 129 j) j = true := by first | (intro j hj; exfalso; have h0 : (Int32.ofInt 0).toInt = 0 := rfl; omega) | (rw [sI_q]; refine pt_up (P := fun j v => bt v j = true) (fun hD => ?_) (fun j hne hD => g3_0 j ⟨by have e4 : y3_4.toNatClampNeg = y3_4.toInt.toNat := rfl; have a0 := h3; unfold In at a0; have a1 := h2; unfold In at a1; have a2 := h1; unfold In at a2; have a3 := i9a; unfold In at a3; have a4 := ro_109_19; unfold In at a4; have a5 := i9; unfold In at a5; have a6 := i33; unfold In at a6; have a7 := t_add e33 i9 (in_c 1 rfl) rfl; have a8 := (in_c 1 rfl); unfold In at a8; omega, hD.2⟩); first | (rw [bt_one e31 i9]; simp) | (exfalso; apply hD.2; have e4 : y3_4.toNatClampNeg = y3_4.toInt.toNat := rfl; have a0 := h3; unfold In at a0; have a1 := h2; unfold In at a1; have a2 := h1; unfold In at a2; have a3 := i9a; unfold In at a3; have a4 := ro_109_19; unfold In at a4; have a5 := i9; unfold In at a5; have a6 := i33; unfold In at a6; have a7 := t_add e33 i9 (in_c 1 rfl) rfl; have a8 := (in_c 1 rfl); unfold In at a8; omega))
          have n3a : ∀ j w : Nat, (j : Int) < (z33).toInt → bt ((sI sc3 129 y3_4.toNatClampNeg z31).1 129 j) w = true → j = w := by (intro j w hj hb; rw [sI_q] at hb; have e4 : y3_4.toNatClampNeg = y3_4.toInt.toNat := rfl; by_cases c : j = y3_4.toNatClampNeg; (rw [c, up_e, bt_one e31 i9] at hb; rw [c]; exact (of_decide_eq_true hb).symm); (rw [up_n c] at hb; exact g3_1 j w (by have a0 := h3; unfold In at a0; have a1 := h2; unfold In at a1; have a2 := h1; unfold In at a2; have a3 := i9a; unfold In at a3; have a4 := ro_109_19; unfold In at a4; have a5 := i9; unfold In at a5; have a6 := i33; unfold In at a6; have a7 := t_add e33 i9 (in_c 1 rfl) rfl; have a8 := (in_c 1 rfl); unfold In at a8; omega) hb))
          exact gg_w (by omega) (gg_f (gf_cons rfl (gf_cons rfl (gf_cons rfl (gf_cons rfl (gf_cons rfl gf_nil))))) (ih3 (sI sc3 129 y3_4.toNatClampNeg z31) z33 hI32 (fr_sI rfl hFc3) (in_w 0 32 i33 rfl) n3 n3a (m_up mm3 (t_add e33 i9 (in_c 1 rfl) rfl) (in_w 1 1 (in_c 1 rfl) rfl))))
        · skip
          have i21 := r_eq2 0 31 c21 i9 h3 rfl
          refine g_iconst 0 25 (gd rfl) rfl rfl ?_
          refine g_goto 32 (gd rfl) rfl ?_
          refine g_iastore 33 (gd rfl) rfl (n := 32) rfl (in_ix i9 rfl) ?_
          have hI32 := inv_sI (q := 129) (j := y3_4.toNatClampNeg) hIc3 rfl (in_w (-2147483648) 2147483647 (in_c 0 rfl) rfl)
          refine g_iinc 36 (gd rfl) rfl rfl (Nat.le_of_ble_eq_true rfl) (fun z33 e33 => ?_)
          have i33 := in_add 1 32 e33 i9 (in_c 1 rfl) rfl rfl
          refine g_goto 3 (gd rfl) rfl ?_
          have n3 : ∀ j : Nat, ((j : Int) < (z33).toInt ∧ (j : Int) ≠ (x3).toInt) → bt ((sI sc3 129 y3_4.toNatClampNeg (Int32.ofInt 0)).1 129 j) j = true := by first | (intro j hj; exfalso; have h0 : (Int32.ofInt 0).toInt = 0 := rfl; omega) | (rw [sI_q]; refine pt_up (P := fun j v => bt v j = true) (fun hD => ?_) (fun j hne hD => g3_0 j ⟨by have e4 : y3_4.toNatClampNeg = y3_4.toInt.toNat := rfl; have a0 := i21; unfold In at a0; have a1 := h2; unfold In at a1; have a2 := h1; unfold In at a2; have a3 := i9a; unfold In at a3; have a4 := ro_109_19; unfold In at a4; have a5 := i9; unfold In at a5; have a6 := i33; unfold In at a6; have a7 := t_add e33 i9 (in_c 1 rfl) rfl; have a8 := (in_c 1 rfl); unfold In at a8; omega, hD.2⟩); first | (rw [bt_one e31 i9]; simp) | (exfalso; apply hD.2; have e4 : y3_4.toNatClampNeg = y3_4.toInt.toNat := rfl; have a0 := i21; unfold In at a0; have a1 := h2; unfold In at a1; have a2 := h1; unfold In at a2; have a3 := i9a; unfold In at a3; have a4 := ro_109_19; unfold In at a4; have a5 := i9; unfold In at a5; have a6 := i33; unfold In at a6; have a7 := t_add e33 i9 (in_c 1 rfl) rfl; have a8 := (in_c 1 rfl); unfold In at a8; omega))
          have n3a : ∀ j w : Nat, (j : Int) < (z33).toInt → bt ((sI sc3 129 y3_4.toNatClampNeg (Int32.ofInt 0)).1 129 j) w = true → j = w := by (intro j w hj hb; rw [sI_q] at hb; have e4 : y3_4.toNatClampNeg = y3_4.toInt.toNat := rfl; by_cases c : j = y3_4.toNatClampNeg; (rw [c, up_e, show (Int32.ofInt 0) = (0 : Int32) from rfl, bt_z] at hb; cases hb); (rw [up_n c] at hb; exact g3_1 j w (by have a0 := i21; unfold In at a0; have a1 := h2; unfold In at a1; have a2 := h1; unfold In at a2; have a3 := i9a; unfold In at a3; have a4 := ro_109_19; unfold In at a4; have a5 := i9; unfold In at a5; have a6 := i33; unfold In at a6; have a7 := t_add e33 i9 (in_c 1 rfl) rfl; have a8 := (in_c 1 rfl); unfold In at a8; omega) hb))
          exact gg_w (by omega) (gg_f (gf_cons rfl (gf_cons rfl (gf_cons rfl (gf_cons rfl (gf_cons rfl gf_nil))))) (ih3 (sI sc3 129 y3_4.toNatClampNeg (Int32.ofInt 0)) z33 hI32 (fr_sI rfl hFc3) (in_w 0 32 i33 rfl) n3 n3a (m_up mm3 (t_add e33 i9 (in_c 1 rfl) rfl) (in_w 1 1 (in_c 1 rfl) rfl))))
  refine g_enter2 (k := 310) (N := 1244736) (by omega) rfl (Nat.le_of_ble_eq_true rfl) ?_
  refine g_iconst 0 1 (gd rfl) rfl rfl ?_
  refine g_istore 3 (gd rfl) rfl (Nat.le_of_ble_eq_true rfl) ?_
  have n3 : ∀ j : Nat, ((j : Int) < ((Int32.ofInt 0)).toInt ∧ (j : Int) ≠ (x3).toInt) → bt (s.1 129 j) j = true := by first | (intro j hj; exfalso; have h0 : (Int32.ofInt 0).toInt = 0 := rfl; omega) | (rw [sI_q]; refine pt_up (P := fun j v => bt v j = true) (fun hD => ?_) (fun j hne hD => g3_0 j ⟨by have e4 : y3_4.toNatClampNeg = y3_4.toInt.toNat := rfl; have a0 := ro_109_20; unfold In at a0; have a1 := ro_109_19; unfold In at a1; have a2 := h3; unfold In at a2; have a3 := h2; unfold In at a3; have a4 := h1; unfold In at a4; have a5 := (in_c 0 rfl); unfold In at a5; omega, hD.2⟩); first | (rw [bt_one e31 i9]; simp) | (exfalso; apply hD.2; have e4 : y3_4.toNatClampNeg = y3_4.toInt.toNat := rfl; have a0 := ro_109_20; unfold In at a0; have a1 := ro_109_19; unfold In at a1; have a2 := h3; unfold In at a2; have a3 := h2; unfold In at a3; have a4 := h1; unfold In at a4; have a5 := (in_c 0 rfl); unfold In at a5; omega))
  have n3a : ∀ j w : Nat, (j : Int) < ((Int32.ofInt 0)).toInt → bt (s.1 129 j) w = true → j = w := by (intro j w hj hb; exfalso; have h0 : (Int32.ofInt 0).toInt = 0 := rfl; omega)
  exact gg_w (by omega) (gg_f (gf_cons rfl (gf_cons rfl (gf_cons rfl (gf_cons rfl (gf_cons rfl gf_nil))))) (ct3 33 s (Int32.ofInt 0) hI fr_rf (in_w 0 32 (in_c 0 rfl) rfl) n3 n3a (m_in 33 (in_w 0 32 (in_c 0 rfl) rfl) rfl)))

def fm_313 : FM := ([131], [], [], [])
/-- GraphHouseModel.fewest -/
theorem k_313 {Z : AmZ} {A : Nat → Nat} {s : GS} {ex : va_W} {d : Nat} {X : AmX} {x1 : Int32} {x2 : Int32} (hd : 3 ≤ d) (hI : Inv s) (h1 : In x1 0 31) (q_0 : FWP s (x1).toNatClampNeg (x2)) : GC Z d 313 [.ref (A 109), .int x1, .int x2] (WW Z A s ++ ex) 0 0 (fun v u => ∃ t : GS, Inv t ∧ Fr fm_313 s t ∧ v = none ∧ u = WW Z A t ++ ex ∧ (WFN t (x1).toNatClampNeg (x2))) X := by
  intro post xp hP hX
  obtain ⟨u_109_19, e_109_19⟩ : ∃ w, w = s.2.2.1 109 19 := ⟨_, rfl⟩
  have ro_109_19 := inv_F hI 0 160 rfl e_109_19
  obtain ⟨u_109_20, e_109_20⟩ : ∃ w, w = s.2.2.1 109 20 := ⟨_, rfl⟩
  have ro_109_20 := inv_F hI 0 32 rfl e_109_20
  have ct36 : ∀ (k36 : Nat) (sc36 : GS) (y36_3 : Int32), Inv sc36 → Fr fm_313 s sc36 → (In y36_3 0 32) → (FQ s (x1).toNatClampNeg (x2) (sc36.1 131) (y36_3).toNatClampNeg) → 32 - (y36_3).toInt < (k36 : Int) → GG Z (d - 1) 313 post (gx xp) (1 + k36 * 363601) 36 (fun j => xlook j [(0, .ref (A 109)), (1, .int x1), (2, .int x2), (3, .int y36_3)]) [] (WW Z A sc36 ++ ex) 0 0 := by
    intro k36
    induction k36 with
    | zero => intro sc36 y36_3 hIc36 hFc36 j36_3 g36_0 mm36; exact m_no mm36 j36_3 rfl
    | succ k36 ih36 =>
      intro sc36 y36_3 hIc36 hFc36 j36_3 g36_0 mm36
      refine gg_w (M := 1 + k36 * 363601 + 363601) (by omega) ?_
      have ct50 : ∀ (k50 : Nat) (sc50 : GS) (y50_4 : Int32), Inv sc50 → Fr fm_313 s sc50 → (In y36_3 0 31) → (In y50_4 0 400) → ((u_109_19).toInt ≤ (y50_4).toInt) → ((y50_4).toInt ≤ (u_109_19).toInt + 160) → (FQI s (x1).toNatClampNeg (x2) (sc50.1 131) (y36_3).toNatClampNeg ((y50_4).toInt - u_109_19.toInt).toNat) → 400 - (y50_4).toInt < (k50 : Int) → GG Z (d - 1) 313 post (gx xp) (1 + k36 * 363601 + 1 + k50 * 900) 50 (fun j => xlook j [(0, .ref (A 109)), (1, .int x1), (2, .int x2), (3, .int y36_3), (4, .int y50_4)]) [] (WW Z A sc50 ++ ex) 0 0 := by
        intro k50
        induction k50 with
        | zero => intro sc50 y50_4 hIc50 hFc50 j50_3 j50_4 n50_0 n50_1 g50_0 mm50; exact m_no mm50 j50_4 rfl
        | succ k50 ih50 =>
          intro sc50 y50_4 hIc50 hFc50 j50_3 j50_4 n50_0 n50_1 g50_0 mm50
          refine gg_w (M := 1 + k36 * 363601 + 1 + k50 * 900 + 900) (by omega) ?_
          refine g_iload 52 (gd rfl) rfl rfl ?_
          refine g_aload_n 53 (gd rfl) rfl rfl ?_
          refine g_getI 56 (gd rfl) rfl rfl rfl (fun z53 e53 => ?_)
          have q53 : u_109_19 = z53 := (fr_F e_109_19 hFc50 rfl).trans e53.symm
          subst q53
          refine g_sipush 160 59 (gd rfl) rfl rfl ?_
          refine g_iadd 60 (gd rfl) rfl (fun z59 e59 => ?_)
          have i59 := in_add 160 320 e59 ro_109_19 (in_c 160 rfl) rfl rfl
          refine g_cmp_ge 63 225 (gd rfl) rfl rfl (fun c60 => ?_) (fun c60 => ?_)
          · skip
            have i60 := r_le2 160 400 c60 i59 j50_4 rfl
            refine g_iinc 228 (gd rfl) rfl rfl (Nat.le_of_ble_eq_true rfl) (fun z225 e225 => ?_)
            have i225 := in_add 1 32 e225 j50_3 (in_c 1 rfl) rfl rfl
            refine g_goto 36 (gd rfl) rfl ?_
            have n36 : FQ s (x1).toNatClampNeg (x2) (sc50.1 131) (z225).toNatClampNeg := by rw [show (z225).toNatClampNeg = y36_3.toNatClampNeg + 1 from (by show z225.toInt.toNat = y36_3.toInt.toNat + 1; have a0 := j50_3; unfold In at a0; have a1 := h1; unfold In at a1; have a2 := ro_109_20; unfold In at a2; have a3 := ro_109_19; unfold In at a3; have a4 := i60; unfold In at a4; have a5 := i225; unfold In at a5; have a6 := t_add e225 j50_3 (in_c 1 rfl) rfl; have a7 := (in_c 1 rfl); unfold In at a7; have a8 := i59; unfold In at a8; have a9 := t_add e59 ro_109_19 (in_c 160 rfl) rfl; have a10 := (in_c 160 rfl); unfold In at a10; omega)]; exact fq_r (by have h := g50_0; rw [show ((y50_4).toInt - u_109_19.toInt).toNat = 160 from (by have a0 := j50_3; unfold In at a0; have a1 := h1; unfold In at a1; have a2 := ro_109_20; unfold In at a2; have a3 := ro_109_19; unfold In at a3; have a4 := i60; unfold In at a4; have a5 := i225; unfold In at a5; have a6 := t_add e225 j50_3 (in_c 1 rfl) rfl; have a7 := (in_c 1 rfl); unfold In at a7; have a8 := i59; unfold In at a8; have a9 := t_add e59 ro_109_19 (in_c 160 rfl) rfl; have a10 := (in_c 160 rfl); unfold In at a10; omega)] at h; exact h)
            exact gg_w (by omega) (gg_f (gf_cons rfl (gf_cons rfl (gf_cons rfl (gf_cons rfl gf_nil)))) (ih36 sc50 z225 hIc50 hFc50 (in_w 0 32 i225 rfl) n36 (m_up mm36 (t_add e225 j50_3 (in_c 1 rfl) rfl) (in_w 1 1 (in_c 1 rfl) rfl))))
          · skip
            have i60 := r_lt1 0 319 c60 j50_4 i59 rfl
            refine g_aload_n 64 (gd rfl) rfl rfl ?_
            refine g_getA (q2 := 112) 67 (gd rfl) rfl rfl rfl rfl ?_
            refine g_iload 69 (gd rfl) rfl rfl ?_
            refine g_baload 70 (gd rfl) rfl (n := 480) rfl (in_ix i60 rfl) (fun z69 e69 => ?_)
            have i69 := inv_I hIc50 (n := 480) (t := 3) 0 1 rfl (in_ix i60 rfl) rfl e69
            refine g_if_eq 73 219 (gd rfl) rfl rfl (fun c70 => ?_) (fun c70 => ?_)
            · skip
              have i70 := z_eq 0 0 c70 i69 rfl
              refine g_iinc 222 (gd rfl) rfl rfl (Nat.le_of_ble_eq_true rfl) (fun z219 e219 => ?_)
              have i219 := in_add 1 320 e219 i60 (in_c 1 rfl) rfl rfl
              refine g_goto 50 (gd rfl) rfl ?_
              have n50 : (u_109_19).toInt ≤ (z219).toInt := by have a0 := j50_3; unfold In at a0; have a1 := h1; unfold In at a1; have a2 := ro_109_20; unfold In at a2; have a3 := ro_109_19; unfold In at a3; have a4 := i60; unfold In at a4; have a5 := i219; unfold In at a5; have a6 := t_add e219 i60 (in_c 1 rfl) rfl; have a7 := (in_c 1 rfl); unfold In at a7; have a8 := i59; unfold In at a8; have a9 := t_add e59 ro_109_19 (in_c 160 rfl) rfl; have a10 := (in_c 160 rfl); unfold In at a10; omega
              have n50a : (z219).toInt ≤ (u_109_19).toInt + 160 := by have a0 := j50_3; unfold In at a0; have a1 := h1; unfold In at a1; have a2 := ro_109_20; unfold In at a2; have a3 := ro_109_19; unfold In at a3; have a4 := i60; unfold In at a4; have a5 := i219; unfold In at a5; have a6 := t_add e219 i60 (in_c 1 rfl) rfl; have a7 := (in_c 1 rfl); unfold In at a7; have a8 := i59; unfold In at a8; have a9 := t_add e59 ro_109_19 (in_c 160 rfl) rfl; have a10 := (in_c 160 rfl); unfold In at a10; omega
              have n50b : FQI s (x1).toNatClampNeg (x2) (sc50.1 131) (y36_3).toNatClampNeg ((z219).toInt - u_109_19.toInt).toNat := by rw [show ((z219).toInt - u_109_19.toInt).toNat = ((y50_4).toInt - u_109_19.toInt).toNat + 1 from (by have a0 := j50_3; unfold In at a0; have a1 := h1; unfold In at a1; have a2 := ro_109_20; unfold In at a2; have a3 := ro_109_19; unfold In at a3; have a4 := i60; unfold In at a4; have a5 := i219; unfold In at a5; have a6 := t_add e219 i60 (in_c 1 rfl) rfl; have a7 := (in_c 1 rfl); unfold In at a7; have a8 := i59; unfold In at a8; have a9 := t_add e59 ro_109_19 (in_c 160 rfl) rfl; have a10 := (in_c 160 rfl); unfold In at a10; omega)]; exact fqi_no g50_0 (fun t1 t2 t3 t4 t5 => by exfalso; rw [(ix_k (y := y50_4) e_109_19 (by have a0 := j50_3; unfold In at a0; have a1 := h1; unfold In at a1; have a2 := ro_109_20; unfold In at a2; have a3 := ro_109_19; unfold In at a3; have a4 := i60; unfold In at a4; have a5 := i219; unfold In at a5; have a6 := t_add e219 i60 (in_c 1 rfl) rfl; have a7 := (in_c 1 rfl); unfold In at a7; have a8 := i59; unfold In at a8; have a9 := t_add e59 ro_109_19 (in_c 160 rfl) rfl; have a10 := (in_c 160 rfl); unfold In at a10; omega) (by have a0 := j50_3; unfold In at a0; have a1 := h1; unfold In at a1; have a2 := ro_109_20; unfold In at a2; have a3 := ro_109_19; unfold In at a3; have a4 := i60; unfold In at a4; have a5 := i219; unfold In at a5; have a6 := t_add e219 i60 (in_c 1 rfl) rfl; have a7 := (in_c 1 rfl); unfold In at a7; have a8 := i59; unfold In at a8; have a9 := t_add e59 ro_109_19 (in_c 160 rfl) rfl; have a10 := (in_c 160 rfl); unfold In at a10; omega)), ← hFc50.1 112 rfl, ← e69] at t1; exact t1 c70)
              exact gg_w (by omega) (gg_f (gf_cons rfl (gf_cons rfl (gf_cons rfl (gf_cons rfl (gf_cons rfl gf_nil))))) (ih50 sc50 z219 hIc50 hFc50 (in_w 0 31 j50_3 rfl) (in_w 0 400 i219 rfl) n50 n50a n50b (m_up mm50 (t_add e219 i60 (in_c 1 rfl) rfl) (in_w 1 1 (in_c 1 rfl) rfl))))
            · skip
              have i70 := z_ne 1 1 c70 i69 rfl
              refine g_iload_n 74 (gd rfl) rfl rfl ?_
              refine g_aload_n 75 (gd rfl) rfl rfl ?_
              refine g_getA (q2 := 113) 78 (gd rfl) rfl rfl rfl rfl ?_
              refine g_iload 80 (gd rfl) rfl rfl ?_
              refine g_iaload 81 (gd rfl) rfl (n := 480) rfl (in_ix i60 rfl) (fun z80 e80 => ?_)
              have i80 := inv_I hIc50 (n := 480) (t := 0) 0 31 rfl (in_ix i60 rfl) rfl e80
              refine g_calls (As := [.int x2, .int z80]) (r := []) 84 (gd rfl) rfl rfl rfl rfl rfl (Nat.le_of_ble_eq_true rfl) (mc := 0) (ms := 0) (Nat.zero_le _) (Nat.zero_le _) (P := fun v u => _) ?_ (fun v u h => h)
              intro po81 xx81 hp81 hx81
              refine g_enter2 (k := 311) (N := 300) (by omega) rfl (Nat.le_of_ble_eq_true rfl) ?_
              refine g_iload_n 1 (gd rfl) rfl rfl ?_
              refine g_iload_n 2 (gd rfl) rfl rfl ?_
              refine g_ishr 3 (gd rfl) rfl (fun z81x2 e81x2 => ?_)
              refine g_iconst 1 4 (gd rfl) rfl rfl ?_
              refine g_iand 5 (gd rfl) rfl (fun z81x4 e81x4 => ?_)
              have i81x4 := in_and2 e81x4 (in_c 1 rfl) rfl
              refine g_iconst 1 6 (gd rfl) rfl rfl ?_
              refine g_cmp_ne 9 13 (gd rfl) rfl rfl (fun c81x6 => ?_) (fun c81x6 => ?_)
              · skip
                have i81x6 := r_ne1 0 0 c81x6 i81x4 (in_c 1 rfl) rfl
                refine g_iconst 0 14 (gd rfl) rfl rfl ?_
                refine g_ireturn (gd rfl) rfl (nb01 (in_w 0 1 (in_c 0 rfl) rfl)) (hp81 _ _ ?_)
                show GG _ _ _ _ _ _ _ _ [.int (Int32.ofInt 0)] _ _ _
                refine g_if_eq 87 219 (gd rfl) rfl rfl (fun c84 => ?_) (fun c84 => ?_)
                · skip
                  refine g_iinc 222 (gd rfl) rfl rfl (Nat.le_of_ble_eq_true rfl) (fun z219 e219 => ?_)
                  have i219 := in_add 1 320 e219 i60 (in_c 1 rfl) rfl rfl
                  refine g_goto 50 (gd rfl) rfl ?_
                  have n50 : (u_109_19).toInt ≤ (z219).toInt := by have a0 := j50_3; unfold In at a0; have a1 := h1; unfold In at a1; have a2 := ro_109_20; unfold In at a2; have a3 := ro_109_19; unfold In at a3; have a4 := i60; unfold In at a4; have a5 := i219; unfold In at a5; have a6 := t_add e219 i60 (in_c 1 rfl) rfl; have a7 := (in_c 1 rfl); unfold In at a7; have a8 := i59; unfold In at a8; have a9 := t_add e59 ro_109_19 (in_c 160 rfl) rfl; have a10 := (in_c 160 rfl); unfold In at a10; omega
                  have n50a : (z219).toInt ≤ (u_109_19).toInt + 160 := by have a0 := j50_3; unfold In at a0; have a1 := h1; unfold In at a1; have a2 := ro_109_20; unfold In at a2; have a3 := ro_109_19; unfold In at a3; have a4 := i60; unfold In at a4; have a5 := i219; unfold In at a5; have a6 := t_add e219 i60 (in_c 1 rfl) rfl; have a7 := (in_c 1 rfl); unfold In at a7; have a8 := i59; unfold In at a8; have a9 := t_add e59 ro_109_19 (in_c 160 rfl) rfl; have a10 := (in_c 160 rfl); unfold In at a10; omega
                  have n50b : FQI s (x1).toNatClampNeg (x2) (sc50.1 131) (y36_3).toNatClampNeg ((z219).toInt - u_109_19.toInt).toNat := by rw [show ((z219).toInt - u_109_19.toInt).toNat = ((y50_4).toInt - u_109_19.toInt).toNat + 1 from (by have a0 := j50_3; unfold In at a0; have a1 := h1; unfold In at a1; have a2 := ro_109_20; unfold In at a2; have a3 := ro_109_19; unfold In at a3; have a4 := i60; unfold In at a4; have a5 := i219; unfold In at a5; have a6 := t_add e219 i60 (in_c 1 rfl) rfl; have a7 := (in_c 1 rfl); unfold In at a7; have a8 := i59; unfold In at a8; have a9 := t_add e59 ro_109_19 (in_c 160 rfl) rfl; have a10 := (in_c 160 rfl); unfold In at a10; omega)]; exact fqi_no g50_0 (fun t1 t2 t3 t4 t5 => by exfalso; have hb := bt_no e81x2 e81x4 i80 c81x6; rw [(ix_k (y := y50_4) e_109_19 (by have a0 := j50_3; unfold In at a0; have a1 := h1; unfold In at a1; have a2 := ro_109_20; unfold In at a2; have a3 := ro_109_19; unfold In at a3; have a4 := i60; unfold In at a4; have a5 := i219; unfold In at a5; have a6 := t_add e219 i60 (in_c 1 rfl) rfl; have a7 := (in_c 1 rfl); unfold In at a7; have a8 := i59; unfold In at a8; have a9 := t_add e59 ro_109_19 (in_c 160 rfl) rfl; have a10 := (in_c 160 rfl); unfold In at a10; omega) (by have a0 := j50_3; unfold In at a0; have a1 := h1; unfold In at a1; have a2 := ro_109_20; unfold In at a2; have a3 := ro_109_19; unfold In at a3; have a4 := i60; unfold In at a4; have a5 := i219; unfold In at a5; have a6 := t_add e219 i60 (in_c 1 rfl) rfl; have a7 := (in_c 1 rfl); unfold In at a7; have a8 := i59; unfold In at a8; have a9 := t_add e59 ro_109_19 (in_c 160 rfl) rfl; have a10 := (in_c 160 rfl); unfold In at a10; omega)), ← hFc50.1 113 rfl, ← e80, hb] at t2; cases t2)
                  exact gg_w (by omega) (gg_f (gf_cons rfl (gf_cons rfl (gf_cons rfl (gf_cons rfl (gf_cons rfl gf_nil))))) (ih50 sc50 z219 hIc50 hFc50 (in_w 0 31 j50_3 rfl) (in_w 0 400 i219 rfl) n50 n50a n50b (m_up mm50 (t_add e219 i60 (in_c 1 rfl) rfl) (in_w 1 1 (in_c 1 rfl) rfl))))
                · skip
                  exact zn_ne c84 (in_c 0 rfl) rfl
              · skip
                have i81x6 := r_eq1 1 1 c81x6 i81x4 (in_c 1 rfl) rfl
                refine g_iconst 1 10 (gd rfl) rfl rfl ?_
                refine g_goto 14 (gd rfl) rfl ?_
                refine g_ireturn (gd rfl) rfl (nb01 (in_w 0 1 (in_c 1 rfl) rfl)) (hp81 _ _ ?_)
                show GG _ _ _ _ _ _ _ _ [.int (Int32.ofInt 1)] _ _ _
                refine g_if_eq 87 219 (gd rfl) rfl rfl (fun c84 => ?_) (fun c84 => ?_)
                · skip
                  exact zn_eq c84 (in_c 1 rfl) rfl
                · skip
                  refine g_iload_n 88 (gd rfl) rfl rfl ?_
                  refine g_aload_n 89 (gd rfl) rfl rfl ?_
                  refine g_getA (q2 := 114) 92 (gd rfl) rfl rfl rfl rfl ?_
                  refine g_iload 94 (gd rfl) rfl rfl ?_
                  refine g_iaload 95 (gd rfl) rfl (n := 480) rfl (in_ix i60 rfl) (fun z94 e94 => ?_)
                  have i94 := inv_I hIc50 (n := 480) (t := 0) 0 31 rfl (in_ix i60 rfl) rfl e94
                  refine g_calls (As := [.int x2, .int z94]) (r := []) 98 (gd rfl) rfl rfl rfl rfl rfl (Nat.le_of_ble_eq_true rfl) (mc := 0) (ms := 0) (Nat.zero_le _) (Nat.zero_le _) (P := fun v u => _) ?_ (fun v u h => h)
                  intro po95 xx95 hp95 hx95
                  refine g_enter2 (k := 311) (N := 300) (by omega) rfl (Nat.le_of_ble_eq_true rfl) ?_
                  refine g_iload_n 1 (gd rfl) rfl rfl ?_
                  refine g_iload_n 2 (gd rfl) rfl rfl ?_
                  refine g_ishr 3 (gd rfl) rfl (fun z95x2 e95x2 => ?_)
                  refine g_iconst 1 4 (gd rfl) rfl rfl ?_
                  refine g_iand 5 (gd rfl) rfl (fun z95x4 e95x4 => ?_)
                  have i95x4 := in_and2 e95x4 (in_c 1 rfl) rfl
                  refine g_iconst 1 6 (gd rfl) rfl rfl ?_
                  refine g_cmp_ne 9 13 (gd rfl) rfl rfl (fun c95x6 => ?_) (fun c95x6 => ?_)
                  · skip
                    have i95x6 := r_ne1 0 0 c95x6 i95x4 (in_c 1 rfl) rfl
                    refine g_iconst 0 14 (gd rfl) rfl rfl ?_
                    refine g_ireturn (gd rfl) rfl (nb01 (in_w 0 1 (in_c 0 rfl) rfl)) (hp95 _ _ ?_)
                    show GG _ _ _ _ _ _ _ _ [.int (Int32.ofInt 0)] _ _ _
                    refine g_if_eq 101 219 (gd rfl) rfl rfl (fun c98 => ?_) (fun c98 => ?_)
                    · skip
                      refine g_iinc 222 (gd rfl) rfl rfl (Nat.le_of_ble_eq_true rfl) (fun z219 e219 => ?_)
                      have i219 := in_add 1 320 e219 i60 (in_c 1 rfl) rfl rfl
                      refine g_goto 50 (gd rfl) rfl ?_
                      have n50 : (u_109_19).toInt ≤ (z219).toInt := by have a0 := j50_3; unfold In at a0; have a1 := h1; unfold In at a1; have a2 := ro_109_20; unfold In at a2; have a3 := ro_109_19; unfold In at a3; have a4 := i60; unfold In at a4; have a5 := i219; unfold In at a5; have a6 := t_add e219 i60 (in_c 1 rfl) rfl; have a7 := (in_c 1 rfl); unfold In at a7; have a8 := i59; unfold In at a8; have a9 := t_add e59 ro_109_19 (in_c 160 rfl) rfl; have a10 := (in_c 160 rfl); unfold In at a10; omega
                      have n50a : (z219).toInt ≤ (u_109_19).toInt + 160 := by have a0 := j50_3; unfold In at a0; have a1 := h1; unfold In at a1; have a2 := ro_109_20; unfold In at a2; have a3 := ro_109_19; unfold In at a3; have a4 := i60; unfold In at a4; have a5 := i219; unfold In at a5; have a6 := t_add e219 i60 (in_c 1 rfl) rfl; have a7 := (in_c 1 rfl); unfold In at a7; have a8 := i59; unfold In at a8; have a9 := t_add e59 ro_109_19 (in_c 160 rfl) rfl; have a10 := (in_c 160 rfl); unfold In at a10; omega
                      have n50b : FQI s (x1).toNatClampNeg (x2) (sc50.1 131) (y36_3).toNatClampNeg ((z219).toInt - u_109_19.toInt).toNat := by rw [show ((z219).toInt - u_109_19.toInt).toNat = ((y50_4).toInt - u_109_19.toInt).toNat + 1 from (by have a0 := j50_3; unfold In at a0; have a1 := h1; unfold In at a1; have a2 := ro_109_20; unfold In at a2; have a3 := ro_109_19; unfold In at a3; have a4 := i60; unfold In at a4; have a5 := i219; unfold In at a5; have a6 := t_add e219 i60 (in_c 1 rfl) rfl; have a7 := (in_c 1 rfl); unfold In at a7; have a8 := i59; unfold In at a8; have a9 := t_add e59 ro_109_19 (in_c 160 rfl) rfl; have a10 := (in_c 160 rfl); unfold In at a10; omega)]; exact fqi_no g50_0 (fun t1 t2 t3 t4 t5 => by exfalso; have hb := bt_no e95x2 e95x4 i94 c95x6; rw [(ix_k (y := y50_4) e_109_19 (by have a0 := j50_3; unfold In at a0; have a1 := h1; unfold In at a1; have a2 := ro_109_20; unfold In at a2; have a3 := ro_109_19; unfold In at a3; have a4 := i60; unfold In at a4; have a5 := i219; unfold In at a5; have a6 := t_add e219 i60 (in_c 1 rfl) rfl; have a7 := (in_c 1 rfl); unfold In at a7; have a8 := i59; unfold In at a8; have a9 := t_add e59 ro_109_19 (in_c 160 rfl) rfl; have a10 := (in_c 160 rfl); unfold In at a10; omega) (by have a0 := j50_3; unfold In at a0; have a1 := h1; unfold In at a1; have a2 := ro_109_20; unfold In at a2; have a3 := ro_109_19; unfold In at a3; have a4 := i60; unfold In at a4; have a5 := i219; unfold In at a5; have a6 := t_add e219 i60 (in_c 1 rfl) rfl; have a7 := (in_c 1 rfl); unfold In at a7; have a8 := i59; unfold In at a8; have a9 := t_add e59 ro_109_19 (in_c 160 rfl) rfl; have a10 := (in_c 160 rfl); unfold In at a10; omega)), ← hFc50.1 114 rfl, ← e94, hb] at t3; cases t3)
                      exact gg_w (by omega) (gg_f (gf_cons rfl (gf_cons rfl (gf_cons rfl (gf_cons rfl (gf_cons rfl gf_nil))))) (ih50 sc50 z219 hIc50 hFc50 (in_w 0 31 j50_3 rfl) (in_w 0 400 i219 rfl) n50 n50a n50b (m_up mm50 (t_add e219 i60 (in_c 1 rfl) rfl) (in_w 1 1 (in_c 1 rfl) rfl))))
                    · skip
                      exact zn_ne c98 (in_c 0 rfl) rfl
                  · skip
                    have i95x6 := r_eq1 1 1 c95x6 i95x4 (in_c 1 rfl) rfl
                    refine g_iconst 1 10 (gd rfl) rfl rfl ?_
                    refine g_goto 14 (gd rfl) rfl ?_
                    refine g_ireturn (gd rfl) rfl (nb01 (in_w 0 1 (in_c 1 rfl) rfl)) (hp95 _ _ ?_)
                    show GG _ _ _ _ _ _ _ _ [.int (Int32.ofInt 1)] _ _ _
                    refine g_if_eq 101 219 (gd rfl) rfl rfl (fun c98 => ?_) (fun c98 => ?_)
                    · skip
                      exact zn_eq c98 (in_c 1 rfl) rfl
                    · skip
                      refine g_aload_n 102 (gd rfl) rfl rfl ?_
                      refine g_getA (q2 := 130) 105 (gd rfl) rfl rfl rfl rfl ?_
                      refine g_aload_n 106 (gd rfl) rfl rfl ?_
                      refine g_getA (q2 := 114) 109 (gd rfl) rfl rfl rfl rfl ?_
                      refine g_iload 111 (gd rfl) rfl rfl ?_
                      refine g_iaload 112 (gd rfl) rfl (n := 480) rfl (in_ix i60 rfl) (fun z111 e111 => ?_)
                      have q111 : z94 = z111 := (e94).trans e111.symm
                      subst q111
                      refine g_laload 113 (gd rfl) rfl (n := 32) rfl (in_ix i94 rfl) (fun z112 e112 => ?_)
                      refine g_ldc2_w 9000000000000000 116 (gd rfl) rfl rfl ?_
                      refine g_lcmp 117 (gd rfl) rfl (fun z116 e116 => ?_)
                      have i116 := lc_in e116
                      refine g_if_ge 120 219 (gd rfl) rfl rfl (fun c117 => ?_) (fun c117 => ?_)
                      · skip
                        have i117 := z_ge 0 1 c117 i116 rfl
                        have c117a := lc_ge e116 c117
                        have i117a := lr_le2 9000000000000000 9223372036854775807 c117a (l_c 9000000000000000 rfl) (l_rng z112) rfl
                        refine g_iinc 222 (gd rfl) rfl rfl (Nat.le_of_ble_eq_true rfl) (fun z219 e219 => ?_)
                        have i219 := in_add 1 320 e219 i60 (in_c 1 rfl) rfl rfl
                        refine g_goto 50 (gd rfl) rfl ?_
                        have n50 : (u_109_19).toInt ≤ (z219).toInt := by have a0 := j50_3; unfold In at a0; have a1 := h1; unfold In at a1; have a2 := ro_109_20; unfold In at a2; have a3 := ro_109_19; unfold In at a3; have a4 := i60; unfold In at a4; have a5 := i219; unfold In at a5; have a6 := t_add e219 i60 (in_c 1 rfl) rfl; have a7 := (in_c 1 rfl); unfold In at a7; have a8 := i59; unfold In at a8; have a9 := t_add e59 ro_109_19 (in_c 160 rfl) rfl; have a10 := (in_c 160 rfl); unfold In at a10; omega
                        have n50a : (z219).toInt ≤ (u_109_19).toInt + 160 := by have a0 := j50_3; unfold In at a0; have a1 := h1; unfold In at a1; have a2 := ro_109_20; unfold In at a2; have a3 := ro_109_19; unfold In at a3; have a4 := i60; unfold In at a4; have a5 := i219; unfold In at a5; have a6 := t_add e219 i60 (in_c 1 rfl) rfl; have a7 := (in_c 1 rfl); unfold In at a7; have a8 := i59; unfold In at a8; have a9 := t_add e59 ro_109_19 (in_c 160 rfl) rfl; have a10 := (in_c 160 rfl); unfold In at a10; omega
                        have n50b : FQI s (x1).toNatClampNeg (x2) (sc50.1 131) (y36_3).toNatClampNeg ((z219).toInt - u_109_19.toInt).toNat := by rw [show ((z219).toInt - u_109_19.toInt).toNat = ((y50_4).toInt - u_109_19.toInt).toNat + 1 from (by have a0 := j50_3; unfold In at a0; have a1 := h1; unfold In at a1; have a2 := ro_109_20; unfold In at a2; have a3 := ro_109_19; unfold In at a3; have a4 := i60; unfold In at a4; have a5 := i219; unfold In at a5; have a6 := t_add e219 i60 (in_c 1 rfl) rfl; have a7 := (in_c 1 rfl); unfold In at a7; have a8 := i59; unfold In at a8; have a9 := t_add e59 ro_109_19 (in_c 160 rfl) rfl; have a10 := (in_c 160 rfl); unfold In at a10; omega)]; exact fqi_no g50_0 (fun t1 t2 t3 t4 t5 => by exfalso; rw [(ix_k (y := y50_4) e_109_19 (by have a0 := j50_3; unfold In at a0; have a1 := h1; unfold In at a1; have a2 := ro_109_20; unfold In at a2; have a3 := ro_109_19; unfold In at a3; have a4 := i60; unfold In at a4; have a5 := i219; unfold In at a5; have a6 := t_add e219 i60 (in_c 1 rfl) rfl; have a7 := (in_c 1 rfl); unfold In at a7; have a8 := i59; unfold In at a8; have a9 := t_add e59 ro_109_19 (in_c 160 rfl) rfl; have a10 := (in_c 160 rfl); unfold In at a10; omega) (by have a0 := j50_3; unfold In at a0; have a1 := h1; unfold In at a1; have a2 := ro_109_20; unfold In at a2; have a3 := ro_109_19; unfold In at a3; have a4 := i60; unfold In at a4; have a5 := i219; unfold In at a5; have a6 := t_add e219 i60 (in_c 1 rfl) rfl; have a7 := (in_c 1 rfl); unfold In at a7; have a8 := i59; unfold In at a8; have a9 := t_add e59 ro_109_19 (in_c 160 rfl) rfl; have a10 := (in_c 160 rfl); unfold In at a10; omega)), ← hFc50.1 114 rfl, ← e94, ← hFc50.2.1 130 rfl, ← e112] at t4; have h := i117a.1; omega)
                        exact gg_w (by omega) (gg_f (gf_cons rfl (gf_cons rfl (gf_cons rfl (gf_cons rfl (gf_cons rfl gf_nil))))) (ih50 sc50 z219 hIc50 hFc50 (in_w 0 31 j50_3 rfl) (in_w 0 400 i219 rfl) n50 n50a n50b (m_up mm50 (t_add e219 i60 (in_c 1 rfl) rfl) (in_w 1 1 (in_c 1 rfl) rfl))))
                      · skip
                        have i117 := z_lt (-1) (-1) c117 i116 rfl
                        have c117a := lc_lt e116 c117
                        have i117a := lr_lt1 (-9223372036854775808) 8999999999999999 c117a (l_rng z112) (l_c 9000000000000000 rfl) rfl
                        refine g_aload_n 121 (gd rfl) rfl rfl ?_
                        refine g_getA (q2 := 130) 124 (gd rfl) rfl rfl rfl rfl ?_
                        refine g_aload_n 125 (gd rfl) rfl rfl ?_
                        refine g_getA (q2 := 113) 128 (gd rfl) rfl rfl rfl rfl ?_
                        refine g_iload 130 (gd rfl) rfl rfl ?_
                        refine g_iaload 131 (gd rfl) rfl (n := 480) rfl (in_ix i60 rfl) (fun z130 e130 => ?_)
                        have q130 : z80 = z130 := (e80).trans e130.symm
                        subst q130
                        refine g_laload 132 (gd rfl) rfl (n := 32) rfl (in_ix i80 rfl) (fun z131 e131 => ?_)
                        refine g_aload_n 133 (gd rfl) rfl rfl ?_
                        refine g_getA (q2 := 130) 136 (gd rfl) rfl rfl rfl rfl ?_
                        refine g_aload_n 137 (gd rfl) rfl rfl ?_
                        refine g_getA (q2 := 114) 140 (gd rfl) rfl rfl rfl rfl ?_
                        refine g_iload 142 (gd rfl) rfl rfl ?_
                        refine g_iaload 143 (gd rfl) rfl (n := 480) rfl (in_ix i60 rfl) (fun z142 e142 => ?_)
                        have q142 : z94 = z142 := (e94).trans e142.symm
                        subst q142
                        refine g_laload 144 (gd rfl) rfl (n := 32) rfl (in_ix i94 rfl) (fun z143 e143 => ?_)
                        refine g_aload_n 145 (gd rfl) rfl rfl ?_
                        refine g_getA (q2 := 115) 148 (gd rfl) rfl rfl rfl rfl ?_
                        refine g_iload 150 (gd rfl) rfl rfl ?_
                        refine g_iaload 151 (gd rfl) rfl (n := 480) rfl (in_ix i60 rfl) (fun z150 e150 => ?_)
                        have i150 := inv_I hIc50 (n := 480) (t := 0) (-1000000) 1000000 rfl (in_ix i60 rfl) rfl e150
                        refine g_i2l 152 (gd rfl) rfl (fun z151 e151 => ?_)
                        have i151 := l_i e151 i150
                        refine g_ladd 153 (gd rfl) rfl (fun z152 e152 => ?_)
                        refine g_lcmp 154 (gd rfl) rfl (fun z153 e153 => ?_)
                        have i153 := lc_in e153
                        refine g_if_ne 157 219 (gd rfl) rfl rfl (fun c154 => ?_) (fun c154 => ?_)
                        · skip
                          have c154a := lc_ne e153 c154
                          refine g_iinc 222 (gd rfl) rfl rfl (Nat.le_of_ble_eq_true rfl) (fun z219 e219 => ?_)
                          have i219 := in_add 1 320 e219 i60 (in_c 1 rfl) rfl rfl
                          refine g_goto 50 (gd rfl) rfl ?_
                          have n50 : (u_109_19).toInt ≤ (z219).toInt := by have a0 := j50_3; unfold In at a0; have a1 := h1; unfold In at a1; have a2 := ro_109_20; unfold In at a2; have a3 := ro_109_19; unfold In at a3; have a4 := i60; unfold In at a4; have a5 := i219; unfold In at a5; have a6 := t_add e219 i60 (in_c 1 rfl) rfl; have a7 := (in_c 1 rfl); unfold In at a7; have a8 := tx_i2l e151; have a9 := i150; unfold In at a9; have a10 := i59; unfold In at a10; have a11 := t_add e59 ro_109_19 (in_c 160 rfl) rfl; have a12 := (in_c 160 rfl); unfold In at a12; omega
                          have n50a : (z219).toInt ≤ (u_109_19).toInt + 160 := by have a0 := j50_3; unfold In at a0; have a1 := h1; unfold In at a1; have a2 := ro_109_20; unfold In at a2; have a3 := ro_109_19; unfold In at a3; have a4 := i60; unfold In at a4; have a5 := i219; unfold In at a5; have a6 := t_add e219 i60 (in_c 1 rfl) rfl; have a7 := (in_c 1 rfl); unfold In at a7; have a8 := tx_i2l e151; have a9 := i150; unfold In at a9; have a10 := i59; unfold In at a10; have a11 := t_add e59 ro_109_19 (in_c 160 rfl) rfl; have a12 := (in_c 160 rfl); unfold In at a12; omega
                          have n50b : FQI s (x1).toNatClampNeg (x2) (sc50.1 131) (y36_3).toNatClampNeg ((z219).toInt - u_109_19.toInt).toNat := by rw [show ((z219).toInt - u_109_19.toInt).toNat = ((y50_4).toInt - u_109_19.toInt).toNat + 1 from (by have a0 := j50_3; unfold In at a0; have a1 := h1; unfold In at a1; have a2 := ro_109_20; unfold In at a2; have a3 := ro_109_19; unfold In at a3; have a4 := i60; unfold In at a4; have a5 := i219; unfold In at a5; have a6 := t_add e219 i60 (in_c 1 rfl) rfl; have a7 := (in_c 1 rfl); unfold In at a7; have a8 := tx_i2l e151; have a9 := i150; unfold In at a9; have a10 := i59; unfold In at a10; have a11 := t_add e59 ro_109_19 (in_c 160 rfl) rfl; have a12 := (in_c 160 rfl); unfold In at a12; omega)]; exact fqi_no g50_0 (fun t1 t2 t3 t4 t5 => by exfalso; have hbd := (q_0.2.1 z94.toNatClampNeg (bt_yes e95x2 e95x4 i94 c95x6)).2.2; rw [← hFc50.2.1 130 rfl, ← e143] at hbd; have hz152 : z152.toInt = z143.toInt + z150.toInt := (by have hw := i150; unfold In at hw; rw [ladd_t e152 (by rw [tx_i2l e151]; omega) (by rw [tx_i2l e151]; omega), tx_i2l e151]); rw [(ix_k (y := y50_4) e_109_19 (by have a0 := j50_3; unfold In at a0; have a1 := h1; unfold In at a1; have a2 := ro_109_20; unfold In at a2; have a3 := ro_109_19; unfold In at a3; have a4 := i60; unfold In at a4; have a5 := i219; unfold In at a5; have a6 := t_add e219 i60 (in_c 1 rfl) rfl; have a7 := (in_c 1 rfl); unfold In at a7; have a8 := tx_i2l e151; have a9 := i150; unfold In at a9; have a10 := i59; unfold In at a10; have a11 := t_add e59 ro_109_19 (in_c 160 rfl) rfl; have a12 := (in_c 160 rfl); unfold In at a12; omega) (by have a0 := j50_3; unfold In at a0; have a1 := h1; unfold In at a1; have a2 := ro_109_20; unfold In at a2; have a3 := ro_109_19; unfold In at a3; have a4 := i60; unfold In at a4; have a5 := i219; unfold In at a5; have a6 := t_add e219 i60 (in_c 1 rfl) rfl; have a7 := (in_c 1 rfl); unfold In at a7; have a8 := tx_i2l e151; have a9 := i150; unfold In at a9; have a10 := i59; unfold In at a10; have a11 := t_add e59 ro_109_19 (in_c 160 rfl) rfl; have a12 := (in_c 160 rfl); unfold In at a12; omega)), ← hFc50.1 113 rfl, ← e80, ← hFc50.1 114 rfl, ← e94, ← hFc50.1 115 rfl, ← e150, ← hFc50.2.1 130 rfl] at t5; rw [← e131, ← e143] at t5; have h := c154a; omega)
                          exact gg_w (by omega) (gg_f (gf_cons rfl (gf_cons rfl (gf_cons rfl (gf_cons rfl (gf_cons rfl gf_nil))))) (ih50 sc50 z219 hIc50 hFc50 (in_w 0 31 j50_3 rfl) (in_w 0 400 i219 rfl) n50 n50a n50b (m_up mm50 (t_add e219 i60 (in_c 1 rfl) rfl) (in_w 1 1 (in_c 1 rfl) rfl))))
                        · skip
                          have i154 := z_eq 0 0 c154 i153 rfl
                          have c154a := lc_eq e153 c154
                          refine g_aload_n 158 (gd rfl) rfl rfl ?_
                          refine g_getA (q2 := 131) 161 (gd rfl) rfl rfl rfl rfl ?_
                          refine g_aload_n 162 (gd rfl) rfl rfl ?_
                          refine g_getA (q2 := 114) 165 (gd rfl) rfl rfl rfl rfl ?_
                          refine g_iload 167 (gd rfl) rfl rfl ?_
                          refine g_iaload 168 (gd rfl) rfl (n := 480) rfl (in_ix i60 rfl) (fun z167 e167 => ?_)
                          have q167 : z94 = z167 := (e94).trans e167.symm
                          subst q167
                          refine g_iaload 169 (gd rfl) rfl (n := 32) rfl (in_ix i94 rfl) (fun z168 e168 => ?_)
                          refine g_iconst 1 170 (gd rfl) rfl rfl ?_
                          refine g_iadd 171 (gd rfl) rfl (fun z170 e170 => ?_)
                          refine g_istore 173 (gd rfl) rfl (Nat.le_of_ble_eq_true rfl) ?_
                          refine g_aload_n 174 (gd rfl) rfl rfl ?_
                          refine g_getA (q2 := 131) 177 (gd rfl) rfl rfl rfl rfl ?_
                          refine g_aload_n 178 (gd rfl) rfl rfl ?_
                          refine g_getA (q2 := 113) 181 (gd rfl) rfl rfl rfl rfl ?_
                          refine g_iload 183 (gd rfl) rfl rfl ?_
                          refine g_iaload 184 (gd rfl) rfl (n := 480) rfl (in_ix i60 rfl) (fun z183 e183 => ?_)
                          have q183 : z80 = z183 := (e80).trans e183.symm
                          subst q183
                          refine g_iload 186 (gd rfl) rfl rfl ?_
                          refine g_aload_n 187 (gd rfl) rfl rfl ?_
                          refine g_getA (q2 := 131) 190 (gd rfl) rfl rfl rfl rfl ?_
                          refine g_aload_n 191 (gd rfl) rfl rfl ?_
                          refine g_getA (q2 := 113) 194 (gd rfl) rfl rfl rfl rfl ?_
                          refine g_iload 196 (gd rfl) rfl rfl ?_
                          refine g_iaload 197 (gd rfl) rfl (n := 480) rfl (in_ix i60 rfl) (fun z196 e196 => ?_)
                          have q196 : z80 = z196 := (e80).trans e196.symm
                          subst q196
                          refine g_iaload 198 (gd rfl) rfl (n := 32) rfl (in_ix i80 rfl) (fun z197 e197 => ?_)
                          refine g_cmp_ge 201 206 (gd rfl) rfl rfl (fun c198 => ?_) (fun c198 => ?_)
                          · skip
                            refine g_aload_n 207 (gd rfl) rfl rfl ?_
                            refine g_getA (q2 := 131) 210 (gd rfl) rfl rfl rfl rfl ?_
                            refine g_aload_n 211 (gd rfl) rfl rfl ?_
                            refine g_getA (q2 := 113) 214 (gd rfl) rfl rfl rfl rfl ?_
                            refine g_iload 216 (gd rfl) rfl rfl ?_
                            refine g_iaload 217 (gd rfl) rfl (n := 480) rfl (in_ix i60 rfl) (fun z216 e216 => ?_)
                            have q216 : z80 = z216 := (e80).trans e216.symm
                            subst q216
                            refine g_iaload 218 (gd rfl) rfl (n := 32) rfl (in_ix i80 rfl) (fun z217 e217 => ?_)
                            have q217 : z197 = z217 := (e197).trans e217.symm
                            subst q217
                            refine g_iastore 219 (gd rfl) rfl (n := 32) rfl (in_ix i80 rfl) ?_
                            have hI218 := inv_sI (q := 131) (j := z80.toNatClampNeg) hIc50 rfl (in_w (-2147483648) 2147483647 (i_rng z197) rfl)
                            refine g_iinc 222 (gd rfl) rfl rfl (Nat.le_of_ble_eq_true rfl) (fun z219 e219 => ?_)
                            have i219 := in_add 1 320 e219 i60 (in_c 1 rfl) rfl rfl
                            refine g_goto 50 (gd rfl) rfl ?_
                            have n50 : (u_109_19).toInt ≤ (z219).toInt := by have a0 := j50_3; unfold In at a0; have a1 := h1; unfold In at a1; have a2 := ro_109_20; unfold In at a2; have a3 := ro_109_19; unfold In at a3; have a4 := i60; unfold In at a4; have a5 := i219; unfold In at a5; have a6 := t_add e219 i60 (in_c 1 rfl) rfl; have a7 := (in_c 1 rfl); unfold In at a7; have a8 := tx_i2l e151; have a9 := i150; unfold In at a9; have a10 := i59; unfold In at a10; have a11 := t_add e59 ro_109_19 (in_c 160 rfl) rfl; have a12 := (in_c 160 rfl); unfold In at a12; omega
                            have n50a : (z219).toInt ≤ (u_109_19).toInt + 160 := by have a0 := j50_3; unfold In at a0; have a1 := h1; unfold In at a1; have a2 := ro_109_20; unfold In at a2; have a3 := ro_109_19; unfold In at a3; have a4 := i60; unfold In at a4; have a5 := i219; unfold In at a5; have a6 := t_add e219 i60 (in_c 1 rfl) rfl; have a7 := (in_c 1 rfl); unfold In at a7; have a8 := tx_i2l e151; have a9 := i150; unfold In at a9; have a10 := i59; unfold In at a10; have a11 := t_add e59 ro_109_19 (in_c 160 rfl) rfl; have a12 := (in_c 160 rfl); unfold In at a12; omega
                            have n50b : FQI s (x1).toNatClampNeg (x2) ((sI sc50 131 z80.toNatClampNeg z197).1 131) (y36_3).toNatClampNeg ((z219).toInt - u_109_19.toInt).toNat := by have hn94 : z94.toInt < nmx s := (by have hk := q_0.2.1 z94.toNatClampNeg (bt_yes e95x2 e95x4 i94 c95x6); have hk1 := hk.1; have r94 := i94; unfold In at r94; have e94n : z94.toNatClampNeg = z94.toInt.toNat := rfl; omega); have hbd := (q_0.2.1 z94.toNatClampNeg (bt_yes e95x2 e95x4 i94 c95x6)).2.2; rw [← hFc50.2.1 130 rfl, ← e143] at hbd; have hz152 : z152.toInt = z143.toInt + z150.toInt := (by have hw := i150; unfold In at hw; rw [ladd_t e152 (by rw [tx_i2l e151]; omega) (by rw [tx_i2l e151]; omega), tx_i2l e151]); have hfq := g50_0.1.1 z94.toNatClampNeg (nat_jn i94 hn94).1 (nat_jn i94 hn94).2; rw [← e168] at hfq; rw [show ((z219).toInt - u_109_19.toInt).toNat = ((y50_4).toInt - u_109_19.toInt).toNat + 1 from (by have a0 := j50_3; unfold In at a0; have a1 := h1; unfold In at a1; have a2 := ro_109_20; unfold In at a2; have a3 := ro_109_19; unfold In at a3; have a4 := i60; unfold In at a4; have a5 := i219; unfold In at a5; have a6 := t_add e219 i60 (in_c 1 rfl) rfl; have a7 := (in_c 1 rfl); unfold In at a7; have a8 := tx_i2l e151; have a9 := i150; unfold In at a9; have a10 := i59; unfold In at a10; have a11 := t_add e59 ro_109_19 (in_c 160 rfl) rfl; have a12 := (in_c 160 rfl); unfold In at a12; omega), sI_q]; exact fqi_st hI g50_0 (by have a0 := j50_3; unfold In at a0; have a1 := h1; unfold In at a1; have a2 := ro_109_20; unfold In at a2; have a3 := ro_109_19; unfold In at a3; have a4 := i60; unfold In at a4; have a5 := i219; unfold In at a5; have a6 := t_add e219 i60 (in_c 1 rfl) rfl; have a7 := (in_c 1 rfl); unfold In at a7; have a8 := tx_i2l e151; have a9 := i150; unfold In at a9; have a10 := i59; unfold In at a10; have a11 := t_add e59 ro_109_19 (in_c 160 rfl) rfl; have a12 := (in_c 160 rfl); unfold In at a12; omega) (by rw [(ix_k (y := y50_4) e_109_19 (by have a0 := j50_3; unfold In at a0; have a1 := h1; unfold In at a1; have a2 := ro_109_20; unfold In at a2; have a3 := ro_109_19; unfold In at a3; have a4 := i60; unfold In at a4; have a5 := i219; unfold In at a5; have a6 := t_add e219 i60 (in_c 1 rfl) rfl; have a7 := (in_c 1 rfl); unfold In at a7; have a8 := tx_i2l e151; have a9 := i150; unfold In at a9; have a10 := i59; unfold In at a10; have a11 := t_add e59 ro_109_19 (in_c 160 rfl) rfl; have a12 := (in_c 160 rfl); unfold In at a12; omega) (by have a0 := j50_3; unfold In at a0; have a1 := h1; unfold In at a1; have a2 := ro_109_20; unfold In at a2; have a3 := ro_109_19; unfold In at a3; have a4 := i60; unfold In at a4; have a5 := i219; unfold In at a5; have a6 := t_add e219 i60 (in_c 1 rfl) rfl; have a7 := (in_c 1 rfl); unfold In at a7; have a8 := tx_i2l e151; have a9 := i150; unfold In at a9; have a10 := i59; unfold In at a10; have a11 := t_add e59 ro_109_19 (in_c 160 rfl) rfl; have a12 := (in_c 160 rfl); unfold In at a12; omega)), ← hFc50.1 112 rfl, ← e69]; exact c70) (by rw [(ix_k (y := y50_4) e_109_19 (by have a0 := j50_3; unfold In at a0; have a1 := h1; unfold In at a1; have a2 := ro_109_20; unfold In at a2; have a3 := ro_109_19; unfold In at a3; have a4 := i60; unfold In at a4; have a5 := i219; unfold In at a5; have a6 := t_add e219 i60 (in_c 1 rfl) rfl; have a7 := (in_c 1 rfl); unfold In at a7; have a8 := tx_i2l e151; have a9 := i150; unfold In at a9; have a10 := i59; unfold In at a10; have a11 := t_add e59 ro_109_19 (in_c 160 rfl) rfl; have a12 := (in_c 160 rfl); unfold In at a12; omega) (by have a0 := j50_3; unfold In at a0; have a1 := h1; unfold In at a1; have a2 := ro_109_20; unfold In at a2; have a3 := ro_109_19; unfold In at a3; have a4 := i60; unfold In at a4; have a5 := i219; unfold In at a5; have a6 := t_add e219 i60 (in_c 1 rfl) rfl; have a7 := (in_c 1 rfl); unfold In at a7; have a8 := tx_i2l e151; have a9 := i150; unfold In at a9; have a10 := i59; unfold In at a10; have a11 := t_add e59 ro_109_19 (in_c 160 rfl) rfl; have a12 := (in_c 160 rfl); unfold In at a12; omega)), ← hFc50.1 113 rfl]; exact e80) (by rw [(ix_k (y := y50_4) e_109_19 (by have a0 := j50_3; unfold In at a0; have a1 := h1; unfold In at a1; have a2 := ro_109_20; unfold In at a2; have a3 := ro_109_19; unfold In at a3; have a4 := i60; unfold In at a4; have a5 := i219; unfold In at a5; have a6 := t_add e219 i60 (in_c 1 rfl) rfl; have a7 := (in_c 1 rfl); unfold In at a7; have a8 := tx_i2l e151; have a9 := i150; unfold In at a9; have a10 := i59; unfold In at a10; have a11 := t_add e59 ro_109_19 (in_c 160 rfl) rfl; have a12 := (in_c 160 rfl); unfold In at a12; omega) (by have a0 := j50_3; unfold In at a0; have a1 := h1; unfold In at a1; have a2 := ro_109_20; unfold In at a2; have a3 := ro_109_19; unfold In at a3; have a4 := i60; unfold In at a4; have a5 := i219; unfold In at a5; have a6 := t_add e219 i60 (in_c 1 rfl) rfl; have a7 := (in_c 1 rfl); unfold In at a7; have a8 := tx_i2l e151; have a9 := i150; unfold In at a9; have a10 := i59; unfold In at a10; have a11 := t_add e59 ro_109_19 (in_c 160 rfl) rfl; have a12 := (in_c 160 rfl); unfold In at a12; omega)), ← hFc50.1 114 rfl]; exact e94) (bt_yes e81x2 e81x4 i80 c81x6) (bt_yes e95x2 e95x4 i94 c95x6) (by rw [← hFc50.2.1 130 rfl, ← e112]; have h := i117a.2; omega) (by rw [← hFc50.2.1 130 rfl, ← e131, ← e143, (ix_k (y := y50_4) e_109_19 (by have a0 := j50_3; unfold In at a0; have a1 := h1; unfold In at a1; have a2 := ro_109_20; unfold In at a2; have a3 := ro_109_19; unfold In at a3; have a4 := i60; unfold In at a4; have a5 := i219; unfold In at a5; have a6 := t_add e219 i60 (in_c 1 rfl) rfl; have a7 := (in_c 1 rfl); unfold In at a7; have a8 := tx_i2l e151; have a9 := i150; unfold In at a9; have a10 := i59; unfold In at a10; have a11 := t_add e59 ro_109_19 (in_c 160 rfl) rfl; have a12 := (in_c 160 rfl); unfold In at a12; omega) (by have a0 := j50_3; unfold In at a0; have a1 := h1; unfold In at a1; have a2 := ro_109_20; unfold In at a2; have a3 := ro_109_19; unfold In at a3; have a4 := i60; unfold In at a4; have a5 := i219; unfold In at a5; have a6 := t_add e219 i60 (in_c 1 rfl) rfl; have a7 := (in_c 1 rfl); unfold In at a7; have a8 := tx_i2l e151; have a9 := i150; unfold In at a9; have a10 := i59; unfold In at a10; have a11 := t_add e59 ro_109_19 (in_c 160 rfl) rfl; have a12 := (in_c 160 rfl); unfold In at a12; omega)), ← hFc50.1 115 rfl, ← e150]; have h := c154a; omega) (by rw [← e168]; exact t_add (a := 0) (b := 1000) e170 ⟨hfq.1, hfq.2⟩ (in_c 1 rfl) rfl) (Or.inr ⟨by rw [← e197]; have h := c198; omega, e197⟩)
                            exact gg_w (by omega) (gg_f (gf_cons rfl (gf_cons rfl (gf_cons rfl (gf_cons rfl (gf_cons rfl gf_nil))))) (ih50 (sI sc50 131 z80.toNatClampNeg z197) z219 hI218 (fr_sI rfl hFc50) (in_w 0 31 j50_3 rfl) (in_w 0 400 i219 rfl) n50 n50a n50b (m_up mm50 (t_add e219 i60 (in_c 1 rfl) rfl) (in_w 1 1 (in_c 1 rfl) rfl))))
                          · skip
                            have i198 := r_lt1 (-2147483648) 2147483646 c198 (i_rng z170) (i_rng z197) rfl
                            have i198a := r_lt2 (-2147483647) 2147483647 c198 (i_rng z170) (i_rng z197) rfl
                            refine g_iload 203 (gd rfl) rfl rfl ?_
                            refine g_goto 218 (gd rfl) rfl ?_
                            refine g_iastore 219 (gd rfl) rfl (n := 32) rfl (in_ix i80 rfl) ?_
                            have hI218 := inv_sI (q := 131) (j := z80.toNatClampNeg) hIc50 rfl (in_w (-2147483648) 2147483647 i198 rfl)
                            refine g_iinc 222 (gd rfl) rfl rfl (Nat.le_of_ble_eq_true rfl) (fun z219 e219 => ?_)
                            have i219 := in_add 1 320 e219 i60 (in_c 1 rfl) rfl rfl
                            refine g_goto 50 (gd rfl) rfl ?_
                            have n50 : (u_109_19).toInt ≤ (z219).toInt := by have a0 := j50_3; unfold In at a0; have a1 := h1; unfold In at a1; have a2 := ro_109_20; unfold In at a2; have a3 := ro_109_19; unfold In at a3; have a4 := i60; unfold In at a4; have a5 := i198; unfold In at a5; have a6 := i219; unfold In at a6; have a7 := t_add e219 i60 (in_c 1 rfl) rfl; have a8 := (in_c 1 rfl); unfold In at a8; have a9 := tx_i2l e151; have a10 := i150; unfold In at a10; have a11 := i59; unfold In at a11; have a12 := t_add e59 ro_109_19 (in_c 160 rfl) rfl; have a13 := (in_c 160 rfl); unfold In at a13; omega
                            have n50a : (z219).toInt ≤ (u_109_19).toInt + 160 := by have a0 := j50_3; unfold In at a0; have a1 := h1; unfold In at a1; have a2 := ro_109_20; unfold In at a2; have a3 := ro_109_19; unfold In at a3; have a4 := i60; unfold In at a4; have a5 := i198; unfold In at a5; have a6 := i219; unfold In at a6; have a7 := t_add e219 i60 (in_c 1 rfl) rfl; have a8 := (in_c 1 rfl); unfold In at a8; have a9 := tx_i2l e151; have a10 := i150; unfold In at a10; have a11 := i59; unfold In at a11; have a12 := t_add e59 ro_109_19 (in_c 160 rfl) rfl; have a13 := (in_c 160 rfl); unfold In at a13; omega
                            have n50b : FQI s (x1).toNatClampNeg (x2) ((sI sc50 131 z80.toNatClampNeg z170).1 131) (y36_3).toNatClampNeg ((z219).toInt - u_109_19.toInt).toNat := by have hn94 : z94.toInt < nmx s := (by have hk := q_0.2.1 z94.toNatClampNeg (bt_yes e95x2 e95x4 i94 c95x6); have hk1 := hk.1; have r94 := i94; unfold In at r94; have e94n : z94.toNatClampNeg = z94.toInt.toNat := rfl; omega); have hbd := (q_0.2.1 z94.toNatClampNeg (bt_yes e95x2 e95x4 i94 c95x6)).2.2; rw [← hFc50.2.1 130 rfl, ← e143] at hbd; have hz152 : z152.toInt = z143.toInt + z150.toInt := (by have hw := i150; unfold In at hw; rw [ladd_t e152 (by rw [tx_i2l e151]; omega) (by rw [tx_i2l e151]; omega), tx_i2l e151]); have hfq := g50_0.1.1 z94.toNatClampNeg (nat_jn i94 hn94).1 (nat_jn i94 hn94).2; rw [← e168] at hfq; rw [show ((z219).toInt - u_109_19.toInt).toNat = ((y50_4).toInt - u_109_19.toInt).toNat + 1 from (by have a0 := j50_3; unfold In at a0; have a1 := h1; unfold In at a1; have a2 := ro_109_20; unfold In at a2; have a3 := ro_109_19; unfold In at a3; have a4 := i60; unfold In at a4; have a5 := i198; unfold In at a5; have a6 := i219; unfold In at a6; have a7 := t_add e219 i60 (in_c 1 rfl) rfl; have a8 := (in_c 1 rfl); unfold In at a8; have a9 := tx_i2l e151; have a10 := i150; unfold In at a10; have a11 := i59; unfold In at a11; have a12 := t_add e59 ro_109_19 (in_c 160 rfl) rfl; have a13 := (in_c 160 rfl); unfold In at a13; omega), sI_q]; exact fqi_st hI g50_0 (by have a0 := j50_3; unfold In at a0; have a1 := h1; unfold In at a1; have a2 := ro_109_20; unfold In at a2; have a3 := ro_109_19; unfold In at a3; have a4 := i60; unfold In at a4; have a5 := i198; unfold In at a5; have a6 := i219; unfold In at a6; have a7 := t_add e219 i60 (in_c 1 rfl) rfl; have a8 := (in_c 1 rfl); unfold In at a8; have a9 := tx_i2l e151; have a10 := i150; unfold In at a10; have a11 := i59; unfold In at a11; have a12 := t_add e59 ro_109_19 (in_c 160 rfl) rfl; have a13 := (in_c 160 rfl); unfold In at a13; omega) (by rw [(ix_k (y := y50_4) e_109_19 (by have a0 := j50_3; unfold In at a0; have a1 := h1; unfold In at a1; have a2 := ro_109_20; unfold In at a2; have a3 := ro_109_19; unfold In at a3; have a4 := i60; unfold In at a4; have a5 := i198; unfold In at a5; have a6 := i219; unfold In at a6; have a7 := t_add e219 i60 (in_c 1 rfl) rfl; have a8 := (in_c 1 rfl); unfold In at a8; have a9 := tx_i2l e151; have a10 := i150; unfold In at a10; have a11 := i59; unfold In at a11; have a12 := t_add e59 ro_109_19 (in_c 160 rfl) rfl; have a13 := (in_c 160 rfl); unfold In at a13; omega) (by have a0 := j50_3; unfold In at a0; have a1 := h1; unfold In at a1; have a2 := ro_109_20; unfold In at a2; have a3 := ro_109_19; unfold In at a3; have a4 := i60; unfold In at a4; have a5 := i198; unfold In at a5; have a6 := i219; unfold In at a6; have a7 := t_add e219 i60 (in_c 1 rfl) rfl; have a8 := (in_c 1 rfl); unfold In at a8; have a9 := tx_i2l e151; have a10 := i150; unfold In at a10; have a11 := i59; unfold In at a11; have a12 := t_add e59 ro_109_19 (in_c 160 rfl) rfl; have a13 := (in_c 160 rfl); unfold In at a13; omega)), ← hFc50.1 112 rfl, ← e69]; exact c70) (by rw [(ix_k (y := y50_4) e_109_19 (by have a0 := j50_3; unfold In at a0; have a1 := h1; unfold In at a1; have a2 := ro_109_20; unfold In at a2; have a3 := ro_109_19; unfold In at a3; have a4 := i60; unfold In at a4; have a5 := i198; unfold In at a5; have a6 := i219; unfold In at a6; have a7 := t_add e219 i60 (in_c 1 rfl) rfl; have a8 := (in_c 1 rfl); unfold In at a8; have a9 := tx_i2l e151; have a10 := i150; unfold In at a10; have a11 := i59; unfold In at a11; have a12 := t_add e59 ro_109_19 (in_c 160 rfl) rfl; have a13 := (in_c 160 rfl); unfold In at a13; omega) (by have a0 := j50_3; unfold In at a0; have a1 := h1; unfold In at a1; have a2 := ro_109_20; unfold In at a2; have a3 := ro_109_19; unfold In at a3; have a4 := i60; unfold In at a4; have a5 := i198; unfold In at a5; have a6 := i219; unfold In at a6; have a7 := t_add e219 i60 (in_c 1 rfl) rfl; have a8 := (in_c 1 rfl); unfold In at a8; have a9 := tx_i2l e151; have a10 := i150; unfold In at a10; have a11 := i59; unfold In at a11; have a12 := t_add e59 ro_109_19 (in_c 160 rfl) rfl; have a13 := (in_c 160 rfl); unfold In at a13; omega)), ← hFc50.1 113 rfl]; exact e80) (by rw [(ix_k (y := y50_4) e_109_19 (by have a0 := j50_3; unfold In at a0; have a1 := h1; unfold In at a1; have a2 := ro_109_20; unfold In at a2; have a3 := ro_109_19; unfold In at a3; have a4 := i60; unfold In at a4; have a5 := i198; unfold In at a5; have a6 := i219; unfold In at a6; have a7 := t_add e219 i60 (in_c 1 rfl) rfl; have a8 := (in_c 1 rfl); unfold In at a8; have a9 := tx_i2l e151; have a10 := i150; unfold In at a10; have a11 := i59; unfold In at a11; have a12 := t_add e59 ro_109_19 (in_c 160 rfl) rfl; have a13 := (in_c 160 rfl); unfold In at a13; omega) (by have a0 := j50_3; unfold In at a0; have a1 := h1; unfold In at a1; have a2 := ro_109_20; unfold In at a2; have a3 := ro_109_19; unfold In at a3; have a4 := i60; unfold In at a4; have a5 := i198; unfold In at a5; have a6 := i219; unfold In at a6; have a7 := t_add e219 i60 (in_c 1 rfl) rfl; have a8 := (in_c 1 rfl); unfold In at a8; have a9 := tx_i2l e151; have a10 := i150; unfold In at a10; have a11 := i59; unfold In at a11; have a12 := t_add e59 ro_109_19 (in_c 160 rfl) rfl; have a13 := (in_c 160 rfl); unfold In at a13; omega)), ← hFc50.1 114 rfl]; exact e94) (bt_yes e81x2 e81x4 i80 c81x6) (bt_yes e95x2 e95x4 i94 c95x6) (by rw [← hFc50.2.1 130 rfl, ← e112]; have h := i117a.2; omega) (by rw [← hFc50.2.1 130 rfl, ← e131, ← e143, (ix_k (y := y50_4) e_109_19 (by have a0 := j50_3; unfold In at a0; have a1 := h1; unfold In at a1; have a2 := ro_109_20; unfold In at a2; have a3 := ro_109_19; unfold In at a3; have a4 := i60; unfold In at a4; have a5 := i198; unfold In at a5; have a6 := i219; unfold In at a6; have a7 := t_add e219 i60 (in_c 1 rfl) rfl; have a8 := (in_c 1 rfl); unfold In at a8; have a9 := tx_i2l e151; have a10 := i150; unfold In at a10; have a11 := i59; unfold In at a11; have a12 := t_add e59 ro_109_19 (in_c 160 rfl) rfl; have a13 := (in_c 160 rfl); unfold In at a13; omega) (by have a0 := j50_3; unfold In at a0; have a1 := h1; unfold In at a1; have a2 := ro_109_20; unfold In at a2; have a3 := ro_109_19; unfold In at a3; have a4 := i60; unfold In at a4; have a5 := i198; unfold In at a5; have a6 := i219; unfold In at a6; have a7 := t_add e219 i60 (in_c 1 rfl) rfl; have a8 := (in_c 1 rfl); unfold In at a8; have a9 := tx_i2l e151; have a10 := i150; unfold In at a10; have a11 := i59; unfold In at a11; have a12 := t_add e59 ro_109_19 (in_c 160 rfl) rfl; have a13 := (in_c 160 rfl); unfold In at a13; omega)), ← hFc50.1 115 rfl, ← e150]; have h := c154a; omega) (by rw [← e168]; exact t_add (a := 0) (b := 1000) e170 ⟨hfq.1, hfq.2⟩ (in_c 1 rfl) rfl) (Or.inl ⟨by rw [← e197]; have h := c198; omega, rfl⟩)
                            exact gg_w (by omega) (gg_f (gf_cons rfl (gf_cons rfl (gf_cons rfl (gf_cons rfl (gf_cons rfl gf_nil))))) (ih50 (sI sc50 131 z80.toNatClampNeg z170) z219 hI218 (fr_sI rfl hFc50) (in_w 0 31 j50_3 rfl) (in_w 0 400 i219 rfl) n50 n50a n50b (m_up mm50 (t_add e219 i60 (in_c 1 rfl) rfl) (in_w 1 1 (in_c 1 rfl) rfl))))
      refine g_iload_n 37 (gd rfl) rfl rfl ?_
      refine g_aload_n 38 (gd rfl) rfl rfl ?_
      refine g_getI 41 (gd rfl) rfl rfl rfl (fun z38 e38 => ?_)
      have q38 : u_109_20 = z38 := (fr_F e_109_20 hFc36 rfl).trans e38.symm
      subst q38
      refine g_cmp_ge 44 231 (gd rfl) rfl rfl (fun c41 => ?_) (fun c41 => ?_)
      · skip
        have n231 : WFN sc36 (x1).toNatClampNeg (x2) := by exact wfn_i (by unfold nmx; rw [← e_109_20]; have a0 := h1; unfold In at a0; have a1 := ro_109_20; unfold In at a1; have a2 := ro_109_19; unfold In at a2; have a3 := j36_3; unfold In at a3; omega) (hFc36.1 112 rfl) (hFc36.1 113 rfl) (hFc36.1 114 rfl) (hFc36.1 115 rfl) (hFc36.2.1 130 rfl) (hFc36.2.2.1 109 19 rfl) (hFc36.2.2.1 109 20 rfl) q_0 g36_0 (by unfold nmx; rw [← e_109_20]; show _ ≤ ((y36_3.toInt.toNat : Nat) : Int); have a0 := h1; unfold In at a0; have a1 := ro_109_20; unfold In at a1; have a2 := ro_109_19; unfold In at a2; have a3 := j36_3; unfold In at a3; omega)
        exact g_return (gd rfl) rfl (hP _ _ ⟨sc36, hIc36, hFc36, rfl, rfl, n231⟩)
      · skip
        have i41 := r_lt1 0 31 c41 j36_3 ro_109_20 rfl
        have i41a := r_lt2 1 32 c41 j36_3 ro_109_20 rfl
        refine g_aload_n 45 (gd rfl) rfl rfl ?_
        refine g_getI 48 (gd rfl) rfl rfl rfl (fun z45 e45 => ?_)
        have q45 : u_109_19 = z45 := (fr_F e_109_19 hFc36 rfl).trans e45.symm
        subst q45
        refine g_istore 50 (gd rfl) rfl (Nat.le_of_ble_eq_true rfl) ?_
        have n50 : (u_109_19).toInt ≤ (u_109_19).toInt := by have a0 := h1; unfold In at a0; have a1 := i41a; unfold In at a1; have a2 := ro_109_19; unfold In at a2; have a3 := i41; unfold In at a3; omega
        have n50a : (u_109_19).toInt ≤ (u_109_19).toInt + 160 := by have a0 := h1; unfold In at a0; have a1 := i41a; unfold In at a1; have a2 := ro_109_19; unfold In at a2; have a3 := i41; unfold In at a3; omega
        have n50b : FQI s (x1).toNatClampNeg (x2) (sc36.1 131) (y36_3).toNatClampNeg ((u_109_19).toInt - u_109_19.toInt).toNat := by rw [show (u_109_19.toInt - u_109_19.toInt).toNat = 0 from (by omega)]; exact fqi_0 g36_0
        exact gg_w (by omega) (gg_f (gf_cons rfl (gf_cons rfl (gf_cons rfl (gf_cons rfl (gf_cons rfl gf_nil))))) (ct50 401 sc36 u_109_19 hIc36 hFc36 (in_w 0 31 i41 rfl) (in_w 0 400 ro_109_19 rfl) n50 n50a n50b (m_in 401 (in_w 0 400 ro_109_19 rfl) rfl)))
  have ct2 : ∀ (k2 : Nat) (sc2 : GS) (y2_3 : Int32), Inv sc2 → Fr fm_313 s sc2 → (In y2_3 0 32) → (∀ k : Nat, (k : Int) < (y2_3).toInt → (sc2.1 131 k).toInt = if k = (x1).toNatClampNeg then 0 else 1000) → 32 - (y2_3).toInt < (k2 : Int) → GG Z (d - 1) 313 post (gx xp) (11998835 + k2 * 900) 2 (fun j => xlook j [(0, .ref (A 109)), (1, .int x1), (2, .int x2), (3, .int y2_3)]) [] (WW Z A sc2 ++ ex) 0 0 := by
    intro k2
    induction k2 with
    | zero => intro sc2 y2_3 hIc2 hFc2 j2_3 g2_0 mm2; exact m_no mm2 j2_3 rfl
    | succ k2 ih2 =>
      intro sc2 y2_3 hIc2 hFc2 j2_3 g2_0 mm2
      refine gg_w (M := 11998835 + k2 * 900 + 900) (by omega) ?_
      refine g_iload_n 3 (gd rfl) rfl rfl ?_
      refine g_aload_n 4 (gd rfl) rfl rfl ?_
      refine g_getI 7 (gd rfl) rfl rfl rfl (fun z4 e4 => ?_)
      have q4 : u_109_20 = z4 := (fr_F e_109_20 hFc2 rfl).trans e4.symm
      subst q4
      refine g_cmp_ge 10 34 (gd rfl) rfl rfl (fun c7 => ?_) (fun c7 => ?_)
      · skip
        refine g_iconst 0 35 (gd rfl) rfl rfl ?_
        refine g_istore_n 36 (gd rfl) rfl (Nat.le_of_ble_eq_true rfl) ?_
        have n36 : FQ s (x1).toNatClampNeg (x2) (sc2.1 131) ((Int32.ofInt 0)).toNatClampNeg := by exact fq_0 (fun v hv => g2_0 v (by unfold nmx at hv; rw [← e_109_20] at hv; have a0 := h1; unfold In at a0; have a1 := ro_109_20; unfold In at a1; have a2 := ro_109_19; unfold In at a2; have a3 := j2_3; unfold In at a3; have a4 := (in_c 0 rfl); unfold In at a4; omega))
        exact gg_w (by omega) (gg_f (gf_cons rfl (gf_cons rfl (gf_cons rfl (gf_cons rfl gf_nil)))) (ct36 33 sc2 (Int32.ofInt 0) hIc2 hFc2 (in_w 0 32 (in_c 0 rfl) rfl) n36 (m_in 33 (in_w 0 32 (in_c 0 rfl) rfl) rfl)))
      · skip
        have i7 := r_lt1 0 31 c7 j2_3 ro_109_20 rfl
        have i7a := r_lt2 1 32 c7 j2_3 ro_109_20 rfl
        refine g_aload_n 11 (gd rfl) rfl rfl ?_
        refine g_getA (q2 := 131) 14 (gd rfl) rfl rfl rfl rfl ?_
        refine g_iload_n 15 (gd rfl) rfl rfl ?_
        refine g_iload_n 16 (gd rfl) rfl rfl ?_
        refine g_iload_n 17 (gd rfl) rfl rfl ?_
        refine g_cmp_ne 20 24 (gd rfl) rfl rfl (fun c17 => ?_) (fun c17 => ?_)
        · skip
          refine g_sipush 1000 27 (gd rfl) rfl rfl ?_
          refine g_iastore 28 (gd rfl) rfl (n := 32) rfl (in_ix i7 rfl) ?_
          have hI27 := inv_sI (q := 131) (j := y2_3.toNatClampNeg) hIc2 rfl (in_w (-2147483648) 2147483647 (in_c 1000 rfl) rfl)
          refine g_iinc 31 (gd rfl) rfl rfl (Nat.le_of_ble_eq_true rfl) (fun z28 e28 => ?_)
          have i28 := in_add 1 32 e28 i7 (in_c 1 rfl) rfl rfl
          refine g_goto 2 (gd rfl) rfl ?_
          have n2 : ∀ k : Nat, (k : Int) < (z28).toInt → ((sI sc2 131 y2_3.toNatClampNeg (Int32.ofInt 1000)).1 131 k).toInt = if k = (x1).toNatClampNeg then 0 else 1000 := by (intro k hk; have e3 : y2_3.toNatClampNeg = y2_3.toInt.toNat := rfl; have e1 : x1.toNatClampNeg = x1.toInt.toNat := rfl; have hc := c17; rw [sI_q]; by_cases c : k = y2_3.toNatClampNeg; (rw [c, up_e]; first | (rw [if_neg (by have a0 := h1; unfold In at a0; have a1 := i7a; unfold In at a1; have a2 := ro_109_19; unfold In at a2; have a3 := i7; unfold In at a3; have a4 := i28; unfold In at a4; have a5 := t_add e28 i7 (in_c 1 rfl) rfl; have a6 := (in_c 1 rfl); unfold In at a6; omega)]; rfl) | (rw [if_pos (by have a0 := h1; unfold In at a0; have a1 := i7a; unfold In at a1; have a2 := ro_109_19; unfold In at a2; have a3 := i7; unfold In at a3; have a4 := i28; unfold In at a4; have a5 := t_add e28 i7 (in_c 1 rfl) rfl; have a6 := (in_c 1 rfl); unfold In at a6; omega)]; rfl)); (rw [up_n c]; exact g2_0 k (by have a0 := h1; unfold In at a0; have a1 := i7a; unfold In at a1; have a2 := ro_109_19; unfold In at a2; have a3 := i7; unfold In at a3; have a4 := i28; unfold In at a4; have a5 := t_add e28 i7 (in_c 1 rfl) rfl; have a6 := (in_c 1 rfl); unfold In at a6; omega)))
          exact gg_w (by omega) (gg_f (gf_cons rfl (gf_cons rfl (gf_cons rfl (gf_cons rfl gf_nil)))) (ih2 (sI sc2 131 y2_3.toNatClampNeg (Int32.ofInt 1000)) z28 hI27 (fr_sI rfl hFc2) (in_w 0 32 i28 rfl) n2 (m_up mm2 (t_add e28 i7 (in_c 1 rfl) rfl) (in_w 1 1 (in_c 1 rfl) rfl))))
        · skip
          refine g_iconst 0 21 (gd rfl) rfl rfl ?_
          refine g_goto 27 (gd rfl) rfl ?_
          refine g_iastore 28 (gd rfl) rfl (n := 32) rfl (in_ix i7 rfl) ?_
          have hI27 := inv_sI (q := 131) (j := y2_3.toNatClampNeg) hIc2 rfl (in_w (-2147483648) 2147483647 (in_c 0 rfl) rfl)
          refine g_iinc 31 (gd rfl) rfl rfl (Nat.le_of_ble_eq_true rfl) (fun z28 e28 => ?_)
          have i28 := in_add 1 32 e28 i7 (in_c 1 rfl) rfl rfl
          refine g_goto 2 (gd rfl) rfl ?_
          have n2 : ∀ k : Nat, (k : Int) < (z28).toInt → ((sI sc2 131 y2_3.toNatClampNeg (Int32.ofInt 0)).1 131 k).toInt = if k = (x1).toNatClampNeg then 0 else 1000 := by (intro k hk; have e3 : y2_3.toNatClampNeg = y2_3.toInt.toNat := rfl; have e1 : x1.toNatClampNeg = x1.toInt.toNat := rfl; have hc := c17; rw [sI_q]; by_cases c : k = y2_3.toNatClampNeg; (rw [c, up_e]; first | (rw [if_neg (by have a0 := h1; unfold In at a0; have a1 := i7a; unfold In at a1; have a2 := ro_109_19; unfold In at a2; have a3 := i7; unfold In at a3; have a4 := i28; unfold In at a4; have a5 := t_add e28 i7 (in_c 1 rfl) rfl; have a6 := (in_c 1 rfl); unfold In at a6; omega)]; rfl) | (rw [if_pos (by have a0 := h1; unfold In at a0; have a1 := i7a; unfold In at a1; have a2 := ro_109_19; unfold In at a2; have a3 := i7; unfold In at a3; have a4 := i28; unfold In at a4; have a5 := t_add e28 i7 (in_c 1 rfl) rfl; have a6 := (in_c 1 rfl); unfold In at a6; omega)]; rfl)); (rw [up_n c]; exact g2_0 k (by have a0 := h1; unfold In at a0; have a1 := i7a; unfold In at a1; have a2 := ro_109_19; unfold In at a2; have a3 := i7; unfold In at a3; have a4 := i28; unfold In at a4; have a5 := t_add e28 i7 (in_c 1 rfl) rfl; have a6 := (in_c 1 rfl); unfold In at a6; omega)))
          exact gg_w (by omega) (gg_f (gf_cons rfl (gf_cons rfl (gf_cons rfl (gf_cons rfl gf_nil)))) (ih2 (sI sc2 131 y2_3.toNatClampNeg (Int32.ofInt 0)) z28 hI27 (fr_sI rfl hFc2) (in_w 0 32 i28 rfl) n2 (m_up mm2 (t_add e28 i7 (in_c 1 rfl) rfl) (in_w 1 1 (in_c 1 rfl) rfl))))
  refine g_enter2 (k := 313) (N := 12029435) (by omega) rfl (Nat.le_of_ble_eq_true rfl) ?_
  refine g_iconst 0 1 (gd rfl) rfl rfl ?_
  refine g_istore_n 2 (gd rfl) rfl (Nat.le_of_ble_eq_true rfl) ?_
  have n2 : ∀ k : Nat, (k : Int) < ((Int32.ofInt 0)).toInt → (s.1 131 k).toInt = if k = (x1).toNatClampNeg then 0 else 1000 := by (intro k hk; exfalso; have h0 : (Int32.ofInt 0).toInt = 0 := rfl; omega)
  exact gg_w (by omega) (gg_f (gf_cons rfl (gf_cons rfl (gf_cons rfl (gf_cons rfl gf_nil)))) (ct2 33 s (Int32.ofInt 0) hI fr_rf (in_w 0 32 (in_c 0 rfl) rfl) n2 (m_in 33 (in_w 0 32 (in_c 0 rfl) rfl) rfl)))

def fm_314 : FM := ([129], [], [], [])
/-- GraphHouseModel.between -/
theorem k_314 {Z : AmZ} {A : Nat → Nat} {s : GS} {ex : va_W} {d : Nat} {X : AmX} {x1 : Int32} {x2 : Int32} (hd : 3 ≤ d) (hI : Inv s) (h1 : In x1 0 31) (h2 : In x2 0 31) (q_0 : (x1).toInt < nmx s ∧ (x2).toInt < nmx s) : GC Z d 314 [.ref (A 109), .int x1, .int x2] (WW Z A s ++ ex) 0 0 (fun v u => ∃ t : GS, Inv t ∧ Fr fm_314 s t ∧ ∃ z : Int32, v = some (.int z) ∧ u = WW Z A t ++ ex ∧ In z (-2147483648) 2147483647 ∧ ((z).toInt ≠ 0 → BTS t (x2).toNatClampNeg (z) ∧ bt (z) (x1).toNatClampNeg = true)) X := by
  intro post xp hP hX
  obtain ⟨u_109_20, e_109_20⟩ : ∃ w, w = s.2.2.1 109 20 := ⟨_, rfl⟩
  have ro_109_20 := inv_F hI 0 32 rfl e_109_20
  have ct12 : ∀ (k12 : Nat) (sc12 : GS) (y12_3 : Int32) (y12_4 : Int32), Inv sc12 → Fr fm_314 s sc12 → (In y12_4 0 32) → ((y12_4).toInt ≤ (u_109_20).toInt) → (∀ j : Nat, (j : Int) < nmx sc12 → bt (sc12.1 129 j) j = true) → (RCH sc12 (sc12.1 129)) → (∀ v : Nat, (bt (y12_3) v = true ↔ ((v : Int) < (y12_4).toInt ∧ bt (sc12.1 129 (x1).toNatClampNeg) v = true ∧ bt (sc12.1 129 v) (x2).toNatClampNeg = true))) → 32 - (y12_4).toInt < (k12 : Int) → GG Z (d - 1) 314 post (gx xp) (1 + k12 * 900) 12 (fun j => xlook j [(0, .ref (A 109)), (1, .int x1), (2, .int x2), (3, .int y12_3), (4, .int y12_4)]) [] (WW Z A sc12 ++ ex) 0 0 := by
    intro k12
    induction k12 with
    | zero => intro sc12 y12_3 y12_4 hIc12 hFc12 j12_4 n12_0 g12_0 g12_1 g12_2 mm12; exact m_no mm12 j12_4 rfl
    | succ k12 ih12 =>
      intro sc12 y12_3 y12_4 hIc12 hFc12 j12_4 n12_0 g12_0 g12_1 g12_2 mm12
      refine gg_w (M := 1 + k12 * 900 + 900) (by omega) ?_
      refine g_iload 14 (gd rfl) rfl rfl ?_
      refine g_aload_n 15 (gd rfl) rfl rfl ?_
      refine g_getI 18 (gd rfl) rfl rfl rfl (fun z15 e15 => ?_)
      have q15 : u_109_20 = z15 := (fr_F e_109_20 hFc12 rfl).trans e15.symm
      subst q15
      refine g_cmp_ge 21 66 (gd rfl) rfl rfl (fun c18 => ?_) (fun c18 => ?_)
      · skip
        refine g_iload_n 67 (gd rfl) rfl rfl ?_
        have n67 : (y12_3).toInt ≠ 0 → BTS sc12 (x2).toNatClampNeg (y12_3) ∧ bt (y12_3) (x1).toNatClampNeg = true := by intro hz; have en : nmx sc12 = nmx s := (by unfold nmx; rw [hFc12.2.2.1 109 20 rfl]); exact bts_i hIc12 (by rw [en]; show ((x1.toInt.toNat : Nat) : Int) < _; have h := q_0.1; have a0 := h2; unfold In at a0; have a1 := h1; unfold In at a1; have a2 := ro_109_20; unfold In at a2; have a3 := j12_4; unfold In at a3; omega) (by rw [en]; show ((x2.toInt.toNat : Nat) : Int) < _; have h := q_0.2; have a0 := h2; unfold In at a0; have a1 := h1; unfold In at a1; have a2 := ro_109_20; unfold In at a2; have a3 := j12_4; unfold In at a3; omega) g12_0 g12_1 (fun v => by rw [g12_2 v, show y12_4.toInt = nmx sc12 from (by rw [en]; unfold nmx; rw [← e_109_20]; have a0 := h2; unfold In at a0; have a1 := h1; unfold In at a1; have a2 := ro_109_20; unfold In at a2; have a3 := j12_4; unfold In at a3; omega)]) hz
        exact g_ireturn (gd rfl) rfl rfl (hP _ _ ⟨sc12, hIc12, hFc12, y12_3, rfl, rfl, in_w (-2147483648) 2147483647 (i_rng y12_3) rfl, n67⟩)
      · skip
        have i18 := r_lt1 0 31 c18 j12_4 ro_109_20 rfl
        have i18a := r_lt2 1 32 c18 j12_4 ro_109_20 rfl
        refine g_iload_n 22 (gd rfl) rfl rfl ?_
        refine g_aload_n 23 (gd rfl) rfl rfl ?_
        refine g_getA (q2 := 129) 26 (gd rfl) rfl rfl rfl rfl ?_
        refine g_iload_n 27 (gd rfl) rfl rfl ?_
        refine g_iaload 28 (gd rfl) rfl (n := 32) rfl (in_ix h1 rfl) (fun z27 e27 => ?_)
        refine g_iload 30 (gd rfl) rfl rfl ?_
        refine g_calls (As := [.int z27, .int y12_4]) (r := [.int y12_3]) 33 (gd rfl) rfl rfl rfl rfl rfl (Nat.le_of_ble_eq_true rfl) (mc := 0) (ms := 0) (Nat.zero_le _) (Nat.zero_le _) (P := fun v u => _) ?_ (fun v u h => h)
        intro po30 xx30 hp30 hx30
        refine g_enter2 (k := 311) (N := 300) (by omega) rfl (Nat.le_of_ble_eq_true rfl) ?_
        refine g_iload_n 1 (gd rfl) rfl rfl ?_
        refine g_iload_n 2 (gd rfl) rfl rfl ?_
        refine g_ishr 3 (gd rfl) rfl (fun z30x2 e30x2 => ?_)
        refine g_iconst 1 4 (gd rfl) rfl rfl ?_
        refine g_iand 5 (gd rfl) rfl (fun z30x4 e30x4 => ?_)
        have i30x4 := in_and2 e30x4 (in_c 1 rfl) rfl
        refine g_iconst 1 6 (gd rfl) rfl rfl ?_
        refine g_cmp_ne 9 13 (gd rfl) rfl rfl (fun c30x6 => ?_) (fun c30x6 => ?_)
        · skip
          have i30x6 := r_ne1 0 0 c30x6 i30x4 (in_c 1 rfl) rfl
          refine g_iconst 0 14 (gd rfl) rfl rfl ?_
          refine g_ireturn (gd rfl) rfl (nb01 (in_w 0 1 (in_c 0 rfl) rfl)) (hp30 _ _ ?_)
          show GG _ _ _ _ _ _ _ _ [.int (Int32.ofInt 0), .int y12_3] _ _ _
          refine g_if_eq 36 57 (gd rfl) rfl rfl (fun c33 => ?_) (fun c33 => ?_)
          · skip
            refine g_iconst 0 58 (gd rfl) rfl rfl ?_
            refine g_ior 59 (gd rfl) rfl (fun z58 e58 => ?_)
            refine g_istore_n 60 (gd rfl) rfl (Nat.le_of_ble_eq_true rfl) ?_
            refine g_iinc 63 (gd rfl) rfl rfl (Nat.le_of_ble_eq_true rfl) (fun z60 e60 => ?_)
            have i60 := in_add 1 32 e60 i18 (in_c 1 rfl) rfl rfl
            refine g_goto 12 (gd rfl) rfl ?_
            have n12 : (z60).toInt ≤ (u_109_20).toInt := by have a0 := h2; unfold In at a0; have a1 := h1; unfold In at a1; have a2 := i18a; unfold In at a2; have a3 := i18; unfold In at a3; have a4 := i60; unfold In at a4; have a5 := t_add e60 i18 (in_c 1 rfl) rfl; have a6 := (in_c 1 rfl); unfold In at a6; omega
            have n12a : ∀ j : Nat, (j : Int) < nmx sc12 → bt (sc12.1 129 j) j = true := by first | exact g12_0 | exact fun j hj => p4 j ⟨hj, by have h0 : (Int32.ofInt (-1)).toInt = -1 := rfl; rw [h0]; omega⟩
            have n12b : RCH sc12 (sc12.1 129) := by first | exact g12_1 | exact p4a rfl rfl rfl
            have n12c : ∀ v : Nat, (bt (z58) v = true ↔ ((v : Int) < (z60).toInt ∧ bt (sc12.1 129 (x1).toNatClampNeg) v = true ∧ bt (sc12.1 129 v) (x2).toNatClampNeg = true)) := by exact bset_no g12_2 (by have a0 := h2; unfold In at a0; have a1 := h1; unfold In at a1; have a2 := i18a; unfold In at a2; have a3 := i18; unfold In at a3; have a4 := i60; unfold In at a4; have a5 := t_add e60 i18 (in_c 1 rfl) rfl; have a6 := (in_c 1 rfl); unfold In at a6; omega) (by have a0 := h2; unfold In at a0; have a1 := h1; unfold In at a1; have a2 := i18a; unfold In at a2; have a3 := i18; unfold In at a3; have a4 := i60; unfold In at a4; have a5 := t_add e60 i18 (in_c 1 rfl) rfl; have a6 := (in_c 1 rfl); unfold In at a6; omega) (fun h => by have hb := bt_no e30x2 e30x4 i18 c30x6; rw [e27, h.1] at hb; cases hb) e58
            exact gg_w (by omega) (gg_f (gf_cons rfl (gf_cons rfl (gf_cons rfl (gf_cons rfl (gf_cons rfl gf_nil))))) (ih12 sc12 z58 z60 hIc12 hFc12 (in_w 0 32 i60 rfl) n12 n12a n12b n12c (m_up mm12 (t_add e60 i18 (in_c 1 rfl) rfl) (in_w 1 1 (in_c 1 rfl) rfl))))
          · skip
            exact zn_ne c33 (in_c 0 rfl) rfl
        · skip
          have i30x6 := r_eq1 1 1 c30x6 i30x4 (in_c 1 rfl) rfl
          refine g_iconst 1 10 (gd rfl) rfl rfl ?_
          refine g_goto 14 (gd rfl) rfl ?_
          refine g_ireturn (gd rfl) rfl (nb01 (in_w 0 1 (in_c 1 rfl) rfl)) (hp30 _ _ ?_)
          show GG _ _ _ _ _ _ _ _ [.int (Int32.ofInt 1), .int y12_3] _ _ _
          refine g_if_eq 36 57 (gd rfl) rfl rfl (fun c33 => ?_) (fun c33 => ?_)
          · skip
            exact zn_eq c33 (in_c 1 rfl) rfl
          · skip
            refine g_aload_n 37 (gd rfl) rfl rfl ?_
            refine g_getA (q2 := 129) 40 (gd rfl) rfl rfl rfl rfl ?_
            refine g_iload 42 (gd rfl) rfl rfl ?_
            refine g_iaload 43 (gd rfl) rfl (n := 32) rfl (in_ix i18 rfl) (fun z42 e42 => ?_)
            refine g_iload_n 44 (gd rfl) rfl rfl ?_
            refine g_calls (As := [.int z42, .int x2]) (r := [.int y12_3]) 47 (gd rfl) rfl rfl rfl rfl rfl (Nat.le_of_ble_eq_true rfl) (mc := 0) (ms := 0) (Nat.zero_le _) (Nat.zero_le _) (P := fun v u => _) ?_ (fun v u h => h)
            intro po44 xx44 hp44 hx44
            refine g_enter2 (k := 311) (N := 300) (by omega) rfl (Nat.le_of_ble_eq_true rfl) ?_
            refine g_iload_n 1 (gd rfl) rfl rfl ?_
            refine g_iload_n 2 (gd rfl) rfl rfl ?_
            refine g_ishr 3 (gd rfl) rfl (fun z44x2 e44x2 => ?_)
            refine g_iconst 1 4 (gd rfl) rfl rfl ?_
            refine g_iand 5 (gd rfl) rfl (fun z44x4 e44x4 => ?_)
            have i44x4 := in_and2 e44x4 (in_c 1 rfl) rfl
            refine g_iconst 1 6 (gd rfl) rfl rfl ?_
            refine g_cmp_ne 9 13 (gd rfl) rfl rfl (fun c44x6 => ?_) (fun c44x6 => ?_)
            · skip
              have i44x6 := r_ne1 0 0 c44x6 i44x4 (in_c 1 rfl) rfl
              refine g_iconst 0 14 (gd rfl) rfl rfl ?_
              refine g_ireturn (gd rfl) rfl (nb01 (in_w 0 1 (in_c 0 rfl) rfl)) (hp44 _ _ ?_)
              show GG _ _ _ _ _ _ _ _ [.int (Int32.ofInt 0), .int y12_3] _ _ _
              refine g_if_eq 50 57 (gd rfl) rfl rfl (fun c47 => ?_) (fun c47 => ?_)
              · skip
                refine g_iconst 0 58 (gd rfl) rfl rfl ?_
                refine g_ior 59 (gd rfl) rfl (fun z58 e58 => ?_)
                refine g_istore_n 60 (gd rfl) rfl (Nat.le_of_ble_eq_true rfl) ?_
                refine g_iinc 63 (gd rfl) rfl rfl (Nat.le_of_ble_eq_true rfl) (fun z60 e60 => ?_)
                have i60 := in_add 1 32 e60 i18 (in_c 1 rfl) rfl rfl
                refine g_goto 12 (gd rfl) rfl ?_
                have n12 : (z60).toInt ≤ (u_109_20).toInt := by have a0 := h2; unfold In at a0; have a1 := h1; unfold In at a1; have a2 := i18a; unfold In at a2; have a3 := i18; unfold In at a3; have a4 := i60; unfold In at a4; have a5 := t_add e60 i18 (in_c 1 rfl) rfl; have a6 := (in_c 1 rfl); unfold In at a6; omega
                have n12a : ∀ j : Nat, (j : Int) < nmx sc12 → bt (sc12.1 129 j) j = true := by first | exact g12_0 | exact fun j hj => p4 j ⟨hj, by have h0 : (Int32.ofInt (-1)).toInt = -1 := rfl; rw [h0]; omega⟩
                have n12b : RCH sc12 (sc12.1 129) := by first | exact g12_1 | exact p4a rfl rfl rfl
                have n12c : ∀ v : Nat, (bt (z58) v = true ↔ ((v : Int) < (z60).toInt ∧ bt (sc12.1 129 (x1).toNatClampNeg) v = true ∧ bt (sc12.1 129 v) (x2).toNatClampNeg = true)) := by exact bset_no g12_2 (by have a0 := h2; unfold In at a0; have a1 := h1; unfold In at a1; have a2 := i18a; unfold In at a2; have a3 := i18; unfold In at a3; have a4 := i60; unfold In at a4; have a5 := t_add e60 i18 (in_c 1 rfl) rfl; have a6 := (in_c 1 rfl); unfold In at a6; omega) (by have a0 := h2; unfold In at a0; have a1 := h1; unfold In at a1; have a2 := i18a; unfold In at a2; have a3 := i18; unfold In at a3; have a4 := i60; unfold In at a4; have a5 := t_add e60 i18 (in_c 1 rfl) rfl; have a6 := (in_c 1 rfl); unfold In at a6; omega) (fun h => by have hb := bt_no e44x2 e44x4 h2 c44x6; rw [e42, h.2] at hb; cases hb) e58
                exact gg_w (by omega) (gg_f (gf_cons rfl (gf_cons rfl (gf_cons rfl (gf_cons rfl (gf_cons rfl gf_nil))))) (ih12 sc12 z58 z60 hIc12 hFc12 (in_w 0 32 i60 rfl) n12 n12a n12b n12c (m_up mm12 (t_add e60 i18 (in_c 1 rfl) rfl) (in_w 1 1 (in_c 1 rfl) rfl))))
              · skip
                exact zn_ne c47 (in_c 0 rfl) rfl
            · skip
              have i44x6 := r_eq1 1 1 c44x6 i44x4 (in_c 1 rfl) rfl
              refine g_iconst 1 10 (gd rfl) rfl rfl ?_
              refine g_goto 14 (gd rfl) rfl ?_
              refine g_ireturn (gd rfl) rfl (nb01 (in_w 0 1 (in_c 1 rfl) rfl)) (hp44 _ _ ?_)
              show GG _ _ _ _ _ _ _ _ [.int (Int32.ofInt 1), .int y12_3] _ _ _
              refine g_if_eq 50 57 (gd rfl) rfl rfl (fun c47 => ?_) (fun c47 => ?_)
              · skip
                exact zn_eq c47 (in_c 1 rfl) rfl
              · skip
                refine g_iconst 1 51 (gd rfl) rfl rfl ?_
                refine g_iload 53 (gd rfl) rfl rfl ?_
                refine g_ishl 54 (gd rfl) rfl (fun z53 e53 => ?_)
                refine g_goto 58 (gd rfl) rfl ?_
                refine g_ior 59 (gd rfl) rfl (fun z58 e58 => ?_)
                refine g_istore_n 60 (gd rfl) rfl (Nat.le_of_ble_eq_true rfl) ?_
                refine g_iinc 63 (gd rfl) rfl rfl (Nat.le_of_ble_eq_true rfl) (fun z60 e60 => ?_)
                have i60 := in_add 1 32 e60 i18 (in_c 1 rfl) rfl rfl
                refine g_goto 12 (gd rfl) rfl ?_
                have n12 : (z60).toInt ≤ (u_109_20).toInt := by have a0 := h2; unfold In at a0; have a1 := h1; unfold In at a1; have a2 := i18a; unfold In at a2; have a3 := i18; unfold In at a3; have a4 := i60; unfold In at a4; have a5 := t_add e60 i18 (in_c 1 rfl) rfl; have a6 := (in_c 1 rfl); unfold In at a6; omega
                have n12a : ∀ j : Nat, (j : Int) < nmx sc12 → bt (sc12.1 129 j) j = true := by first | exact g12_0 | exact fun j hj => p4 j ⟨hj, by have h0 : (Int32.ofInt (-1)).toInt = -1 := rfl; rw [h0]; omega⟩
                have n12b : RCH sc12 (sc12.1 129) := by first | exact g12_1 | exact p4a rfl rfl rfl
                have n12c : ∀ v : Nat, (bt (z58) v = true ↔ ((v : Int) < (z60).toInt ∧ bt (sc12.1 129 (x1).toNatClampNeg) v = true ∧ bt (sc12.1 129 v) (x2).toNatClampNeg = true)) := by exact bset_yes g12_2 (by have a0 := h2; unfold In at a0; have a1 := h1; unfold In at a1; have a2 := i18a; unfold In at a2; have a3 := i18; unfold In at a3; have a4 := i60; unfold In at a4; have a5 := t_add e60 i18 (in_c 1 rfl) rfl; have a6 := (in_c 1 rfl); unfold In at a6; omega) i18 (by rw [← e27]; exact bt_yes e30x2 e30x4 i18 c30x6) (by rw [← e42]; exact bt_yes e44x2 e44x4 h2 c44x6) e53 e58
                exact gg_w (by omega) (gg_f (gf_cons rfl (gf_cons rfl (gf_cons rfl (gf_cons rfl (gf_cons rfl gf_nil))))) (ih12 sc12 z58 z60 hIc12 hFc12 (in_w 0 32 i60 rfl) n12 n12a n12b n12c (m_up mm12 (t_add e60 i18 (in_c 1 rfl) rfl) (in_w 1 1 (in_c 1 rfl) rfl))))
  refine g_enter2 (k := 314) (N := 30601) (by omega) rfl (Nat.le_of_ble_eq_true rfl) ?_
  refine g_aload_n 1 (gd rfl) rfl rfl ?_
  refine g_iconst 0 2 (gd rfl) rfl rfl ?_
  refine g_iconst (-1) 3 (gd rfl) rfl rfl ?_
  refine g_iconst (-1) 4 (gd rfl) rfl rfl ?_
  refine g_callv (X := _) (As := [.int (Int32.ofInt 0), .int (Int32.ofInt (-1)), .int (Int32.ofInt (-1))]) (r := []) (b := A 109) (q := 109) 7 (gd rfl) rfl rfl rfl rfl rfl (ww_o rfl) (Nat.le_of_ble_eq_true rfl) (Nat.zero_le _) (Nat.zero_le _) (k_310 (by omega) hI (in_w 0 1 (in_c 0 rfl) rfl) (in_w (-1) 159 (in_c (-1) rfl) rfl) (in_w (-1) 31 (in_c (-1) rfl) rfl)) (fun e u h => h) (fun v u h => ?_)
  obtain ⟨s4, hI4, hF4, rfl, rfl, p4, p4a⟩ := h
  show GG _ _ _ _ _ _ _ _ [] _ _ _
  refine g_iconst 0 8 (gd rfl) rfl rfl ?_
  refine g_istore_n 9 (gd rfl) rfl (Nat.le_of_ble_eq_true rfl) ?_
  refine g_iconst 0 10 (gd rfl) rfl rfl ?_
  refine g_istore 12 (gd rfl) rfl (Nat.le_of_ble_eq_true rfl) ?_
  have n12 : ((Int32.ofInt 0)).toInt ≤ (u_109_20).toInt := by have a0 := ro_109_20; unfold In at a0; have a1 := h2; unfold In at a1; have a2 := h1; unfold In at a2; have a3 := (in_c 0 rfl); unfold In at a3; omega
  have n12a : ∀ j : Nat, (j : Int) < nmx s4 → bt (s4.1 129 j) j = true := by first | exact g12_0 | exact fun j hj => p4 j ⟨hj, by have h0 : (Int32.ofInt (-1)).toInt = -1 := rfl; rw [h0]; omega⟩
  have n12b : RCH s4 (s4.1 129) := by first | exact g12_1 | exact p4a rfl rfl rfl
  have n12c : ∀ v : Nat, (bt ((Int32.ofInt 0)) v = true ↔ ((v : Int) < ((Int32.ofInt 0)).toInt ∧ bt (s4.1 129 (x1).toNatClampNeg) v = true ∧ bt (s4.1 129 v) (x2).toNatClampNeg = true)) := by (intro v; rw [show (Int32.ofInt 0) = (0 : Int32) from rfl, bt_z]; exact ⟨fun h => (by cases h), fun h => by exfalso; have h1 := h.1; have h0 : (0 : Int32).toInt = 0 := rfl; omega⟩)
  exact gg_w (by omega) (gg_f (gf_cons rfl (gf_cons rfl (gf_cons rfl (gf_cons rfl (gf_cons rfl gf_nil))))) (ct12 33 s4 (Int32.ofInt 0) (Int32.ofInt 0) hI4 (fr_tr rfl fr_rf hF4) (in_w 0 32 (in_c 0 rfl) rfl) n12 n12a n12b n12c (m_in 33 (in_w 0 32 (in_c 0 rfl) rfl) rfl)))

def fm_312 : FM := ([131], [130], [], [])
/-- GraphHouseModel.toGoal -/
theorem k_312 {Z : AmZ} {A : Nat → Nat} {s : GS} {ex : va_W} {d : Nat} {X : AmX} {x1 : Int32} {x2 : Int32} (hd : 4 ≤ d) (hI : Inv s) (h1 : In x1 0 31) (q_0 : BTS s (x1).toNatClampNeg (x2)) : GC Z d 312 [.ref (A 109), .int x1, .int x2] (WW Z A s ++ ex) 0 0 (fun v u => ∃ t : GS, Inv t ∧ Fr fm_312 s t ∧ ∃ z : Int32, v = some (.int z) ∧ u = WW Z A t ++ ex ∧ In z 0 1 ∧ ((z).toInt ≠ 0 → WFN t (x1).toNatClampNeg (x2))) X := by
  intro post xp hP hX
  obtain ⟨u_109_19, e_109_19⟩ : ∃ w, w = s.2.2.1 109 19 := ⟨_, rfl⟩
  have ro_109_19 := inv_F hI 0 160 rfl e_109_19
  obtain ⟨u_109_20, e_109_20⟩ : ∃ w, w = s.2.2.1 109 20 := ⟨_, rfl⟩
  have ro_109_20 := inv_F hI 0 32 rfl e_109_20
  have ct234 : ∀ (sc234 : GS) (y234_3 : Int32) (y234_4 : Int32), Inv sc234 → Fr fm_312 s sc234 → (In y234_3 0 1) → (In y234_4 0 33) → ((y234_3).toInt = 0 → TGI s (x1).toNatClampNeg (x2) 10000000000 sc234 ∧ TCL s (x2) sc234 160) → GG Z (d - 1) 312 post (gx xp) (901) 234 (fun j => xlook j [(0, .ref (A 109)), (1, .int x1), (2, .int x2), (3, .int y234_3), (4, .int y234_4)]) [] (WW Z A sc234 ++ ex) 0 0 := by
    intro sc234 y234_3 y234_4 hIc234 hFc234 j234_3 j234_4 g234_0
    refine g_iload_n 235 (gd rfl) rfl rfl ?_
    refine g_if_eq 238 240 (gd rfl) rfl rfl (fun c235 => ?_) (fun c235 => ?_)
    · skip
      have i235 := z_eq 0 0 c235 j234_3 rfl
      refine g_aload_n 241 (gd rfl) rfl rfl ?_
      refine g_iload_n 242 (gd rfl) rfl rfl ?_
      refine g_iload_n 243 (gd rfl) rfl rfl ?_
      have p243 : FWP sc234 (x1).toNatClampNeg (x2) := by exact fwp_i hI (hFc234.1 112 rfl) (hFc234.1 113 rfl) (hFc234.1 114 rfl) (hFc234.1 115 rfl) (hFc234.2.2.1 109 19 rfl) (hFc234.2.2.1 109 20 rfl) q_0 (g234_0 c235).1 (by omega) (g234_0 c235).2
      refine g_callv (X := _) (As := [.int x1, .int x2]) (r := []) (b := A 109) (q := 109) 246 (gd rfl) rfl rfl rfl rfl rfl (ww_o rfl) (Nat.le_of_ble_eq_true rfl) (Nat.zero_le _) (Nat.zero_le _) (k_313 (by omega) hIc234 (in_w 0 31 h1 rfl) p243) (fun e u h => h) (fun v u h => ?_)
      obtain ⟨s243, hI243, hF243, rfl, rfl, p243a⟩ := h
      show GG _ _ _ _ _ _ _ _ [] _ _ _
      refine g_iconst 1 247 (gd rfl) rfl rfl ?_
      have n247 : ((Int32.ofInt 1)).toInt ≠ 0 → WFN s243 (x1).toNatClampNeg (x2) := by exact fun _ => p243a
      exact g_ireturn (gd rfl) rfl (nb01 (in_w 0 1 (in_c 1 rfl) rfl)) (hP _ _ ⟨s243, hI243, (fr_tr rfl hFc234 hF243), (Int32.ofInt 1), rfl, rfl, in_w 0 1 (in_c 1 rfl) rfl, n247⟩)
    · skip
      have i235 := z_ne 1 1 c235 j234_3 rfl
      refine g_iconst 0 239 (gd rfl) rfl rfl ?_
      have n239 : ((Int32.ofInt 0)).toInt ≠ 0 → WFN sc234 (x1).toNatClampNeg (x2) := by exact fun hz => absurd (by decide) hz
      exact g_ireturn (gd rfl) rfl (nb01 (in_w 0 1 (in_c 0 rfl) rfl)) (hP _ _ ⟨sc234, hIc234, hFc234, (Int32.ofInt 0), rfl, rfl, in_w 0 1 (in_c 0 rfl) rfl, n239⟩)
  have ct44 : ∀ (k44 : Nat) (sc44 : GS) (y44_3 : Int32) (y44_4 : Int32), Inv sc44 → Fr fm_312 s sc44 → (In y44_3 0 1) → (In y44_4 0 33) → (TGI s (x1).toNatClampNeg (x2) (160000000 * (y44_4).toInt) sc44) → ((y44_3).toInt = 0 → TCL s (x2) sc44 160) → 33 - (y44_4).toInt < (k44 : Int) → GG Z (d - 1) 312 post (gx xp) (902 + k44 * 868082) 44 (fun j => xlook j [(0, .ref (A 109)), (1, .int x1), (2, .int x2), (3, .int y44_3), (4, .int y44_4)]) [] (WW Z A sc44 ++ ex) 0 0 := by
    intro k44
    induction k44 with
    | zero => intro sc44 y44_3 y44_4 hIc44 hFc44 j44_3 j44_4 g44_0 g44_1 mm44; exact m_no mm44 j44_4 rfl
    | succ k44 ih44 =>
      intro sc44 y44_3 y44_4 hIc44 hFc44 j44_3 j44_4 g44_0 g44_1 mm44
      refine gg_w (M := 902 + k44 * 868082 + 868082) (by omega) ?_
      have ct65 : ∀ (k65 : Nat) (sc65 : GS) (y65_3 : Int32) (y65_5 : Int32), Inv sc65 → Fr fm_312 s sc65 → (In y65_3 0 1) → (In y44_4 0 32) → (In y65_5 0 479) → ((u_109_19).toInt ≤ (y65_5).toInt) → ((y65_5).toInt ≤ (u_109_19).toInt + 160) → (TGI s (x1).toNatClampNeg (x2) (160000000 * (y44_4).toInt + 1000000 * ((y65_5).toInt - u_109_19.toInt)) sc65) → ((y65_3).toInt = 0 → TCL s (x2) sc65 ((y65_5).toInt - u_109_19.toInt).toNat) → 479 - (y65_5).toInt < (k65 : Int) → GG Z (d - 1) 312 post (gx xp) (902 + k44 * 868082 + 1 + k65 * 1801) 65 (fun j => xlook j [(0, .ref (A 109)), (1, .int x1), (2, .int x2), (3, .int y65_3), (4, .int y44_4), (5, .int y65_5)]) [] (WW Z A sc65 ++ ex) 0 0 := by
        intro k65
        induction k65 with
        | zero => intro sc65 y65_3 y65_5 hIc65 hFc65 j65_3 j65_4 j65_5 n65_0 n65_1 g65_0 g65_1 mm65; exact m_no mm65 j65_5 rfl
        | succ k65 ih65 =>
          intro sc65 y65_3 y65_5 hIc65 hFc65 j65_3 j65_4 j65_5 n65_0 n65_1 g65_0 g65_1 mm65
          refine gg_w (M := 902 + k44 * 868082 + 1 + k65 * 1801 + 1801) (by omega) ?_
          have ct222 : ∀ (sc222 : GS) (y222_3 : Int32), Inv sc222 → Fr fm_312 s sc222 → (In y222_3 0 1) → (In y65_5 0 400) → ((u_109_19).toInt ≤ (y65_5).toInt) → ((y65_5).toInt < (u_109_19).toInt + 160) → (TGI s (x1).toNatClampNeg (x2) ((160000000 * (y44_4).toInt + 1000000 * ((y65_5).toInt - u_109_19.toInt)) + 1000000) sc222) → ((y222_3).toInt = 0 → TCL s (x2) sc222 (((y65_5).toInt - u_109_19.toInt).toNat + 1)) → GG Z (d - 1) 312 post (gx xp) (902 + k44 * 868082 + 1 + k65 * 1801 + 901) 222 (fun j => xlook j [(0, .ref (A 109)), (1, .int x1), (2, .int x2), (3, .int y222_3), (4, .int y44_4), (5, .int y65_5)]) [] (WW Z A sc222 ++ ex) 0 0 := by
            intro sc222 y222_3 hIc222 hFc222 j222_3 j222_5 n222_0 n222_1 g222_0 g222_1
            refine g_iinc 225 (gd rfl) rfl rfl (Nat.le_of_ble_eq_true rfl) (fun z222 e222 => ?_)
            have i222 := in_add 1 401 e222 j222_5 (in_c 1 rfl) rfl rfl
            refine g_goto 65 (gd rfl) rfl ?_
            have n65 : (u_109_19).toInt ≤ (z222).toInt := by have a0 := j222_5; unfold In at a0; have a1 := j65_4; unfold In at a1; have a2 := h1; unfold In at a2; have a3 := ro_109_20; unfold In at a3; have a4 := ro_109_19; unfold In at a4; have a5 := j222_3; unfold In at a5; have a6 := i222; unfold In at a6; have a7 := t_add e222 j222_5 (in_c 1 rfl) rfl; have a8 := (in_c 1 rfl); unfold In at a8; omega
            have n65a : (z222).toInt ≤ (u_109_19).toInt + 160 := by have a0 := j222_5; unfold In at a0; have a1 := j65_4; unfold In at a1; have a2 := h1; unfold In at a2; have a3 := ro_109_20; unfold In at a3; have a4 := ro_109_19; unfold In at a4; have a5 := j222_3; unfold In at a5; have a6 := i222; unfold In at a6; have a7 := t_add e222 j222_5 (in_c 1 rfl) rfl; have a8 := (in_c 1 rfl); unfold In at a8; omega
            have n65b : TGI s (x1).toNatClampNeg (x2) (160000000 * (y44_4).toInt + 1000000 * ((z222).toInt - u_109_19.toInt)) sc222 := by exact tgi_w g222_0 (by have a0 := j222_5; unfold In at a0; have a1 := j65_4; unfold In at a1; have a2 := h1; unfold In at a2; have a3 := ro_109_20; unfold In at a3; have a4 := ro_109_19; unfold In at a4; have a5 := j222_3; unfold In at a5; have a6 := i222; unfold In at a6; have a7 := t_add e222 j222_5 (in_c 1 rfl) rfl; have a8 := (in_c 1 rfl); unfold In at a8; omega)
            have n65c : (y222_3).toInt = 0 → TCL s (x2) sc222 ((z222).toInt - u_109_19.toInt).toNat := by (intro hz; rw [show (z222.toInt - u_109_19.toInt).toNat = (y65_5.toInt - u_109_19.toInt).toNat + 1 from (by have a0 := j222_5; unfold In at a0; have a1 := j65_4; unfold In at a1; have a2 := h1; unfold In at a2; have a3 := ro_109_20; unfold In at a3; have a4 := ro_109_19; unfold In at a4; have a5 := j222_3; unfold In at a5; have a6 := i222; unfold In at a6; have a7 := t_add e222 j222_5 (in_c 1 rfl) rfl; have a8 := (in_c 1 rfl); unfold In at a8; omega)]; exact g222_1 hz)
            exact gg_w (by omega) (gg_f (gf_cons rfl (gf_cons rfl (gf_cons rfl (gf_cons rfl (gf_cons rfl (gf_cons rfl gf_nil)))))) (ih65 sc222 y222_3 z222 hIc222 hFc222 (in_w 0 1 j222_3 rfl) (in_w 0 32 j65_4 rfl) (in_w 0 479 i222 rfl) n65 n65a n65b n65c (m_up mm65 (t_add e222 j222_5 (in_c 1 rfl) rfl) (in_w 1 1 (in_c 1 rfl) rfl))))
          refine g_iload 67 (gd rfl) rfl rfl ?_
          refine g_aload_n 68 (gd rfl) rfl rfl ?_
          refine g_getI 71 (gd rfl) rfl rfl rfl (fun z68 e68 => ?_)
          have q68 : u_109_19 = z68 := (fr_F e_109_19 hFc65 rfl).trans e68.symm
          subst q68
          refine g_sipush 160 74 (gd rfl) rfl rfl ?_
          refine g_iadd 75 (gd rfl) rfl (fun z74 e74 => ?_)
          have i74 := in_add 160 320 e74 ro_109_19 (in_c 160 rfl) rfl rfl
          refine g_cmp_ge 78 228 (gd rfl) rfl rfl (fun c75 => ?_) (fun c75 => ?_)
          · skip
            have i75 := r_le2 160 479 c75 i74 j65_5 rfl
            refine g_iinc 231 (gd rfl) rfl rfl (Nat.le_of_ble_eq_true rfl) (fun z228 e228 => ?_)
            have i228 := in_add 1 33 e228 j65_4 (in_c 1 rfl) rfl rfl
            refine g_goto 44 (gd rfl) rfl ?_
            have n44 : TGI s (x1).toNatClampNeg (x2) (160000000 * (z228).toInt) sc65 := by exact tgi_w g65_0 (by have a0 := j65_4; unfold In at a0; have a1 := h1; unfold In at a1; have a2 := ro_109_20; unfold In at a2; have a3 := ro_109_19; unfold In at a3; have a4 := i75; unfold In at a4; have a5 := j65_3; unfold In at a5; have a6 := i228; unfold In at a6; have a7 := t_add e228 j65_4 (in_c 1 rfl) rfl; have a8 := (in_c 1 rfl); unfold In at a8; have a9 := i74; unfold In at a9; have a10 := t_add e74 ro_109_19 (in_c 160 rfl) rfl; have a11 := (in_c 160 rfl); unfold In at a11; omega)
            have n44a : (y65_3).toInt = 0 → TCL s (x2) sc65 160 := by (intro hz; have hc := g65_1 hz; rw [show (y65_5.toInt - u_109_19.toInt).toNat = 160 from (by have a0 := j65_4; unfold In at a0; have a1 := h1; unfold In at a1; have a2 := ro_109_20; unfold In at a2; have a3 := ro_109_19; unfold In at a3; have a4 := i75; unfold In at a4; have a5 := j65_3; unfold In at a5; have a6 := i228; unfold In at a6; have a7 := t_add e228 j65_4 (in_c 1 rfl) rfl; have a8 := (in_c 1 rfl); unfold In at a8; have a9 := i74; unfold In at a9; have a10 := t_add e74 ro_109_19 (in_c 160 rfl) rfl; have a11 := (in_c 160 rfl); unfold In at a11; omega)] at hc; exact hc)
            exact gg_w (by omega) (gg_f (gf_cons rfl (gf_cons rfl (gf_cons rfl (gf_cons rfl (gf_cons rfl gf_nil))))) (ih44 sc65 y65_3 z228 hIc65 hFc65 (in_w 0 1 j65_3 rfl) (in_w 0 33 i228 rfl) n44 n44a (m_up mm44 (t_add e228 j65_4 (in_c 1 rfl) rfl) (in_w 1 1 (in_c 1 rfl) rfl))))
          · skip
            have i75 := r_lt1 0 319 c75 j65_5 i74 rfl
            refine g_aload_n 79 (gd rfl) rfl rfl ?_
            refine g_getA (q2 := 112) 82 (gd rfl) rfl rfl rfl rfl ?_
            refine g_iload 84 (gd rfl) rfl rfl ?_
            refine g_baload 85 (gd rfl) rfl (n := 480) rfl (in_ix i75 rfl) (fun z84 e84 => ?_)
            have i84 := inv_I hIc65 (n := 480) (t := 3) 0 1 rfl (in_ix i75 rfl) rfl e84
            refine g_if_eq 88 222 (gd rfl) rfl rfl (fun c85 => ?_) (fun c85 => ?_)
            · skip
              have i85 := z_eq 0 0 c85 i84 rfl
              have n222 : (u_109_19).toInt ≤ (y65_5).toInt := by have a0 := j65_4; unfold In at a0; have a1 := h1; unfold In at a1; have a2 := ro_109_20; unfold In at a2; have a3 := ro_109_19; unfold In at a3; have a4 := i75; unfold In at a4; have a5 := j65_3; unfold In at a5; have a6 := i74; unfold In at a6; have a7 := t_add e74 ro_109_19 (in_c 160 rfl) rfl; have a8 := (in_c 160 rfl); unfold In at a8; omega
              have n222a : (y65_5).toInt < (u_109_19).toInt + 160 := by have a0 := j65_4; unfold In at a0; have a1 := h1; unfold In at a1; have a2 := ro_109_20; unfold In at a2; have a3 := ro_109_19; unfold In at a3; have a4 := i75; unfold In at a4; have a5 := j65_3; unfold In at a5; have a6 := i74; unfold In at a6; have a7 := t_add e74 ro_109_19 (in_c 160 rfl) rfl; have a8 := (in_c 160 rfl); unfold In at a8; omega
              have n222b : TGI s (x1).toNatClampNeg (x2) ((160000000 * (y44_4).toInt + 1000000 * ((y65_5).toInt - u_109_19.toInt)) + 1000000) sc65 := by exact tgi_w g65_0 (by have a0 := j65_4; unfold In at a0; have a1 := h1; unfold In at a1; have a2 := ro_109_20; unfold In at a2; have a3 := ro_109_19; unfold In at a3; have a4 := i75; unfold In at a4; have a5 := j65_3; unfold In at a5; have a6 := i74; unfold In at a6; have a7 := t_add e74 ro_109_19 (in_c 160 rfl) rfl; have a8 := (in_c 160 rfl); unfold In at a8; omega)
              have n222c : (y65_3).toInt = 0 → TCL s (x2) sc65 (((y65_5).toInt - u_109_19.toInt).toNat + 1) := by (intro hz; exact tcl_s (g65_1 hz) (fun t1 t2 t3 t4 => by exfalso; rw [(ix_k (y := y65_5) e_109_19 (by have a0 := j65_4; unfold In at a0; have a1 := h1; unfold In at a1; have a2 := ro_109_20; unfold In at a2; have a3 := ro_109_19; unfold In at a3; have a4 := i75; unfold In at a4; have a5 := j65_3; unfold In at a5; have a6 := i74; unfold In at a6; have a7 := t_add e74 ro_109_19 (in_c 160 rfl) rfl; have a8 := (in_c 160 rfl); unfold In at a8; omega) (by have a0 := j65_4; unfold In at a0; have a1 := h1; unfold In at a1; have a2 := ro_109_20; unfold In at a2; have a3 := ro_109_19; unfold In at a3; have a4 := i75; unfold In at a4; have a5 := j65_3; unfold In at a5; have a6 := i74; unfold In at a6; have a7 := t_add e74 ro_109_19 (in_c 160 rfl) rfl; have a8 := (in_c 160 rfl); unfold In at a8; omega)), ← hFc65.1 112 rfl, ← e84] at t1; exact t1 c85))
              exact gg_w (by omega) (gg_f (gf_cons rfl (gf_cons rfl (gf_cons rfl (gf_cons rfl (gf_cons rfl (gf_cons rfl gf_nil)))))) (ct222 sc65 y65_3 hIc65 hFc65 (in_w 0 1 j65_3 rfl) (in_w 0 400 i75 rfl) n222 n222a n222b n222c))
            · skip
              have i85 := z_ne 1 1 c85 i84 rfl
              refine g_iload_n 89 (gd rfl) rfl rfl ?_
              refine g_aload_n 90 (gd rfl) rfl rfl ?_
              refine g_getA (q2 := 113) 93 (gd rfl) rfl rfl rfl rfl ?_
              refine g_iload 95 (gd rfl) rfl rfl ?_
              refine g_iaload 96 (gd rfl) rfl (n := 480) rfl (in_ix i75 rfl) (fun z95 e95 => ?_)
              have i95 := inv_I hIc65 (n := 480) (t := 0) 0 31 rfl (in_ix i75 rfl) rfl e95
              refine g_calls (As := [.int x2, .int z95]) (r := []) 99 (gd rfl) rfl rfl rfl rfl rfl (Nat.le_of_ble_eq_true rfl) (mc := 0) (ms := 0) (Nat.zero_le _) (Nat.zero_le _) (P := fun v u => _) ?_ (fun v u h => h)
              intro po96 xx96 hp96 hx96
              refine g_enter2 (k := 311) (N := 300) (by omega) rfl (Nat.le_of_ble_eq_true rfl) ?_
              refine g_iload_n 1 (gd rfl) rfl rfl ?_
              refine g_iload_n 2 (gd rfl) rfl rfl ?_
              refine g_ishr 3 (gd rfl) rfl (fun z96x2 e96x2 => ?_)
              refine g_iconst 1 4 (gd rfl) rfl rfl ?_
              refine g_iand 5 (gd rfl) rfl (fun z96x4 e96x4 => ?_)
              have i96x4 := in_and2 e96x4 (in_c 1 rfl) rfl
              refine g_iconst 1 6 (gd rfl) rfl rfl ?_
              refine g_cmp_ne 9 13 (gd rfl) rfl rfl (fun c96x6 => ?_) (fun c96x6 => ?_)
              · skip
                have i96x6 := r_ne1 0 0 c96x6 i96x4 (in_c 1 rfl) rfl
                refine g_iconst 0 14 (gd rfl) rfl rfl ?_
                refine g_ireturn (gd rfl) rfl (nb01 (in_w 0 1 (in_c 0 rfl) rfl)) (hp96 _ _ ?_)
                show GG _ _ _ _ _ _ _ _ [.int (Int32.ofInt 0)] _ _ _
                refine g_if_eq 102 222 (gd rfl) rfl rfl (fun c99 => ?_) (fun c99 => ?_)
                · skip
                  have n222 : (u_109_19).toInt ≤ (y65_5).toInt := by have a0 := j65_4; unfold In at a0; have a1 := h1; unfold In at a1; have a2 := ro_109_20; unfold In at a2; have a3 := ro_109_19; unfold In at a3; have a4 := i75; unfold In at a4; have a5 := j65_3; unfold In at a5; have a6 := i74; unfold In at a6; have a7 := t_add e74 ro_109_19 (in_c 160 rfl) rfl; have a8 := (in_c 160 rfl); unfold In at a8; omega
                  have n222a : (y65_5).toInt < (u_109_19).toInt + 160 := by have a0 := j65_4; unfold In at a0; have a1 := h1; unfold In at a1; have a2 := ro_109_20; unfold In at a2; have a3 := ro_109_19; unfold In at a3; have a4 := i75; unfold In at a4; have a5 := j65_3; unfold In at a5; have a6 := i74; unfold In at a6; have a7 := t_add e74 ro_109_19 (in_c 160 rfl) rfl; have a8 := (in_c 160 rfl); unfold In at a8; omega
                  have n222b : TGI s (x1).toNatClampNeg (x2) ((160000000 * (y44_4).toInt + 1000000 * ((y65_5).toInt - u_109_19.toInt)) + 1000000) sc65 := by exact tgi_w g65_0 (by have a0 := j65_4; unfold In at a0; have a1 := h1; unfold In at a1; have a2 := ro_109_20; unfold In at a2; have a3 := ro_109_19; unfold In at a3; have a4 := i75; unfold In at a4; have a5 := j65_3; unfold In at a5; have a6 := i74; unfold In at a6; have a7 := t_add e74 ro_109_19 (in_c 160 rfl) rfl; have a8 := (in_c 160 rfl); unfold In at a8; omega)
                  have n222c : (y65_3).toInt = 0 → TCL s (x2) sc65 (((y65_5).toInt - u_109_19.toInt).toNat + 1) := by (intro hz; exact tcl_s (g65_1 hz) (fun t1 t2 t3 t4 => by exfalso; have hb := bt_no e96x2 e96x4 i95 c96x6; rw [(ix_k (y := y65_5) e_109_19 (by have a0 := j65_4; unfold In at a0; have a1 := h1; unfold In at a1; have a2 := ro_109_20; unfold In at a2; have a3 := ro_109_19; unfold In at a3; have a4 := i75; unfold In at a4; have a5 := j65_3; unfold In at a5; have a6 := i74; unfold In at a6; have a7 := t_add e74 ro_109_19 (in_c 160 rfl) rfl; have a8 := (in_c 160 rfl); unfold In at a8; omega) (by have a0 := j65_4; unfold In at a0; have a1 := h1; unfold In at a1; have a2 := ro_109_20; unfold In at a2; have a3 := ro_109_19; unfold In at a3; have a4 := i75; unfold In at a4; have a5 := j65_3; unfold In at a5; have a6 := i74; unfold In at a6; have a7 := t_add e74 ro_109_19 (in_c 160 rfl) rfl; have a8 := (in_c 160 rfl); unfold In at a8; omega)), ← hFc65.1 113 rfl, ← e95, hb] at t2; cases t2))
                  exact gg_w (by omega) (gg_f (gf_cons rfl (gf_cons rfl (gf_cons rfl (gf_cons rfl (gf_cons rfl (gf_cons rfl gf_nil)))))) (ct222 sc65 y65_3 hIc65 hFc65 (in_w 0 1 j65_3 rfl) (in_w 0 400 i75 rfl) n222 n222a n222b n222c))
                · skip
                  exact zn_ne c99 (in_c 0 rfl) rfl
              · skip
                have i96x6 := r_eq1 1 1 c96x6 i96x4 (in_c 1 rfl) rfl
                refine g_iconst 1 10 (gd rfl) rfl rfl ?_
                refine g_goto 14 (gd rfl) rfl ?_
                refine g_ireturn (gd rfl) rfl (nb01 (in_w 0 1 (in_c 1 rfl) rfl)) (hp96 _ _ ?_)
                show GG _ _ _ _ _ _ _ _ [.int (Int32.ofInt 1)] _ _ _
                refine g_if_eq 102 222 (gd rfl) rfl rfl (fun c99 => ?_) (fun c99 => ?_)
                · skip
                  exact zn_eq c99 (in_c 1 rfl) rfl
                · skip
                  refine g_iload_n 103 (gd rfl) rfl rfl ?_
                  refine g_aload_n 104 (gd rfl) rfl rfl ?_
                  refine g_getA (q2 := 114) 107 (gd rfl) rfl rfl rfl rfl ?_
                  refine g_iload 109 (gd rfl) rfl rfl ?_
                  refine g_iaload 110 (gd rfl) rfl (n := 480) rfl (in_ix i75 rfl) (fun z109 e109 => ?_)
                  have i109 := inv_I hIc65 (n := 480) (t := 0) 0 31 rfl (in_ix i75 rfl) rfl e109
                  refine g_calls (As := [.int x2, .int z109]) (r := []) 113 (gd rfl) rfl rfl rfl rfl rfl (Nat.le_of_ble_eq_true rfl) (mc := 0) (ms := 0) (Nat.zero_le _) (Nat.zero_le _) (P := fun v u => _) ?_ (fun v u h => h)
                  intro po110 xx110 hp110 hx110
                  refine g_enter2 (k := 311) (N := 300) (by omega) rfl (Nat.le_of_ble_eq_true rfl) ?_
                  refine g_iload_n 1 (gd rfl) rfl rfl ?_
                  refine g_iload_n 2 (gd rfl) rfl rfl ?_
                  refine g_ishr 3 (gd rfl) rfl (fun z110x2 e110x2 => ?_)
                  refine g_iconst 1 4 (gd rfl) rfl rfl ?_
                  refine g_iand 5 (gd rfl) rfl (fun z110x4 e110x4 => ?_)
                  have i110x4 := in_and2 e110x4 (in_c 1 rfl) rfl
                  refine g_iconst 1 6 (gd rfl) rfl rfl ?_
                  refine g_cmp_ne 9 13 (gd rfl) rfl rfl (fun c110x6 => ?_) (fun c110x6 => ?_)
                  · skip
                    have i110x6 := r_ne1 0 0 c110x6 i110x4 (in_c 1 rfl) rfl
                    refine g_iconst 0 14 (gd rfl) rfl rfl ?_
                    refine g_ireturn (gd rfl) rfl (nb01 (in_w 0 1 (in_c 0 rfl) rfl)) (hp110 _ _ ?_)
                    show GG _ _ _ _ _ _ _ _ [.int (Int32.ofInt 0)] _ _ _
                    refine g_if_eq 116 222 (gd rfl) rfl rfl (fun c113 => ?_) (fun c113 => ?_)
                    · skip
                      have n222 : (u_109_19).toInt ≤ (y65_5).toInt := by have a0 := j65_4; unfold In at a0; have a1 := h1; unfold In at a1; have a2 := ro_109_20; unfold In at a2; have a3 := ro_109_19; unfold In at a3; have a4 := i75; unfold In at a4; have a5 := j65_3; unfold In at a5; have a6 := i74; unfold In at a6; have a7 := t_add e74 ro_109_19 (in_c 160 rfl) rfl; have a8 := (in_c 160 rfl); unfold In at a8; omega
                      have n222a : (y65_5).toInt < (u_109_19).toInt + 160 := by have a0 := j65_4; unfold In at a0; have a1 := h1; unfold In at a1; have a2 := ro_109_20; unfold In at a2; have a3 := ro_109_19; unfold In at a3; have a4 := i75; unfold In at a4; have a5 := j65_3; unfold In at a5; have a6 := i74; unfold In at a6; have a7 := t_add e74 ro_109_19 (in_c 160 rfl) rfl; have a8 := (in_c 160 rfl); unfold In at a8; omega
                      have n222b : TGI s (x1).toNatClampNeg (x2) ((160000000 * (y44_4).toInt + 1000000 * ((y65_5).toInt - u_109_19.toInt)) + 1000000) sc65 := by exact tgi_w g65_0 (by have a0 := j65_4; unfold In at a0; have a1 := h1; unfold In at a1; have a2 := ro_109_20; unfold In at a2; have a3 := ro_109_19; unfold In at a3; have a4 := i75; unfold In at a4; have a5 := j65_3; unfold In at a5; have a6 := i74; unfold In at a6; have a7 := t_add e74 ro_109_19 (in_c 160 rfl) rfl; have a8 := (in_c 160 rfl); unfold In at a8; omega)
                      have n222c : (y65_3).toInt = 0 → TCL s (x2) sc65 (((y65_5).toInt - u_109_19.toInt).toNat + 1) := by (intro hz; exact tcl_s (g65_1 hz) (fun t1 t2 t3 t4 => by exfalso; have hb := bt_no e110x2 e110x4 i109 c110x6; rw [(ix_k (y := y65_5) e_109_19 (by have a0 := j65_4; unfold In at a0; have a1 := h1; unfold In at a1; have a2 := ro_109_20; unfold In at a2; have a3 := ro_109_19; unfold In at a3; have a4 := i75; unfold In at a4; have a5 := j65_3; unfold In at a5; have a6 := i74; unfold In at a6; have a7 := t_add e74 ro_109_19 (in_c 160 rfl) rfl; have a8 := (in_c 160 rfl); unfold In at a8; omega) (by have a0 := j65_4; unfold In at a0; have a1 := h1; unfold In at a1; have a2 := ro_109_20; unfold In at a2; have a3 := ro_109_19; unfold In at a3; have a4 := i75; unfold In at a4; have a5 := j65_3; unfold In at a5; have a6 := i74; unfold In at a6; have a7 := t_add e74 ro_109_19 (in_c 160 rfl) rfl; have a8 := (in_c 160 rfl); unfold In at a8; omega)), ← hFc65.1 114 rfl, ← e109, hb] at t3; cases t3))
                      exact gg_w (by omega) (gg_f (gf_cons rfl (gf_cons rfl (gf_cons rfl (gf_cons rfl (gf_cons rfl (gf_cons rfl gf_nil)))))) (ct222 sc65 y65_3 hIc65 hFc65 (in_w 0 1 j65_3 rfl) (in_w 0 400 i75 rfl) n222 n222a n222b n222c))
                    · skip
                      exact zn_ne c113 (in_c 0 rfl) rfl
                  · skip
                    have i110x6 := r_eq1 1 1 c110x6 i110x4 (in_c 1 rfl) rfl
                    refine g_iconst 1 10 (gd rfl) rfl rfl ?_
                    refine g_goto 14 (gd rfl) rfl ?_
                    refine g_ireturn (gd rfl) rfl (nb01 (in_w 0 1 (in_c 1 rfl) rfl)) (hp110 _ _ ?_)
                    show GG _ _ _ _ _ _ _ _ [.int (Int32.ofInt 1)] _ _ _
                    refine g_if_eq 116 222 (gd rfl) rfl rfl (fun c113 => ?_) (fun c113 => ?_)
                    · skip
                      exact zn_eq c113 (in_c 1 rfl) rfl
                    · skip
                      refine g_aload_n 117 (gd rfl) rfl rfl ?_
                      refine g_getA (q2 := 130) 120 (gd rfl) rfl rfl rfl rfl ?_
                      refine g_aload_n 121 (gd rfl) rfl rfl ?_
                      refine g_getA (q2 := 114) 124 (gd rfl) rfl rfl rfl rfl ?_
                      refine g_iload 126 (gd rfl) rfl rfl ?_
                      refine g_iaload 127 (gd rfl) rfl (n := 480) rfl (in_ix i75 rfl) (fun z126 e126 => ?_)
                      have q126 : z109 = z126 := (e109).trans e126.symm
                      subst q126
                      refine g_laload 128 (gd rfl) rfl (n := 32) rfl (in_ix i109 rfl) (fun z127 e127 => ?_)
                      refine g_ldc2_w 9000000000000000 131 (gd rfl) rfl rfl ?_
                      refine g_lcmp 132 (gd rfl) rfl (fun z131 e131 => ?_)
                      have i131 := lc_in e131
                      refine g_if_ge 135 222 (gd rfl) rfl rfl (fun c132 => ?_) (fun c132 => ?_)
                      · skip
                        have i132 := z_ge 0 1 c132 i131 rfl
                        have c132a := lc_ge e131 c132
                        have i132a := lr_le2 9000000000000000 9223372036854775807 c132a (l_c 9000000000000000 rfl) (l_rng z127) rfl
                        have n222 : (u_109_19).toInt ≤ (y65_5).toInt := by have a0 := j65_4; unfold In at a0; have a1 := h1; unfold In at a1; have a2 := ro_109_20; unfold In at a2; have a3 := ro_109_19; unfold In at a3; have a4 := i75; unfold In at a4; have a5 := j65_3; unfold In at a5; have a6 := i74; unfold In at a6; have a7 := t_add e74 ro_109_19 (in_c 160 rfl) rfl; have a8 := (in_c 160 rfl); unfold In at a8; omega
                        have n222a : (y65_5).toInt < (u_109_19).toInt + 160 := by have a0 := j65_4; unfold In at a0; have a1 := h1; unfold In at a1; have a2 := ro_109_20; unfold In at a2; have a3 := ro_109_19; unfold In at a3; have a4 := i75; unfold In at a4; have a5 := j65_3; unfold In at a5; have a6 := i74; unfold In at a6; have a7 := t_add e74 ro_109_19 (in_c 160 rfl) rfl; have a8 := (in_c 160 rfl); unfold In at a8; omega
                        have n222b : TGI s (x1).toNatClampNeg (x2) ((160000000 * (y44_4).toInt + 1000000 * ((y65_5).toInt - u_109_19.toInt)) + 1000000) sc65 := by exact tgi_w g65_0 (by have a0 := j65_4; unfold In at a0; have a1 := h1; unfold In at a1; have a2 := ro_109_20; unfold In at a2; have a3 := ro_109_19; unfold In at a3; have a4 := i75; unfold In at a4; have a5 := j65_3; unfold In at a5; have a6 := i74; unfold In at a6; have a7 := t_add e74 ro_109_19 (in_c 160 rfl) rfl; have a8 := (in_c 160 rfl); unfold In at a8; omega)
                        have n222c : (y65_3).toInt = 0 → TCL s (x2) sc65 (((y65_5).toInt - u_109_19.toInt).toNat + 1) := by (intro hz; exact tcl_s (g65_1 hz) (fun t1 t2 t3 t4 => by exfalso; rw [(ix_k (y := y65_5) e_109_19 (by have a0 := j65_4; unfold In at a0; have a1 := h1; unfold In at a1; have a2 := ro_109_20; unfold In at a2; have a3 := ro_109_19; unfold In at a3; have a4 := i75; unfold In at a4; have a5 := j65_3; unfold In at a5; have a6 := i74; unfold In at a6; have a7 := t_add e74 ro_109_19 (in_c 160 rfl) rfl; have a8 := (in_c 160 rfl); unfold In at a8; omega) (by have a0 := j65_4; unfold In at a0; have a1 := h1; unfold In at a1; have a2 := ro_109_20; unfold In at a2; have a3 := ro_109_19; unfold In at a3; have a4 := i75; unfold In at a4; have a5 := j65_3; unfold In at a5; have a6 := i74; unfold In at a6; have a7 := t_add e74 ro_109_19 (in_c 160 rfl) rfl; have a8 := (in_c 160 rfl); unfold In at a8; omega)), ← hFc65.1 114 rfl, ← e109, ← e127] at t4; have h := i132a.1; omega))
                        exact gg_w (by omega) (gg_f (gf_cons rfl (gf_cons rfl (gf_cons rfl (gf_cons rfl (gf_cons rfl (gf_cons rfl gf_nil)))))) (ct222 sc65 y65_3 hIc65 hFc65 (in_w 0 1 j65_3 rfl) (in_w 0 400 i75 rfl) n222 n222a n222b n222c))
                      · skip
                        have i132 := z_lt (-1) (-1) c132 i131 rfl
                        have c132a := lc_lt e131 c132
                        have i132a := lr_lt1 (-9223372036854775808) 8999999999999999 c132a (l_rng z127) (l_c 9000000000000000 rfl) rfl
                        refine g_aload_n 136 (gd rfl) rfl rfl ?_
                        refine g_getA (q2 := 130) 139 (gd rfl) rfl rfl rfl rfl ?_
                        refine g_aload_n 140 (gd rfl) rfl rfl ?_
                        refine g_getA (q2 := 114) 143 (gd rfl) rfl rfl rfl rfl ?_
                        refine g_iload 145 (gd rfl) rfl rfl ?_
                        refine g_iaload 146 (gd rfl) rfl (n := 480) rfl (in_ix i75 rfl) (fun z145 e145 => ?_)
                        have q145 : z109 = z145 := (e109).trans e145.symm
                        subst q145
                        refine g_laload 147 (gd rfl) rfl (n := 32) rfl (in_ix i109 rfl) (fun z146 e146 => ?_)
                        refine g_aload_n 148 (gd rfl) rfl rfl ?_
                        refine g_getA (q2 := 115) 151 (gd rfl) rfl rfl rfl rfl ?_
                        refine g_iload 153 (gd rfl) rfl rfl ?_
                        refine g_iaload 154 (gd rfl) rfl (n := 480) rfl (in_ix i75 rfl) (fun z153 e153 => ?_)
                        have i153 := inv_I hIc65 (n := 480) (t := 0) (-1000000) 1000000 rfl (in_ix i75 rfl) rfl e153
                        refine g_i2l 155 (gd rfl) rfl (fun z154 e154 => ?_)
                        have i154 := l_i e154 i153
                        refine g_ladd 156 (gd rfl) rfl (fun z155 e155 => ?_)
                        refine g_lstore 158 (gd rfl) rfl (Nat.le_of_ble_eq_true rfl) ?_
                        refine g_aload_n 159 (gd rfl) rfl rfl ?_
                        refine g_getA (q2 := 131) 162 (gd rfl) rfl rfl rfl rfl ?_
                        refine g_aload_n 163 (gd rfl) rfl rfl ?_
                        refine g_getA (q2 := 114) 166 (gd rfl) rfl rfl rfl rfl ?_
                        refine g_iload 168 (gd rfl) rfl rfl ?_
                        refine g_iaload 169 (gd rfl) rfl (n := 480) rfl (in_ix i75 rfl) (fun z168 e168 => ?_)
                        have q168 : z109 = z168 := (e109).trans e168.symm
                        subst q168
                        refine g_iaload 170 (gd rfl) rfl (n := 32) rfl (in_ix i109 rfl) (fun z169 e169 => ?_)
                        refine g_iconst 1 171 (gd rfl) rfl rfl ?_
                        refine g_iadd 172 (gd rfl) rfl (fun z171 e171 => ?_)
                        refine g_istore 174 (gd rfl) rfl (Nat.le_of_ble_eq_true rfl) ?_
                        refine g_lload 176 (gd rfl) rfl rfl ?_
                        refine g_aload_n 177 (gd rfl) rfl rfl ?_
                        refine g_getA (q2 := 130) 180 (gd rfl) rfl rfl rfl rfl ?_
                        refine g_aload_n 181 (gd rfl) rfl rfl ?_
                        refine g_getA (q2 := 113) 184 (gd rfl) rfl rfl rfl rfl ?_
                        refine g_iload 186 (gd rfl) rfl rfl ?_
                        refine g_iaload 187 (gd rfl) rfl (n := 480) rfl (in_ix i75 rfl) (fun z186 e186 => ?_)
                        have q186 : z95 = z186 := (e95).trans e186.symm
                        subst q186
                        refine g_laload 188 (gd rfl) rfl (n := 32) rfl (in_ix i95 rfl) (fun z187 e187 => ?_)
                        refine g_lcmp 189 (gd rfl) rfl (fun z188 e188 => ?_)
                        have i188 := lc_in e188
                        refine g_if_ge 192 222 (gd rfl) rfl rfl (fun c189 => ?_) (fun c189 => ?_)
                        · skip
                          have i189 := z_ge 0 1 c189 i188 rfl
                          have c189a := lc_ge e188 c189
                          have n222 : (u_109_19).toInt ≤ (y65_5).toInt := by have a0 := j65_4; unfold In at a0; have a1 := h1; unfold In at a1; have a2 := ro_109_20; unfold In at a2; have a3 := ro_109_19; unfold In at a3; have a4 := i75; unfold In at a4; have a5 := j65_3; unfold In at a5; have a6 := tx_i2l e154; have a7 := i153; unfold In at a7; have a8 := i74; unfold In at a8; have a9 := t_add e74 ro_109_19 (in_c 160 rfl) rfl; have a10 := (in_c 160 rfl); unfold In at a10; omega
                          have n222a : (y65_5).toInt < (u_109_19).toInt + 160 := by have a0 := j65_4; unfold In at a0; have a1 := h1; unfold In at a1; have a2 := ro_109_20; unfold In at a2; have a3 := ro_109_19; unfold In at a3; have a4 := i75; unfold In at a4; have a5 := j65_3; unfold In at a5; have a6 := tx_i2l e154; have a7 := i153; unfold In at a7; have a8 := i74; unfold In at a8; have a9 := t_add e74 ro_109_19 (in_c 160 rfl) rfl; have a10 := (in_c 160 rfl); unfold In at a10; omega
                          have n222b : TGI s (x1).toNatClampNeg (x2) ((160000000 * (y44_4).toInt + 1000000 * ((y65_5).toInt - u_109_19.toInt)) + 1000000) sc65 := by first | exact tgi_w g65_0 (by have a0 := j65_4; unfold In at a0; have a1 := h1; unfold In at a1; have a2 := ro_109_20; unfold In at a2; have a3 := ro_109_19; unfold In at a3; have a4 := i75; unfold In at a4; have a5 := j65_3; unfold In at a5; have a6 := tx_i2l e154; have a7 := i153; unfold In at a7; have a8 := i74; unfold In at a8; have a9 := t_add e74 ro_109_19 (in_c 160 rfl) rfl; have a10 := (in_c 160 rfl); unfold In at a10; omega)
                          have n222c : (y65_3).toInt = 0 → TCL s (x2) sc65 (((y65_5).toInt - u_109_19.toInt).toNat + 1) := by (intro hz; exact tcl_s (g65_1 hz) (fun t1 t2 t3 t4 => by have hk := arc_n hI (a := (y65_5.toInt - u_109_19.toInt).toNat) (by have a0 := j65_4; unfold In at a0; have a1 := h1; unfold In at a1; have a2 := ro_109_20; unfold In at a2; have a3 := ro_109_19; unfold In at a3; have a4 := i75; unfold In at a4; have a5 := j65_3; unfold In at a5; have a6 := tx_i2l e154; have a7 := i153; unfold In at a7; have a8 := i74; unfold In at a8; have a9 := t_add e74 ro_109_19 (in_c 160 rfl) rfl; have a10 := (in_c 160 rfl); unfold In at a10; omega) (by rw [(ix_k (y := y65_5) e_109_19 (by have a0 := j65_4; unfold In at a0; have a1 := h1; unfold In at a1; have a2 := ro_109_20; unfold In at a2; have a3 := ro_109_19; unfold In at a3; have a4 := i75; unfold In at a4; have a5 := j65_3; unfold In at a5; have a6 := tx_i2l e154; have a7 := i153; unfold In at a7; have a8 := i74; unfold In at a8; have a9 := t_add e74 ro_109_19 (in_c 160 rfl) rfl; have a10 := (in_c 160 rfl); unfold In at a10; omega) (by have a0 := j65_4; unfold In at a0; have a1 := h1; unfold In at a1; have a2 := ro_109_20; unfold In at a2; have a3 := ro_109_19; unfold In at a3; have a4 := i75; unfold In at a4; have a5 := j65_3; unfold In at a5; have a6 := tx_i2l e154; have a7 := i153; unfold In at a7; have a8 := i74; unfold In at a8; have a9 := t_add e74 ro_109_19 (in_c 160 rfl) rfl; have a10 := (in_c 160 rfl); unfold In at a10; omega)), ← hFc65.1 112 rfl, ← e84]; exact c85); rw [(ix_k (y := y65_5) e_109_19 (by have a0 := j65_4; unfold In at a0; have a1 := h1; unfold In at a1; have a2 := ro_109_20; unfold In at a2; have a3 := ro_109_19; unfold In at a3; have a4 := i75; unfold In at a4; have a5 := j65_3; unfold In at a5; have a6 := tx_i2l e154; have a7 := i153; unfold In at a7; have a8 := i74; unfold In at a8; have a9 := t_add e74 ro_109_19 (in_c 160 rfl) rfl; have a10 := (in_c 160 rfl); unfold In at a10; omega) (by have a0 := j65_4; unfold In at a0; have a1 := h1; unfold In at a1; have a2 := ro_109_20; unfold In at a2; have a3 := ro_109_19; unfold In at a3; have a4 := i75; unfold In at a4; have a5 := j65_3; unfold In at a5; have a6 := tx_i2l e154; have a7 := i153; unfold In at a7; have a8 := i74; unfold In at a8; have a9 := t_add e74 ro_109_19 (in_c 160 rfl) rfl; have a10 := (in_c 160 rfl); unfold In at a10; omega)), ← hFc65.1 114 rfl, ← e109] at hk; have hadd := tgi_add g65_0 (by have a0 := j65_4; unfold In at a0; have a1 := h1; unfold In at a1; have a2 := ro_109_20; unfold In at a2; have a3 := ro_109_19; unfold In at a3; have a4 := i75; unfold In at a4; have a5 := j65_3; unfold In at a5; have a6 := tx_i2l e154; have a7 := i153; unfold In at a7; have a8 := i74; unfold In at a8; have a9 := t_add e74 ro_109_19 (in_c 160 rfl) rfl; have a10 := (in_c 160 rfl); unfold In at a10; omega) (by have a0 := j65_4; unfold In at a0; have a1 := h1; unfold In at a1; have a2 := ro_109_20; unfold In at a2; have a3 := ro_109_19; unfold In at a3; have a4 := i75; unfold In at a4; have a5 := j65_3; unfold In at a5; have a6 := tx_i2l e154; have a7 := i153; unfold In at a7; have a8 := i74; unfold In at a8; have a9 := t_add e74 ro_109_19 (in_c 160 rfl) rfl; have a10 := (in_c 160 rfl); unfold In at a10; omega) i109 hk.2.1.2 e146 (by rw [e146, ← e127]; have h := i132a.2; omega) i153 e155 (tx_i2l e154); rw [(ix_k (y := y65_5) e_109_19 (by have a0 := j65_4; unfold In at a0; have a1 := h1; unfold In at a1; have a2 := ro_109_20; unfold In at a2; have a3 := ro_109_19; unfold In at a3; have a4 := i75; unfold In at a4; have a5 := j65_3; unfold In at a5; have a6 := tx_i2l e154; have a7 := i153; unfold In at a7; have a8 := i74; unfold In at a8; have a9 := t_add e74 ro_109_19 (in_c 160 rfl) rfl; have a10 := (in_c 160 rfl); unfold In at a10; omega) (by have a0 := j65_4; unfold In at a0; have a1 := h1; unfold In at a1; have a2 := ro_109_20; unfold In at a2; have a3 := ro_109_19; unfold In at a3; have a4 := i75; unfold In at a4; have a5 := j65_3; unfold In at a5; have a6 := tx_i2l e154; have a7 := i153; unfold In at a7; have a8 := i74; unfold In at a8; have a9 := t_add e74 ro_109_19 (in_c 160 rfl) rfl; have a10 := (in_c 160 rfl); unfold In at a10; omega)), ← hFc65.1 113 rfl, ← hFc65.1 114 rfl, ← hFc65.1 115 rfl, ← e95, ← e109, ← e153, ← e187, ← e146]; have h := c189a; omega))
                          exact gg_w (by omega) (gg_f (gf_cons rfl (gf_cons rfl (gf_cons rfl (gf_cons rfl (gf_cons rfl (gf_cons rfl gf_nil)))))) (ct222 sc65 y65_3 hIc65 hFc65 (in_w 0 1 j65_3 rfl) (in_w 0 400 i75 rfl) n222 n222a n222b n222c))
                        · skip
                          have i189 := z_lt (-1) (-1) c189 i188 rfl
                          have c189a := lc_lt e188 c189
                          have i189a := lr_lt1 (-9223372036854775808) 9223372036854775806 c189a (l_rng z155) (l_rng z187) rfl
                          have i189b := lr_lt2 (-9223372036854775807) 9223372036854775807 c189a (l_rng z155) (l_rng z187) rfl
                          refine g_aload_n 193 (gd rfl) rfl rfl ?_
                          refine g_getA (q2 := 130) 196 (gd rfl) rfl rfl rfl rfl ?_
                          refine g_aload_n 197 (gd rfl) rfl rfl ?_
                          refine g_getA (q2 := 113) 200 (gd rfl) rfl rfl rfl rfl ?_
                          refine g_iload 202 (gd rfl) rfl rfl ?_
                          refine g_iaload 203 (gd rfl) rfl (n := 480) rfl (in_ix i75 rfl) (fun z202 e202 => ?_)
                          have q202 : z95 = z202 := (e95).trans e202.symm
                          subst q202
                          refine g_lload 205 (gd rfl) rfl rfl ?_
                          refine g_lastore 206 (gd rfl) rfl (n := 32) rfl (in_ix i95 rfl) ?_
                          have hI205 := inv_sL (q := 130) (j := z95.toNatClampNeg) (x := z155) hIc65 rfl (l_rng z155)
                          refine g_aload_n 207 (gd rfl) rfl rfl ?_
                          refine g_getA (q2 := 131) 210 (gd rfl) rfl rfl rfl rfl ?_
                          refine g_aload_n 211 (gd rfl) rfl rfl ?_
                          refine g_getA (q2 := 113) 214 (gd rfl) rfl rfl rfl rfl ?_
                          refine g_iload 216 (gd rfl) rfl rfl ?_
                          refine g_iaload 217 (gd rfl) rfl (n := 480) rfl (in_ix i75 rfl) (fun z216 e216 => ?_)
                          have q216 : z95 = z216 := (sL_I (e95)).trans e216.symm
                          subst q216
                          refine g_iload 219 (gd rfl) rfl rfl ?_
                          refine g_iastore 220 (gd rfl) rfl (n := 32) rfl (in_ix i95 rfl) ?_
                          have hI219 := inv_sI (q := 131) (j := z95.toNatClampNeg) hI205 rfl (in_w (-2147483648) 2147483647 (i_rng z171) rfl)
                          refine g_iconst 1 221 (gd rfl) rfl rfl ?_
                          refine g_istore_n 222 (gd rfl) rfl (Nat.le_of_ble_eq_true rfl) ?_
                          have n222 : (u_109_19).toInt ≤ (y65_5).toInt := by have a0 := j65_4; unfold In at a0; have a1 := h1; unfold In at a1; have a2 := ro_109_20; unfold In at a2; have a3 := ro_109_19; unfold In at a3; have a4 := i75; unfold In at a4; have a5 := j65_3; unfold In at a5; have a6 := (in_c 1 rfl); unfold In at a6; have a7 := tx_i2l e154; have a8 := i153; unfold In at a8; have a9 := i74; unfold In at a9; have a10 := t_add e74 ro_109_19 (in_c 160 rfl) rfl; have a11 := (in_c 160 rfl); unfold In at a11; omega
                          have n222a : (y65_5).toInt < (u_109_19).toInt + 160 := by have a0 := j65_4; unfold In at a0; have a1 := h1; unfold In at a1; have a2 := ro_109_20; unfold In at a2; have a3 := ro_109_19; unfold In at a3; have a4 := i75; unfold In at a4; have a5 := j65_3; unfold In at a5; have a6 := (in_c 1 rfl); unfold In at a6; have a7 := tx_i2l e154; have a8 := i153; unfold In at a8; have a9 := i74; unfold In at a9; have a10 := t_add e74 ro_109_19 (in_c 160 rfl) rfl; have a11 := (in_c 160 rfl); unfold In at a11; omega
                          have n222b : TGI s (x1).toNatClampNeg (x2) ((160000000 * (y44_4).toInt + 1000000 * ((y65_5).toInt - u_109_19.toInt)) + 1000000) (sI (sL sc65 130 z95.toNatClampNeg z155) 131 z95.toNatClampNeg z171) := by exact tgi_ch (a := (y65_5.toInt - u_109_19.toInt).toNat) hI g65_0 (by have a0 := j65_4; unfold In at a0; have a1 := h1; unfold In at a1; have a2 := ro_109_20; unfold In at a2; have a3 := ro_109_19; unfold In at a3; have a4 := i75; unfold In at a4; have a5 := j65_3; unfold In at a5; have a6 := (in_c 1 rfl); unfold In at a6; have a7 := tx_i2l e154; have a8 := i153; unfold In at a8; have a9 := i74; unfold In at a9; have a10 := t_add e74 ro_109_19 (in_c 160 rfl) rfl; have a11 := (in_c 160 rfl); unfold In at a11; omega) (by rw [(ix_k (y := y65_5) e_109_19 (by have a0 := j65_4; unfold In at a0; have a1 := h1; unfold In at a1; have a2 := ro_109_20; unfold In at a2; have a3 := ro_109_19; unfold In at a3; have a4 := i75; unfold In at a4; have a5 := j65_3; unfold In at a5; have a6 := (in_c 1 rfl); unfold In at a6; have a7 := tx_i2l e154; have a8 := i153; unfold In at a8; have a9 := i74; unfold In at a9; have a10 := t_add e74 ro_109_19 (in_c 160 rfl) rfl; have a11 := (in_c 160 rfl); unfold In at a11; omega) (by have a0 := j65_4; unfold In at a0; have a1 := h1; unfold In at a1; have a2 := ro_109_20; unfold In at a2; have a3 := ro_109_19; unfold In at a3; have a4 := i75; unfold In at a4; have a5 := j65_3; unfold In at a5; have a6 := (in_c 1 rfl); unfold In at a6; have a7 := tx_i2l e154; have a8 := i153; unfold In at a8; have a9 := i74; unfold In at a9; have a10 := t_add e74 ro_109_19 (in_c 160 rfl) rfl; have a11 := (in_c 160 rfl); unfold In at a11; omega)), ← hFc65.1 112 rfl, ← e84]; exact c85) (by rw [(ix_k (y := y65_5) e_109_19 (by have a0 := j65_4; unfold In at a0; have a1 := h1; unfold In at a1; have a2 := ro_109_20; unfold In at a2; have a3 := ro_109_19; unfold In at a3; have a4 := i75; unfold In at a4; have a5 := j65_3; unfold In at a5; have a6 := (in_c 1 rfl); unfold In at a6; have a7 := tx_i2l e154; have a8 := i153; unfold In at a8; have a9 := i74; unfold In at a9; have a10 := t_add e74 ro_109_19 (in_c 160 rfl) rfl; have a11 := (in_c 160 rfl); unfold In at a11; omega) (by have a0 := j65_4; unfold In at a0; have a1 := h1; unfold In at a1; have a2 := ro_109_20; unfold In at a2; have a3 := ro_109_19; unfold In at a3; have a4 := i75; unfold In at a4; have a5 := j65_3; unfold In at a5; have a6 := (in_c 1 rfl); unfold In at a6; have a7 := tx_i2l e154; have a8 := i153; unfold In at a8; have a9 := i74; unfold In at a9; have a10 := t_add e74 ro_109_19 (in_c 160 rfl) rfl; have a11 := (in_c 160 rfl); unfold In at a11; omega)), ← hFc65.1 113 rfl]; exact e95) (by rw [(ix_k (y := y65_5) e_109_19 (by have a0 := j65_4; unfold In at a0; have a1 := h1; unfold In at a1; have a2 := ro_109_20; unfold In at a2; have a3 := ro_109_19; unfold In at a3; have a4 := i75; unfold In at a4; have a5 := j65_3; unfold In at a5; have a6 := (in_c 1 rfl); unfold In at a6; have a7 := tx_i2l e154; have a8 := i153; unfold In at a8; have a9 := i74; unfold In at a9; have a10 := t_add e74 ro_109_19 (in_c 160 rfl) rfl; have a11 := (in_c 160 rfl); unfold In at a11; omega) (by have a0 := j65_4; unfold In at a0; have a1 := h1; unfold In at a1; have a2 := ro_109_20; unfold In at a2; have a3 := ro_109_19; unfold In at a3; have a4 := i75; unfold In at a4; have a5 := j65_3; unfold In at a5; have a6 := (in_c 1 rfl); unfold In at a6; have a7 := tx_i2l e154; have a8 := i153; unfold In at a8; have a9 := i74; unfold In at a9; have a10 := t_add e74 ro_109_19 (in_c 160 rfl) rfl; have a11 := (in_c 160 rfl); unfold In at a11; omega)), ← hFc65.1 114 rfl]; exact e109) (by rw [(ix_k (y := y65_5) e_109_19 (by have a0 := j65_4; unfold In at a0; have a1 := h1; unfold In at a1; have a2 := ro_109_20; unfold In at a2; have a3 := ro_109_19; unfold In at a3; have a4 := i75; unfold In at a4; have a5 := j65_3; unfold In at a5; have a6 := (in_c 1 rfl); unfold In at a6; have a7 := tx_i2l e154; have a8 := i153; unfold In at a8; have a9 := i74; unfold In at a9; have a10 := t_add e74 ro_109_19 (in_c 160 rfl) rfl; have a11 := (in_c 160 rfl); unfold In at a11; omega) (by have a0 := j65_4; unfold In at a0; have a1 := h1; unfold In at a1; have a2 := ro_109_20; unfold In at a2; have a3 := ro_109_19; unfold In at a3; have a4 := i75; unfold In at a4; have a5 := j65_3; unfold In at a5; have a6 := (in_c 1 rfl); unfold In at a6; have a7 := tx_i2l e154; have a8 := i153; unfold In at a8; have a9 := i74; unfold In at a9; have a10 := t_add e74 ro_109_19 (in_c 160 rfl) rfl; have a11 := (in_c 160 rfl); unfold In at a11; omega)), ← hFc65.1 115 rfl]; exact e153) (bt_yes e96x2 e96x4 i95 c96x6) (bt_yes e110x2 e110x4 i109 c110x6) e146 (by rw [e146, ← e127]; have h := i132a.2; omega) e155 (tx_i2l e154) (by rw [← e187]; exact c189a) (by simp [sI, sL]) (by have a0 := j65_4; unfold In at a0; have a1 := h1; unfold In at a1; have a2 := ro_109_20; unfold In at a2; have a3 := ro_109_19; unfold In at a3; have a4 := i75; unfold In at a4; have a5 := j65_3; unfold In at a5; have a6 := (in_c 1 rfl); unfold In at a6; have a7 := tx_i2l e154; have a8 := i153; unfold In at a8; have a9 := i74; unfold In at a9; have a10 := t_add e74 ro_109_19 (in_c 160 rfl) rfl; have a11 := (in_c 160 rfl); unfold In at a11; omega) (by have a0 := j65_4; unfold In at a0; have a1 := h1; unfold In at a1; have a2 := ro_109_20; unfold In at a2; have a3 := ro_109_19; unfold In at a3; have a4 := i75; unfold In at a4; have a5 := j65_3; unfold In at a5; have a6 := (in_c 1 rfl); unfold In at a6; have a7 := tx_i2l e154; have a8 := i153; unfold In at a8; have a9 := i74; unfold In at a9; have a10 := t_add e74 ro_109_19 (in_c 160 rfl) rfl; have a11 := (in_c 160 rfl); unfold In at a11; omega) (by have a0 := j65_4; unfold In at a0; have a1 := h1; unfold In at a1; have a2 := ro_109_20; unfold In at a2; have a3 := ro_109_19; unfold In at a3; have a4 := i75; unfold In at a4; have a5 := j65_3; unfold In at a5; have a6 := (in_c 1 rfl); unfold In at a6; have a7 := tx_i2l e154; have a8 := i153; unfold In at a8; have a9 := i74; unfold In at a9; have a10 := t_add e74 ro_109_19 (in_c 160 rfl) rfl; have a11 := (in_c 160 rfl); unfold In at a11; omega)
                          have n222c : ((Int32.ofInt 1)).toInt = 0 → TCL s (x2) (sI (sL sc65 130 z95.toNatClampNeg z155) 131 z95.toNatClampNeg z171) (((y65_5).toInt - u_109_19.toInt).toNat + 1) := by (intro hz; exfalso; have h0 : (Int32.ofInt 1).toInt = 1 := rfl; omega)
                          exact gg_w (by omega) (gg_f (gf_cons rfl (gf_cons rfl (gf_cons rfl (gf_cons rfl (gf_cons rfl (gf_cons rfl gf_nil)))))) (ct222 (sI (sL sc65 130 z95.toNatClampNeg z155) 131 z95.toNatClampNeg z171) (Int32.ofInt 1) hI219 (fr_sI rfl (fr_sL rfl hFc65)) (in_w 0 1 (in_c 1 rfl) rfl) (in_w 0 400 i75 rfl) n222 n222a n222b n222c))
      refine g_iload 46 (gd rfl) rfl rfl ?_
      refine g_aload_n 47 (gd rfl) rfl rfl ?_
      refine g_getI 50 (gd rfl) rfl rfl rfl (fun z47 e47 => ?_)
      have q47 : u_109_20 = z47 := (fr_F e_109_20 hFc44 rfl).trans e47.symm
      subst q47
      refine g_cmp_gt 53 234 (gd rfl) rfl rfl (fun c50 => ?_) (fun c50 => ?_)
      · skip
        have i50 := r_lt2 1 33 c50 ro_109_20 j44_4 rfl
        have n234 : (y44_3).toInt = 0 → TGI s (x1).toNatClampNeg (x2) 10000000000 sc44 ∧ TCL s (x2) sc44 160 := by exact fun hz => ⟨tgi_w g44_0 (by have a0 := h1; unfold In at a0; have a1 := ro_109_20; unfold In at a1; have a2 := ro_109_19; unfold In at a2; have a3 := i50; unfold In at a3; have a4 := j44_3; unfold In at a4; omega), g44_1 hz⟩
        exact gg_w (by omega) (gg_f (gf_cons rfl (gf_cons rfl (gf_cons rfl (gf_cons rfl (gf_cons rfl gf_nil))))) (ct234 sc44 y44_3 y44_4 hIc44 hFc44 (in_w 0 1 j44_3 rfl) (in_w 0 33 i50 rfl) n234))
      · skip
        have i50 := r_le1 0 32 c50 j44_4 ro_109_20 rfl
        refine g_iload_n 54 (gd rfl) rfl rfl ?_
        refine g_if_eq 57 234 (gd rfl) rfl rfl (fun c54 => ?_) (fun c54 => ?_)
        · skip
          have i54 := z_eq 0 0 c54 j44_3 rfl
          have n234 : (y44_3).toInt = 0 → TGI s (x1).toNatClampNeg (x2) 10000000000 sc44 ∧ TCL s (x2) sc44 160 := by exact fun hz => ⟨tgi_w g44_0 (by have a0 := h1; unfold In at a0; have a1 := ro_109_20; unfold In at a1; have a2 := ro_109_19; unfold In at a2; have a3 := i50; unfold In at a3; have a4 := i54; unfold In at a4; omega), g44_1 hz⟩
          exact gg_w (by omega) (gg_f (gf_cons rfl (gf_cons rfl (gf_cons rfl (gf_cons rfl (gf_cons rfl gf_nil))))) (ct234 sc44 y44_3 y44_4 hIc44 hFc44 (in_w 0 1 i54 rfl) (in_w 0 33 i50 rfl) n234))
        · skip
          have i54 := z_ne 1 1 c54 j44_3 rfl
          refine g_iconst 0 58 (gd rfl) rfl rfl ?_
          refine g_istore_n 59 (gd rfl) rfl (Nat.le_of_ble_eq_true rfl) ?_
          refine g_aload_n 60 (gd rfl) rfl rfl ?_
          refine g_getI 63 (gd rfl) rfl rfl rfl (fun z60 e60 => ?_)
          have q60 : u_109_19 = z60 := (fr_F e_109_19 hFc44 rfl).trans e60.symm
          subst q60
          refine g_istore 65 (gd rfl) rfl (Nat.le_of_ble_eq_true rfl) ?_
          have n65 : (u_109_19).toInt ≤ (u_109_19).toInt := by have a0 := h1; unfold In at a0; have a1 := ro_109_20; unfold In at a1; have a2 := ro_109_19; unfold In at a2; have a3 := i50; unfold In at a3; have a4 := i54; unfold In at a4; have a5 := (in_c 0 rfl); unfold In at a5; omega
          have n65a : (u_109_19).toInt ≤ (u_109_19).toInt + 160 := by have a0 := h1; unfold In at a0; have a1 := ro_109_20; unfold In at a1; have a2 := ro_109_19; unfold In at a2; have a3 := i50; unfold In at a3; have a4 := i54; unfold In at a4; have a5 := (in_c 0 rfl); unfold In at a5; omega
          have n65b : TGI s (x1).toNatClampNeg (x2) (160000000 * (y44_4).toInt + 1000000 * ((u_109_19).toInt - u_109_19.toInt)) sc44 := by exact tgi_w g44_0 (by have a0 := h1; unfold In at a0; have a1 := ro_109_20; unfold In at a1; have a2 := ro_109_19; unfold In at a2; have a3 := i50; unfold In at a3; have a4 := i54; unfold In at a4; have a5 := (in_c 0 rfl); unfold In at a5; omega)
          have n65c : ((Int32.ofInt 0)).toInt = 0 → TCL s (x2) sc44 ((u_109_19).toInt - u_109_19.toInt).toNat := by (intro _ a ha; exfalso; omega)
          exact gg_w (by omega) (gg_f (gf_cons rfl (gf_cons rfl (gf_cons rfl (gf_cons rfl (gf_cons rfl (gf_cons rfl gf_nil)))))) (ct65 480 sc44 (Int32.ofInt 0) u_109_19 hIc44 hFc44 (in_w 0 1 (in_c 0 rfl) rfl) (in_w 0 32 i50 rfl) (in_w 0 479 ro_109_19 rfl) n65 n65a n65b n65c (m_in 480 (in_w 0 479 ro_109_19 rfl) rfl)))
  have ct2 : ∀ (k2 : Nat) (sc2 : GS) (y2_3 : Int32), Inv sc2 → Fr fm_312 s sc2 → (In y2_3 0 32) → (∀ k : Nat, (k : Int) < (y2_3).toInt → (sc2.2.1 130 k).toInt = 9000000000000000) → 32 - (y2_3).toInt < (k2 : Int) → GG Z (d - 1) 312 post (gx xp) (29515691 + k2 * 900) 2 (fun j => xlook j [(0, .ref (A 109)), (1, .int x1), (2, .int x2), (3, .int y2_3)]) [] (WW Z A sc2 ++ ex) 0 0 := by
    intro k2
    induction k2 with
    | zero => intro sc2 y2_3 hIc2 hFc2 j2_3 g2_0 mm2; exact m_no mm2 j2_3 rfl
    | succ k2 ih2 =>
      intro sc2 y2_3 hIc2 hFc2 j2_3 g2_0 mm2
      refine gg_w (M := 29515691 + k2 * 900 + 900) (by omega) ?_
      refine g_iload_n 3 (gd rfl) rfl rfl ?_
      refine g_aload_n 4 (gd rfl) rfl rfl ?_
      refine g_getI 7 (gd rfl) rfl rfl rfl (fun z4 e4 => ?_)
      have q4 : u_109_20 = z4 := (fr_F e_109_20 hFc2 rfl).trans e4.symm
      subst q4
      refine g_cmp_ge 10 32 (gd rfl) rfl rfl (fun c7 => ?_) (fun c7 => ?_)
      · skip
        refine g_aload_n 33 (gd rfl) rfl rfl ?_
        refine g_getA (q2 := 130) 36 (gd rfl) rfl rfl rfl rfl ?_
        refine g_iload_n 37 (gd rfl) rfl rfl ?_
        refine g_lconst 0 38 (gd rfl) rfl rfl ?_
        refine g_lastore 39 (gd rfl) rfl (n := 32) rfl (in_ix h1 rfl) ?_
        have hI38 := inv_sL (q := 130) (j := x1.toNatClampNeg) (x := (Int64.ofInt 0)) hIc2 rfl (l_rng (Int64.ofInt 0))
        refine g_iconst 1 40 (gd rfl) rfl rfl ?_
        refine g_istore_n 41 (gd rfl) rfl (Nat.le_of_ble_eq_true rfl) ?_
        refine g_iconst 0 42 (gd rfl) rfl rfl ?_
        refine g_istore 44 (gd rfl) rfl (Nat.le_of_ble_eq_true rfl) ?_
        have n44 : TGI s (x1).toNatClampNeg (x2) (160000000 * ((Int32.ofInt 0)).toInt) (sL sc2 130 x1.toNatClampNeg (Int64.ofInt 0)) := by exact tgi_0 (by have h0 : (Int32.ofInt 0).toInt = 0 := rfl; omega) (by rw [show ((sL sc2 130 x1.toNatClampNeg (Int64.ofInt 0))).2.1 130 = vp_updL (sc2.2.1 130) x1.toNatClampNeg (Int64.ofInt 0) from (by simp [sL]), ul_eq]; rfl) (fun v hv hne => by rw [show ((sL sc2 130 x1.toNatClampNeg (Int64.ofInt 0))).2.1 130 = vp_updL (sc2.2.1 130) x1.toNatClampNeg (Int64.ofInt 0) from (by simp [sL]), ul_ne hne]; exact g2_0 v (by unfold nmx at hv; rw [← e_109_20] at hv; have a0 := h1; unfold In at a0; have a1 := ro_109_20; unfold In at a1; have a2 := ro_109_19; unfold In at a2; have a3 := j2_3; unfold In at a3; have a4 := (in_c 0 rfl); unfold In at a4; have a5 := (in_c 1 rfl); unfold In at a5; omega))
        have n44a : ((Int32.ofInt 1)).toInt = 0 → TCL s (x2) (sL sc2 130 x1.toNatClampNeg (Int64.ofInt 0)) 160 := by (intro hz; exfalso; have h0 : (Int32.ofInt 1).toInt = 1 := rfl; omega)
        exact gg_w (by omega) (gg_f (gf_cons rfl (gf_cons rfl (gf_cons rfl (gf_cons rfl (gf_cons rfl gf_nil))))) (ct44 34 (sL sc2 130 x1.toNatClampNeg (Int64.ofInt 0)) (Int32.ofInt 1) (Int32.ofInt 0) hI38 (fr_sL rfl hFc2) (in_w 0 1 (in_c 1 rfl) rfl) (in_w 0 33 (in_c 0 rfl) rfl) n44 n44a (m_in 34 (in_w 0 33 (in_c 0 rfl) rfl) rfl)))
      · skip
        have i7 := r_lt1 0 31 c7 j2_3 ro_109_20 rfl
        have i7a := r_lt2 1 32 c7 j2_3 ro_109_20 rfl
        refine g_aload_n 11 (gd rfl) rfl rfl ?_
        refine g_getA (q2 := 130) 14 (gd rfl) rfl rfl rfl rfl ?_
        refine g_iload_n 15 (gd rfl) rfl rfl ?_
        refine g_ldc2_w 9000000000000000 18 (gd rfl) rfl rfl ?_
        refine g_lastore 19 (gd rfl) rfl (n := 32) rfl (in_ix i7 rfl) ?_
        have hI18 := inv_sL (q := 130) (j := y2_3.toNatClampNeg) (x := (Int64.ofInt 9000000000000000)) hIc2 rfl (l_rng (Int64.ofInt 9000000000000000))
        refine g_aload_n 20 (gd rfl) rfl rfl ?_
        refine g_getA (q2 := 131) 23 (gd rfl) rfl rfl rfl rfl ?_
        refine g_iload_n 24 (gd rfl) rfl rfl ?_
        refine g_iconst 0 25 (gd rfl) rfl rfl ?_
        refine g_iastore 26 (gd rfl) rfl (n := 32) rfl (in_ix i7 rfl) ?_
        have hI25 := inv_sI (q := 131) (j := y2_3.toNatClampNeg) hI18 rfl (in_w (-2147483648) 2147483647 (in_c 0 rfl) rfl)
        refine g_iinc 29 (gd rfl) rfl rfl (Nat.le_of_ble_eq_true rfl) (fun z26 e26 => ?_)
        have i26 := in_add 1 32 e26 i7 (in_c 1 rfl) rfl rfl
        refine g_goto 2 (gd rfl) rfl ?_
        have n2 : ∀ k : Nat, (k : Int) < (z26).toInt → ((sI (sL sc2 130 y2_3.toNatClampNeg (Int64.ofInt 9000000000000000)) 131 y2_3.toNatClampNeg (Int32.ofInt 0)).2.1 130 k).toInt = 9000000000000000 := by (intro k hk; have e2 : y2_3.toNatClampNeg = y2_3.toInt.toNat := rfl; rw [show ((sI (sL sc2 130 y2_3.toNatClampNeg (Int64.ofInt 9000000000000000)) 131 y2_3.toNatClampNeg (Int32.ofInt 0))).2.1 130 = vp_updL (sc2.2.1 130) y2_3.toNatClampNeg (Int64.ofInt 9000000000000000) from (by simp [sI, sL])]; by_cases c : k = y2_3.toNatClampNeg; (rw [c, ul_eq]; exact (by have hl : InL (Int64.ofInt 9000000000000000) 9000000000000000 9000000000000000 := l_c 9000000000000000 rfl; exact Int.le_antisymm hl.2 hl.1)); (rw [ul_ne c]; exact g2_0 k (by have a0 := h1; unfold In at a0; have a1 := i7a; unfold In at a1; have a2 := ro_109_19; unfold In at a2; have a3 := i7; unfold In at a3; have a4 := i26; unfold In at a4; have a5 := t_add e26 i7 (in_c 1 rfl) rfl; have a6 := (in_c 1 rfl); unfold In at a6; omega)))
        exact gg_w (by omega) (gg_f (gf_cons rfl (gf_cons rfl (gf_cons rfl (gf_cons rfl gf_nil)))) (ih2 (sI (sL sc2 130 y2_3.toNatClampNeg (Int64.ofInt 9000000000000000)) 131 y2_3.toNatClampNeg (Int32.ofInt 0)) z26 hI25 (fr_sI rfl (fr_sL rfl hFc2)) (in_w 0 32 i26 rfl) n2 (m_up mm2 (t_add e26 i7 (in_c 1 rfl) rfl) (in_w 1 1 (in_c 1 rfl) rfl))))
  refine g_enter2 (k := 312) (N := 29546291) (by omega) rfl (Nat.le_of_ble_eq_true rfl) ?_
  refine g_iconst 0 1 (gd rfl) rfl rfl ?_
  refine g_istore_n 2 (gd rfl) rfl (Nat.le_of_ble_eq_true rfl) ?_
  have n2 : ∀ k : Nat, (k : Int) < ((Int32.ofInt 0)).toInt → (s.2.1 130 k).toInt = 9000000000000000 := by (intro k hk; exfalso; have h0 : (Int32.ofInt 0).toInt = 0 := rfl; omega)
  exact gg_w (by omega) (gg_f (gf_cons rfl (gf_cons rfl (gf_cons rfl (gf_cons rfl gf_nil)))) (ct2 33 s (Int32.ofInt 0) hI fr_rf (in_w 0 32 (in_c 0 rfl) rfl) n2 (m_in 33 (in_w 0 32 (in_c 0 rfl) rfl) rfl)))
