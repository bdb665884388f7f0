/-! methods, by vc.py -/
def fm_347 : FM := ([138, 139, 140, 141, 142, 143, 144, 145, 146], [], [(109, 0), (109, 53)], [])
/-- GraphHouseModel.colour -/
theorem k_347 {Z : AmZ} {A : Nat → Nat} {s : GS} {ex : va_W} {d : Nat} {X : AmX} {x1 : Int32} (hd : 7 ≤ d) (hI : Inv s)  : GC Z d 347 [.ref (A 109), .int x1] (WW Z A s ++ ex) 0 0 (fun v u => ∃ t : GS, Inv t ∧ Fr fm_347 s t ∧ ∃ z : Int32, v = some (.int z) ∧ u = WW Z A t ++ ex ∧ In z (-2147483648) 31) X := by
  intro post xp hP hX
  obtain ⟨u_109_20, e_109_20⟩ : ∃ w, w = s.2.2.1 109 20 := ⟨_, rfl⟩
  have ro_109_20 := inv_F hI 0 32 rfl e_109_20
  have ct61 : ∀ (k61 : Nat) (sc61 : GS) (y61_2 : Int32) (y61_3 : Int32), Inv sc61 → Fr fm_347 s sc61 → (In x1 0 31) → (In y61_2 0 32) → (In y61_3 0 32) → ((x1).toInt < (u_109_20).toInt) → (0 ≤ (x1).toInt) → ((y61_3).toInt ≤ (x1).toInt + 1) → (BSD sc61) → (NS sc61 (y61_3).toInt) → (EXT sc61 (y61_2).toInt (UU sc61)) → 40 - (y61_3).toInt < (k61 : Int) → GG Z (d - 1) 347 post (gx xp) (1 + k61 * 1395044) 61 (fun j => xlook j [(0, .ref (A 109)), (1, .int x1), (2, .int y61_2), (3, .int y61_3)]) [] (WW Z A sc61 ++ ex) 0 0 := by
    intro k61
    induction k61 with
    | zero => intro sc61 y61_2 y61_3 hIc61 hFc61 j61_1 j61_2 j61_3 n61_0 n61_1 n61_2 g61_0 g61_1 g61_2 mm61; exfalso; have a0 := j61_1; unfold In at a0; have a1 := ro_109_20; unfold In at a1; have a2 := j61_3; unfold In at a2; have a3 := j61_2; unfold In at a3; omega
    | succ k61 ih61 =>
      intro sc61 y61_2 y61_3 hIc61 hFc61 j61_1 j61_2 j61_3 n61_0 n61_1 n61_2 g61_0 g61_1 g61_2 mm61
      refine gg_w (M := 1 + k61 * 1395044 + 1395044) (by omega) ?_
      have ct72 : ∀ (k72 : Nat) (sc72 : GS) (y72_4 : Int32) (y72_5 : Int32), Inv sc72 → Fr fm_347 s sc72 → (In y61_3 0 31) → (In y72_4 (-1) 31) → (In y72_5 0 1) → ((x1).toInt < (u_109_20).toInt) → (0 ≤ (x1).toInt) → ((y61_3).toInt ≤ (x1).toInt) → (BSD sc72) → (E61 sc61 sc72 (y61_3).toNatClampNeg) → (F72 sc61 sc72 (y61_2).toInt (y61_3).toNatClampNeg (y72_4).toInt (y72_5).toInt) → 40 - (y72_4).toInt < (k72 : Int) → GG Z (d - 1) 347 post (gx xp) (1 + k61 * 1395044 + 1 + k72 * 32401) 72 (fun j => xlook j [(0, .ref (A 109)), (1, .int x1), (2, .int y61_2), (3, .int y61_3), (4, .int y72_4), (5, .int y72_5)]) [] (WW Z A sc72 ++ ex) 0 0 := by
        intro k72
        induction k72 with
        | zero => intro sc72 y72_4 y72_5 hIc72 hFc72 j72_3 j72_4 j72_5 n72_0 n72_1 n72_2 g72_0 g72_1 g72_2 mm72; exfalso; have a0 := j72_3; unfold In at a0; have a1 := j61_2; unfold In at a1; have a2 := j61_1; unfold In at a2; have a3 := ro_109_20; unfold In at a3; have a4 := j72_5; unfold In at a4; have a5 := j72_4; unfold In at a5; omega
        | succ k72 ih72 =>
          intro sc72 y72_4 y72_5 hIc72 hFc72 j72_3 j72_4 j72_5 n72_0 n72_1 n72_2 g72_0 g72_1 g72_2 mm72
          refine gg_w (M := 1 + k61 * 1395044 + 1 + k72 * 32401 + 32401) (by omega) ?_
          have ct90 : ∀ (k90 : Nat) (sc90 : GS) (y90_4 : Int32) (y90_6 : Int32), Inv sc90 → Fr fm_347 s sc90 → (In y90_4 0 31) → (In y72_5 0 0) → (In y90_6 0 32) → ((x1).toInt < (u_109_20).toInt) → (0 ≤ (x1).toInt) → ((y61_3).toInt ≤ (x1).toInt) → ((y72_5).toInt = 0) → ((y90_4).toInt = y72_4.toInt + 1) → ((y90_6).toInt ≤ (u_109_20).toInt) → (BSD sc90) → (S3 sc61 sc90) → (CEm sc90 (y90_6).toInt) → (G90 sc61 (y61_2).toInt (y61_3).toNatClampNeg (y90_4).toInt) → 32 - (y90_6).toInt < (k90 : Int) → GG Z (d - 1) 347 post (gx xp) (1 + k61 * 1395044 + 1 + k72 * 32401 + 1 + k90 * 900) 90 (fun j => xlook j [(0, .ref (A 109)), (1, .int x1), (2, .int y61_2), (3, .int y61_3), (4, .int y90_4), (5, .int y72_5), (6, .int y90_6)]) [] (WW Z A sc90 ++ ex) 0 0 := by
            intro k90
            induction k90 with
            | zero => intro sc90 y90_4 y90_6 hIc90 hFc90 j90_4 j90_5 j90_6 n90_0 n90_1 n90_2 n90_3 n90_4 n90_5 g90_0 g90_1 g90_2 g90_3 mm90; exact m_no mm90 j90_6 rfl
            | succ k90 ih90 =>
              intro sc90 y90_4 y90_6 hIc90 hFc90 j90_4 j90_5 j90_6 n90_0 n90_1 n90_2 n90_3 n90_4 n90_5 g90_0 g90_1 g90_2 g90_3 mm90
              refine gg_w (M := 1 + k61 * 1395044 + 1 + k72 * 32401 + 1 + k90 * 900 + 900) (by omega) ?_
              refine g_iload 92 (gd rfl) rfl rfl ?_
              refine g_aload_n 93 (gd rfl) rfl rfl ?_
              refine g_getI 96 (gd rfl) rfl rfl rfl (fun z93 e93 => ?_)
              have q93 : u_109_20 = z93 := (fr_F e_109_20 hFc90 rfl).trans e93.symm
              subst q93
              refine g_cmp_ge 99 119 (gd rfl) rfl rfl (fun c96 => ?_) (fun c96 => ?_)
              · skip
                have hC90 : CE sc90 := (by have h := g90_2; rw [show y90_6.toInt = (sc90.2.2.1 109 20).toInt from (by rw [hFc90.2.2.1 109 20 rfl, ← e_109_20]; have a0 := j90_5; unfold In at a0; have a1 := j72_3; unfold In at a1; have a2 := j61_2; unfold In at a2; have a3 := j61_1; unfold In at a3; have a4 := ro_109_20; unfold In at a4; have a5 := j90_6; unfold In at a5; have a6 := j90_4; unfold In at a6; omega)] at h; exact h)
                have i119 : In y61_3 0 31 := by exact ⟨by have a0 := j90_5; unfold In at a0; have a1 := j72_3; unfold In at a1; have a2 := j61_2; unfold In at a2; have a3 := j61_1; unfold In at a3; have a4 := ro_109_20; unfold In at a4; have a5 := j90_6; unfold In at a5; have a6 := j90_4; unfold In at a6; omega, by have a0 := j90_5; unfold In at a0; have a1 := j72_3; unfold In at a1; have a2 := j61_2; unfold In at a2; have a3 := j61_1; unfold In at a3; have a4 := ro_109_20; unfold In at a4; have a5 := j90_6; unfold In at a5; have a6 := j90_4; unfold In at a6; omega⟩
                refine g_aload_n 120 (gd rfl) rfl rfl ?_
                refine g_iload_n 121 (gd rfl) rfl rfl ?_
                refine g_callv (X := _) (As := [.int y61_3]) (r := []) (b := A 109) (q := 109) 124 (gd rfl) rfl rfl rfl rfl rfl (ww_o rfl) (Nat.le_of_ble_eq_true rfl) (Nat.zero_le _) (Nat.zero_le _) (k_339 (by omega) hIc90 (in_w 0 31 i119 rfl)) (fun e u h => h) (fun v u h => ?_)
                obtain ⟨z121, rfl, rfl, i121, p121⟩ := h
                show GG _ _ _ _ _ _ _ _ [.int z121] _ _ _
                refine g_iload 126 (gd rfl) rfl rfl ?_
                refine g_calls (As := [.int z121, .int y90_4]) (r := []) 129 (gd rfl) rfl rfl rfl rfl rfl (Nat.le_of_ble_eq_true rfl) (mc := 0) (ms := 0) (Nat.zero_le _) (Nat.zero_le _) (P := fun v u => _) ?_ (fun v u h => h)
                intro po126 xx126 hp126 hx126
                refine g_enter2 (k := 311) (N := 300) (by omega) rfl (Nat.le_of_ble_eq_true rfl) ?_
                refine g_iload_n 1 (gd rfl) rfl rfl ?_
                refine g_iload_n 2 (gd rfl) rfl rfl ?_
                refine g_ishr 3 (gd rfl) rfl (fun z126x2 e126x2 => ?_)
                refine g_iconst 1 4 (gd rfl) rfl rfl ?_
                refine g_iand 5 (gd rfl) rfl (fun z126x4 e126x4 => ?_)
                have i126x4 := in_and2 e126x4 (in_c 1 rfl) rfl
                refine g_iconst 1 6 (gd rfl) rfl rfl ?_
                refine g_cmp_ne 9 13 (gd rfl) rfl rfl (fun c126x6 => ?_) (fun c126x6 => ?_)
                · skip
                  have i126x6 := r_ne1 0 0 c126x6 i126x4 (in_c 1 rfl) rfl
                  refine g_iconst 0 14 (gd rfl) rfl rfl ?_
                  refine g_ireturn (gd rfl) rfl (nb01 (in_w 0 1 (in_c 0 rfl) rfl)) (hp126 _ _ ?_)
                  show GG _ _ _ _ _ _ _ _ [.int (Int32.ofInt 0)] _ _ _
                  refine g_if_ne 132 72 (gd rfl) rfl rfl (fun c129 => ?_) (fun c129 => ?_)
                  · skip
                    exact zn_ne c129 (in_c 0 rfl) rfl
                  · skip
                    refine g_aload_n 133 (gd rfl) rfl rfl ?_
                    refine g_getA (q2 := 141) 136 (gd rfl) rfl rfl rfl rfl ?_
                    refine g_iload_n 137 (gd rfl) rfl rfl ?_
                    refine g_iload 139 (gd rfl) rfl rfl ?_
                    refine g_iastore 140 (gd rfl) rfl (n := 32) rfl (in_ix i119 rfl) ?_
                    have hI139 := inv_sI (q := 141) (j := y61_3.toNatClampNeg) hIc90 rfl (in_w (-2147483648) 31 j90_4 rfl)
                    refine g_aload_n 141 (gd rfl) rfl rfl ?_
                    refine g_iload_n 142 (gd rfl) rfl rfl ?_
                    have p142 : BSD (sI sc90 141 y61_3.toNatClampNeg y90_4) := by exact bsd_I rfl g90_0
                    refine g_callv (X := _) (As := [.int y61_2]) (r := []) (b := A 109) (q := 109) 145 (gd rfl) rfl rfl rfl rfl rfl (ww_o rfl) (Nat.le_of_ble_eq_true rfl) (Nat.zero_le _) (Nat.zero_le _) (k_343 (by omega) hI139 (in_w 0 32 j61_2 rfl) p142) (fun e u h => h) (fun v u h => ?_)
                    obtain ⟨s142, hI142, hF142, z142, rfl, rfl, i142, p142a⟩ := h
                    show GG _ _ _ _ _ _ _ _ [.int z142] _ _ _
                    have hS142 : S3 (sI sc90 141 (y61_3).toNatClampNeg (y90_4)) s142 := ⟨hF142.1 138 rfl, hF142.1 141 rfl, hF142.2.2.1 109 20 rfl⟩
                    refine g_istore 147 (gd rfl) rfl (Nat.le_of_ble_eq_true rfl) ?_
                    refine g_goto 72 (gd rfl) rfl ?_
                    have n72 : (x1).toInt < (u_109_20).toInt := by have a0 := j90_5; unfold In at a0; have a1 := i119; unfold In at a1; have a2 := j61_2; unfold In at a2; have a3 := j61_1; unfold In at a3; have a4 := ro_109_20; unfold In at a4; have a5 := j90_6; unfold In at a5; have a6 := j90_4; unfold In at a6; have a7 := i142; unfold In at a7; omega
                    have n72a : 0 ≤ (x1).toInt := by have a0 := j90_5; unfold In at a0; have a1 := i119; unfold In at a1; have a2 := j61_2; unfold In at a2; have a3 := j61_1; unfold In at a3; have a4 := ro_109_20; unfold In at a4; have a5 := j90_6; unfold In at a5; have a6 := j90_4; unfold In at a6; have a7 := i142; unfold In at a7; omega
                    have n72b : (y61_3).toInt ≤ (x1).toInt := by have a0 := j90_5; unfold In at a0; have a1 := i119; unfold In at a1; have a2 := j61_2; unfold In at a2; have a3 := j61_1; unfold In at a3; have a4 := ro_109_20; unfold In at a4; have a5 := j90_6; unfold In at a5; have a6 := j90_4; unfold In at a6; have a7 := i142; unfold In at a7; omega
                    have n72c : BSD s142 := by exact bsd3 hS142 (bsd_I rfl g90_0)
                    have n72d : E61 sc61 s142 (y61_3).toNatClampNeg := by exact e61_c g90_1 hS142
                    have n72e : F72 sc61 s142 (y61_2).toInt (y61_3).toNatClampNeg (y90_4).toInt (z142).toInt := by exact f72_c g61_1 (by have a0 := j90_5; unfold In at a0; have a1 := i119; unfold In at a1; have a2 := j61_2; unfold In at a2; have a3 := j61_1; unfold In at a3; have a4 := ro_109_20; unfold In at a4; have a5 := j90_6; unfold In at a5; have a6 := j90_4; unfold In at a6; have a7 := i142; unfold In at a7; omega) (by rw [hFc61.2.2.1 109 20 rfl, ← e_109_20]; have a0 := j90_5; unfold In at a0; have a1 := i119; unfold In at a1; have a2 := j61_2; unfold In at a2; have a3 := j61_1; unfold In at a3; have a4 := ro_109_20; unfold In at a4; have a5 := j90_6; unfold In at a5; have a6 := j90_4; unfold In at a6; have a7 := i142; unfold In at a7; omega) g90_1 hS142 (by have a0 := j90_5; unfold In at a0; have a1 := i119; unfold In at a1; have a2 := j61_2; unfold In at a2; have a3 := j61_1; unfold In at a3; have a4 := ro_109_20; unfold In at a4; have a5 := j90_6; unfold In at a5; have a6 := j90_4; unfold In at a6; have a7 := i142; unfold In at a7; omega) g90_3 p142a
                    have m72 : 40 - (y90_4).toInt < ((k72 : Nat) : Int) := by have a0 := j90_5; unfold In at a0; have a1 := i119; unfold In at a1; have a2 := j61_2; unfold In at a2; have a3 := j61_1; unfold In at a3; have a4 := ro_109_20; unfold In at a4; have a5 := j90_6; unfold In at a5; have a6 := j90_4; unfold In at a6; have a7 := i142; unfold In at a7; omega
                    exact gg_w (by omega) (gg_f (gf_cons rfl (gf_cons rfl (gf_cons rfl (gf_cons rfl (gf_cons rfl (gf_cons rfl gf_nil)))))) (ih72  s142 y90_4 z142 hI142 (fr_tr rfl (fr_sI rfl hFc90) hF142) (in_w 0 31 i119 rfl) (in_w (-1) 31 j90_4 rfl) (in_w 0 1 i142 rfl) n72 n72a n72b n72c n72d n72e m72))
                · skip
                  have i126x6 := r_eq1 1 1 c126x6 i126x4 (in_c 1 rfl) rfl
                  refine g_iconst 1 10 (gd rfl) rfl rfl ?_
                  refine g_goto 14 (gd rfl) rfl ?_
                  refine g_ireturn (gd rfl) rfl (nb01 (in_w 0 1 (in_c 1 rfl) rfl)) (hp126 _ _ ?_)
                  show GG _ _ _ _ _ _ _ _ [.int (Int32.ofInt 1)] _ _ _
                  refine g_if_ne 132 72 (gd rfl) rfl rfl (fun c129 => ?_) (fun c129 => ?_)
                  · skip
                    have n72 : (x1).toInt < (u_109_20).toInt := by have a0 := j90_5; unfold In at a0; have a1 := i119; unfold In at a1; have a2 := j61_2; unfold In at a2; have a3 := j61_1; unfold In at a3; have a4 := ro_109_20; unfold In at a4; have a5 := j90_6; unfold In at a5; have a6 := j90_4; unfold In at a6; omega
                    have n72a : 0 ≤ (x1).toInt := by have a0 := j90_5; unfold In at a0; have a1 := i119; unfold In at a1; have a2 := j61_2; unfold In at a2; have a3 := j61_1; unfold In at a3; have a4 := ro_109_20; unfold In at a4; have a5 := j90_6; unfold In at a5; have a6 := j90_4; unfold In at a6; omega
                    have n72b : (y61_3).toInt ≤ (x1).toInt := by have a0 := j90_5; unfold In at a0; have a1 := i119; unfold In at a1; have a2 := j61_2; unfold In at a2; have a3 := j61_1; unfold In at a3; have a4 := ro_109_20; unfold In at a4; have a5 := j90_6; unfold In at a5; have a6 := j90_4; unfold In at a6; omega
                    have n72c : BSD sc90 := by exact g90_0
                    have n72d : E61 sc61 sc90 (y61_3).toNatClampNeg := by exact e61_3 g90_1
                    have n72e : F72 sc61 sc90 (y61_2).toInt (y61_3).toNatClampNeg (y90_4).toInt (y72_5).toInt := by exact f72_b g61_1 (by have a0 := j90_5; unfold In at a0; have a1 := i119; unfold In at a1; have a2 := j61_2; unfold In at a2; have a3 := j61_1; unfold In at a3; have a4 := ro_109_20; unfold In at a4; have a5 := j90_6; unfold In at a5; have a6 := j90_4; unfold In at a6; omega) (by rw [hFc61.2.2.1 109 20 rfl, ← e_109_20]; have a0 := j90_5; unfold In at a0; have a1 := i119; unfold In at a1; have a2 := j61_2; unfold In at a2; have a3 := j61_1; unfold In at a3; have a4 := ro_109_20; unfold In at a4; have a5 := j90_6; unfold In at a5; have a6 := j90_4; unfold In at a6; omega) g61_0 g90_1 hC90 p121 (bt_yes e126x2 e126x4 j90_4 c126x6) (by have a0 := j90_5; unfold In at a0; have a1 := i119; unfold In at a1; have a2 := j61_2; unfold In at a2; have a3 := j61_1; unfold In at a3; have a4 := ro_109_20; unfold In at a4; have a5 := j90_6; unfold In at a5; have a6 := j90_4; unfold In at a6; omega) g90_3 (by have a0 := j90_5; unfold In at a0; have a1 := i119; unfold In at a1; have a2 := j61_2; unfold In at a2; have a3 := j61_1; unfold In at a3; have a4 := ro_109_20; unfold In at a4; have a5 := j90_6; unfold In at a5; have a6 := j90_4; unfold In at a6; omega)
                    have m72 : 40 - (y90_4).toInt < ((k72 : Nat) : Int) := by have a0 := j90_5; unfold In at a0; have a1 := i119; unfold In at a1; have a2 := j61_2; unfold In at a2; have a3 := j61_1; unfold In at a3; have a4 := ro_109_20; unfold In at a4; have a5 := j90_6; unfold In at a5; have a6 := j90_4; unfold In at a6; omega
                    exact gg_w (by omega) (gg_f (gf_cons rfl (gf_cons rfl (gf_cons rfl (gf_cons rfl (gf_cons rfl (gf_cons rfl gf_nil)))))) (ih72  sc90 y90_4 y72_5 hIc90 hFc90 (in_w 0 31 i119 rfl) (in_w (-1) 31 j90_4 rfl) (in_w 0 1 j90_5 rfl) n72 n72a n72b n72c n72d n72e m72))
                  · skip
                    exact zn_eq c129 (in_c 1 rfl) rfl
              · skip
                have i96 := r_lt1 0 31 c96 j90_6 ro_109_20 rfl
                have i96a := r_lt2 1 32 c96 j90_6 ro_109_20 rfl
                refine g_aload_n 100 (gd rfl) rfl rfl ?_
                refine g_getA (q2 := 142) 103 (gd rfl) rfl rfl rfl rfl ?_
                refine g_iload 105 (gd rfl) rfl rfl ?_
                refine g_aload_n 106 (gd rfl) rfl rfl ?_
                refine g_getA (q2 := 141) 109 (gd rfl) rfl rfl rfl rfl ?_
                refine g_iload 111 (gd rfl) rfl rfl ?_
                refine g_iaload 112 (gd rfl) rfl (n := 32) rfl (in_ix i96 rfl) (fun z111 e111 => ?_)
                have i111 := inv_I hIc90 (n := 32) (t := 0) (-2147483648) 31 rfl (in_ix i96 rfl) rfl e111
                refine g_iastore 113 (gd rfl) rfl (n := 32) rfl (in_ix i96 rfl) ?_
                have hI112 := inv_sI (q := 142) (j := y90_6.toNatClampNeg) hIc90 rfl (in_w (-2147483648) 31 i111 rfl)
                refine g_iinc 116 (gd rfl) rfl rfl (Nat.le_of_ble_eq_true rfl) (fun z113 e113 => ?_)
                have i113 := in_add 1 32 e113 i96 (in_c 1 rfl) rfl rfl
                refine g_goto 90 (gd rfl) rfl ?_
                have n90 : (x1).toInt < (u_109_20).toInt := by have a0 := j90_5; unfold In at a0; have a1 := j72_3; unfold In at a1; have a2 := j61_2; unfold In at a2; have a3 := j61_1; unfold In at a3; have a4 := i96a; unfold In at a4; have a5 := i96; unfold In at a5; have a6 := j90_4; unfold In at a6; have a7 := i113; unfold In at a7; have a8 := t_add e113 i96 (in_c 1 rfl) rfl; have a9 := (in_c 1 rfl); unfold In at a9; omega
                have n90a : 0 ≤ (x1).toInt := by have a0 := j90_5; unfold In at a0; have a1 := j72_3; unfold In at a1; have a2 := j61_2; unfold In at a2; have a3 := j61_1; unfold In at a3; have a4 := i96a; unfold In at a4; have a5 := i96; unfold In at a5; have a6 := j90_4; unfold In at a6; have a7 := i113; unfold In at a7; have a8 := t_add e113 i96 (in_c 1 rfl) rfl; have a9 := (in_c 1 rfl); unfold In at a9; omega
                have n90b : (y61_3).toInt ≤ (x1).toInt := by have a0 := j90_5; unfold In at a0; have a1 := j72_3; unfold In at a1; have a2 := j61_2; unfold In at a2; have a3 := j61_1; unfold In at a3; have a4 := i96a; unfold In at a4; have a5 := i96; unfold In at a5; have a6 := j90_4; unfold In at a6; have a7 := i113; unfold In at a7; have a8 := t_add e113 i96 (in_c 1 rfl) rfl; have a9 := (in_c 1 rfl); unfold In at a9; omega
                have n90c : (y72_5).toInt = 0 := by have a0 := j90_5; unfold In at a0; have a1 := j72_3; unfold In at a1; have a2 := j61_2; unfold In at a2; have a3 := j61_1; unfold In at a3; have a4 := i96a; unfold In at a4; have a5 := i96; unfold In at a5; have a6 := j90_4; unfold In at a6; have a7 := i113; unfold In at a7; have a8 := t_add e113 i96 (in_c 1 rfl) rfl; have a9 := (in_c 1 rfl); unfold In at a9; omega
                have n90d : (y90_4).toInt = y72_4.toInt + 1 := by have a0 := j90_5; unfold In at a0; have a1 := j72_3; unfold In at a1; have a2 := j61_2; unfold In at a2; have a3 := j61_1; unfold In at a3; have a4 := i96a; unfold In at a4; have a5 := i96; unfold In at a5; have a6 := j90_4; unfold In at a6; have a7 := i113; unfold In at a7; have a8 := t_add e113 i96 (in_c 1 rfl) rfl; have a9 := (in_c 1 rfl); unfold In at a9; omega
                have n90e : (z113).toInt ≤ (u_109_20).toInt := by have a0 := j90_5; unfold In at a0; have a1 := j72_3; unfold In at a1; have a2 := j61_2; unfold In at a2; have a3 := j61_1; unfold In at a3; have a4 := i96a; unfold In at a4; have a5 := i96; unfold In at a5; have a6 := j90_4; unfold In at a6; have a7 := i113; unfold In at a7; have a8 := t_add e113 i96 (in_c 1 rfl) rfl; have a9 := (in_c 1 rfl); unfold In at a9; omega
                have n90f : BSD (sI sc90 142 y90_6.toNatClampNeg z111) := by exact bsd_I rfl g90_0
                have n90g : S3 sc61 (sI sc90 142 y90_6.toNatClampNeg z111) := by exact s3_I g90_1
                have n90h : CEm (sI sc90 142 y90_6.toNatClampNeg z111) (z113).toInt := by exact cem_s g90_2 e111 (by have a0 := j90_5; unfold In at a0; have a1 := j72_3; unfold In at a1; have a2 := j61_2; unfold In at a2; have a3 := j61_1; unfold In at a3; have a4 := i96a; unfold In at a4; have a5 := i96; unfold In at a5; have a6 := j90_4; unfold In at a6; have a7 := i113; unfold In at a7; have a8 := t_add e113 i96 (in_c 1 rfl) rfl; have a9 := (in_c 1 rfl); unfold In at a9; omega) (by have a0 := j90_5; unfold In at a0; have a1 := j72_3; unfold In at a1; have a2 := j61_2; unfold In at a2; have a3 := j61_1; unfold In at a3; have a4 := i96a; unfold In at a4; have a5 := i96; unfold In at a5; have a6 := j90_4; unfold In at a6; have a7 := i113; unfold In at a7; have a8 := t_add e113 i96 (in_c 1 rfl) rfl; have a9 := (in_c 1 rfl); unfold In at a9; omega)
                have n90i : G90 sc61 (y61_2).toInt (y61_3).toNatClampNeg (y90_4).toInt := by exact g90_3
                exact gg_w (by omega) (gg_f (gf_cons rfl (gf_cons rfl (gf_cons rfl (gf_cons rfl (gf_cons rfl (gf_cons rfl (gf_cons rfl gf_nil))))))) (ih90 (sI sc90 142 y90_6.toNatClampNeg z111) y90_4 z113 hI112 (fr_sI rfl hFc90) (in_w 0 31 j90_4 rfl) (in_w 0 0 j90_5 rfl) (in_w 0 32 i113 rfl) n90 n90a n90b n90c n90d n90e n90f n90g n90h n90i (m_up mm90 (t_add e113 i96 (in_c 1 rfl) rfl) (in_w 1 1 (in_c 1 rfl) rfl))))
          refine g_iload 74 (gd rfl) rfl rfl ?_
          refine g_if_ne 77 150 (gd rfl) rfl rfl (fun c74 => ?_) (fun c74 => ?_)
          · skip
            have i74 := z_ne 1 1 c74 j72_5 rfl
            refine g_iinc 153 (gd rfl) rfl rfl (Nat.le_of_ble_eq_true rfl) (fun z150 e150 => ?_)
            have i150 := in_add 1 32 e150 j72_3 (in_c 1 rfl) rfl rfl
            refine g_goto 61 (gd rfl) rfl ?_
            have n61 : (x1).toInt < (u_109_20).toInt := by have a0 := j72_3; unfold In at a0; have a1 := j61_2; unfold In at a1; have a2 := j61_1; unfold In at a2; have a3 := ro_109_20; unfold In at a3; have a4 := i74; unfold In at a4; have a5 := j72_4; unfold In at a5; have a6 := i150; unfold In at a6; have a7 := t_add e150 j72_3 (in_c 1 rfl) rfl; have a8 := (in_c 1 rfl); unfold In at a8; omega
            have n61a : 0 ≤ (x1).toInt := by have a0 := j72_3; unfold In at a0; have a1 := j61_2; unfold In at a1; have a2 := j61_1; unfold In at a2; have a3 := ro_109_20; unfold In at a3; have a4 := i74; unfold In at a4; have a5 := j72_4; unfold In at a5; have a6 := i150; unfold In at a6; have a7 := t_add e150 j72_3 (in_c 1 rfl) rfl; have a8 := (in_c 1 rfl); unfold In at a8; omega
            have n61b : (z150).toInt ≤ (x1).toInt + 1 := by have a0 := j72_3; unfold In at a0; have a1 := j61_2; unfold In at a1; have a2 := j61_1; unfold In at a2; have a3 := ro_109_20; unfold In at a3; have a4 := i74; unfold In at a4; have a5 := j72_4; unfold In at a5; have a6 := i150; unfold In at a6; have a7 := t_add e150 j72_3 (in_c 1 rfl) rfl; have a8 := (in_c 1 rfl); unfold In at a8; omega
            have n61c : BSD sc72 := by exact g72_0
            have n61d : NS sc72 (z150).toInt := by exact ns_61 g72_1 g61_1 (by have a0 := j72_3; unfold In at a0; have a1 := j61_2; unfold In at a1; have a2 := j61_1; unfold In at a2; have a3 := ro_109_20; unfold In at a3; have a4 := i74; unfold In at a4; have a5 := j72_4; unfold In at a5; have a6 := i150; unfold In at a6; have a7 := t_add e150 j72_3 (in_c 1 rfl) rfl; have a8 := (in_c 1 rfl); unfold In at a8; omega) (by have a0 := j72_3; unfold In at a0; have a1 := j61_2; unfold In at a1; have a2 := j61_1; unfold In at a2; have a3 := ro_109_20; unfold In at a3; have a4 := i74; unfold In at a4; have a5 := j72_4; unfold In at a5; have a6 := i150; unfold In at a6; have a7 := t_add e150 j72_3 (in_c 1 rfl) rfl; have a8 := (in_c 1 rfl); unfold In at a8; omega)
            have n61e : EXT sc72 (y61_2).toInt (UU sc72) := by exact g72_2.2 c74
            have m61 : 40 - (z150).toInt < ((k61 : Nat) : Int) := by have a0 := j72_3; unfold In at a0; have a1 := j61_2; unfold In at a1; have a2 := j61_1; unfold In at a2; have a3 := ro_109_20; unfold In at a3; have a4 := i74; unfold In at a4; have a5 := j72_4; unfold In at a5; have a6 := i150; unfold In at a6; have a7 := t_add e150 j72_3 (in_c 1 rfl) rfl; have a8 := (in_c 1 rfl); unfold In at a8; omega
            exact gg_w (by omega) (gg_f (gf_cons rfl (gf_cons rfl (gf_cons rfl (gf_cons rfl gf_nil)))) (ih61  sc72 y61_2 z150 hIc72 hFc72 (in_w 0 31 j61_1 rfl) (in_w 0 32 j61_2 rfl) (in_w 0 32 i150 rfl) n61 n61a n61b n61c n61d n61e m61))
          · skip
            have i74 := z_eq 0 0 c74 j72_5 rfl
            refine g_iinc 80 (gd rfl) rfl rfl (Nat.le_of_ble_eq_true rfl) (fun z77 e77 => ?_)
            have i77 := in_add 0 32 e77 j72_4 (in_c 1 rfl) rfl rfl
            have hG : G90 sc61 (y61_2).toInt (y61_3).toNatClampNeg (z77).toInt := (by have h := g72_2.1 c74; rw [show (y72_4).toInt + 1 = (z77).toInt from (by have a0 := j72_3; unfold In at a0; have a1 := j61_2; unfold In at a1; have a2 := j61_1; unfold In at a2; have a3 := ro_109_20; unfold In at a3; have a4 := i74; unfold In at a4; have a5 := j72_4; unfold In at a5; have a6 := i77; unfold In at a6; have a7 := t_add e77 j72_4 (in_c 1 rfl) rfl; have a8 := (in_c 1 rfl); unfold In at a8; omega)] at h; exact h)
            have hGk := g90_k g61_1 (by have a0 := j72_3; unfold In at a0; have a1 := j61_2; unfold In at a1; have a2 := j61_1; unfold In at a2; have a3 := ro_109_20; unfold In at a3; have a4 := i74; unfold In at a4; have a5 := j72_4; unfold In at a5; have a6 := i77; unfold In at a6; have a7 := t_add e77 j72_4 (in_c 1 rfl) rfl; have a8 := (in_c 1 rfl); unfold In at a8; omega) (by rw [hFc61.2.2.1 109 20 rfl, ← e_109_20]; have a0 := j72_3; unfold In at a0; have a1 := j61_2; unfold In at a1; have a2 := j61_1; unfold In at a2; have a3 := ro_109_20; unfold In at a3; have a4 := i74; unfold In at a4; have a5 := j72_4; unfold In at a5; have a6 := i77; unfold In at a6; have a7 := t_add e77 j72_4 (in_c 1 rfl) rfl; have a8 := (in_c 1 rfl); unfold In at a8; omega) hG
            have i80 : In z77 0 31 := by exact ⟨by have a0 := j72_3; unfold In at a0; have a1 := j61_2; unfold In at a1; have a2 := j61_1; unfold In at a2; have a3 := ro_109_20; unfold In at a3; have a4 := i74; unfold In at a4; have a5 := j72_4; unfold In at a5; have a6 := i77; unfold In at a6; have a7 := t_add e77 j72_4 (in_c 1 rfl) rfl; have a8 := (in_c 1 rfl); unfold In at a8; omega, by have a0 := j72_3; unfold In at a0; have a1 := j61_2; unfold In at a1; have a2 := j61_1; unfold In at a2; have a3 := ro_109_20; unfold In at a3; have a4 := i74; unfold In at a4; have a5 := j72_4; unfold In at a5; have a6 := i77; unfold In at a6; have a7 := t_add e77 j72_4 (in_c 1 rfl) rfl; have a8 := (in_c 1 rfl); unfold In at a8; omega⟩
            have i80a : In y61_3 0 31 := by exact ⟨by have a0 := j72_3; unfold In at a0; have a1 := j61_2; unfold In at a1; have a2 := j61_1; unfold In at a2; have a3 := ro_109_20; unfold In at a3; have a4 := i74; unfold In at a4; have a5 := j72_4; unfold In at a5; have a6 := i80; unfold In at a6; have a7 := t_add e77 j72_4 (in_c 1 rfl) rfl; have a8 := (in_c 1 rfl); unfold In at a8; omega, by have a0 := j72_3; unfold In at a0; have a1 := j61_2; unfold In at a1; have a2 := j61_1; unfold In at a2; have a3 := ro_109_20; unfold In at a3; have a4 := i74; unfold In at a4; have a5 := j72_4; unfold In at a5; have a6 := i80; unfold In at a6; have a7 := t_add e77 j72_4 (in_c 1 rfl) rfl; have a8 := (in_c 1 rfl); unfold In at a8; omega⟩
            refine g_aload_n 81 (gd rfl) rfl rfl ?_
            refine g_getA (q2 := 141) 84 (gd rfl) rfl rfl rfl rfl ?_
            refine g_iload_n 85 (gd rfl) rfl rfl ?_
            refine g_iconst (-1) 86 (gd rfl) rfl rfl ?_
            refine g_iastore 87 (gd rfl) rfl (n := 32) rfl (in_ix i80a rfl) ?_
            have hI86 := inv_sI (q := 141) (j := y61_3.toNatClampNeg) hIc72 rfl (in_w (-2147483648) 31 (in_c (-1) rfl) rfl)
            refine g_iconst 0 88 (gd rfl) rfl rfl ?_
            refine g_istore 90 (gd rfl) rfl (Nat.le_of_ble_eq_true rfl) ?_
            have n90 : (x1).toInt < (u_109_20).toInt := by have a0 := i80a; unfold In at a0; have a1 := j61_2; unfold In at a1; have a2 := j61_1; unfold In at a2; have a3 := ro_109_20; unfold In at a3; have a4 := i74; unfold In at a4; have a5 := j72_4; unfold In at a5; have a6 := (in_c 0 rfl); unfold In at a6; have a7 := i80; unfold In at a7; have a8 := t_add e77 j72_4 (in_c 1 rfl) rfl; have a9 := (in_c 1 rfl); unfold In at a9; omega
            have n90a : 0 ≤ (x1).toInt := by have a0 := i80a; unfold In at a0; have a1 := j61_2; unfold In at a1; have a2 := j61_1; unfold In at a2; have a3 := ro_109_20; unfold In at a3; have a4 := i74; unfold In at a4; have a5 := j72_4; unfold In at a5; have a6 := (in_c 0 rfl); unfold In at a6; have a7 := i80; unfold In at a7; have a8 := t_add e77 j72_4 (in_c 1 rfl) rfl; have a9 := (in_c 1 rfl); unfold In at a9; omega
            have n90b : (y61_3).toInt ≤ (x1).toInt := by have a0 := i80a; unfold In at a0; have a1 := j61_2; unfold In at a1; have a2 := j61_1; unfold In at a2; have a3 := ro_109_20; unfold In at a3; have a4 := i74; unfold In at a4; have a5 := j72_4; unfold In at a5; have a6 := (in_c 0 rfl); unfold In at a6; have a7 := i80; unfold In at a7; have a8 := t_add e77 j72_4 (in_c 1 rfl) rfl; have a9 := (in_c 1 rfl); unfold In at a9; omega
            have n90c : (y72_5).toInt = 0 := by have a0 := i80a; unfold In at a0; have a1 := j61_2; unfold In at a1; have a2 := j61_1; unfold In at a2; have a3 := ro_109_20; unfold In at a3; have a4 := i74; unfold In at a4; have a5 := j72_4; unfold In at a5; have a6 := (in_c 0 rfl); unfold In at a6; have a7 := i80; unfold In at a7; have a8 := t_add e77 j72_4 (in_c 1 rfl) rfl; have a9 := (in_c 1 rfl); unfold In at a9; omega
            have n90d : (z77).toInt = y72_4.toInt + 1 := by have a0 := i80a; unfold In at a0; have a1 := j61_2; unfold In at a1; have a2 := j61_1; unfold In at a2; have a3 := ro_109_20; unfold In at a3; have a4 := i74; unfold In at a4; have a5 := j72_4; unfold In at a5; have a6 := (in_c 0 rfl); unfold In at a6; have a7 := i80; unfold In at a7; have a8 := t_add e77 j72_4 (in_c 1 rfl) rfl; have a9 := (in_c 1 rfl); unfold In at a9; omega
            have n90e : ((Int32.ofInt 0)).toInt ≤ (u_109_20).toInt := by have a0 := i80a; unfold In at a0; have a1 := j61_2; unfold In at a1; have a2 := j61_1; unfold In at a2; have a3 := ro_109_20; unfold In at a3; have a4 := i74; unfold In at a4; have a5 := j72_4; unfold In at a5; have a6 := (in_c 0 rfl); unfold In at a6; have a7 := i80; unfold In at a7; have a8 := t_add e77 j72_4 (in_c 1 rfl) rfl; have a9 := (in_c 1 rfl); unfold In at a9; omega
            have n90f : BSD (sI sc72 141 y61_3.toNatClampNeg (Int32.ofInt (-1))) := by exact bsd_I rfl g72_0
            have n90g : S3 sc61 (sI sc72 141 y61_3.toNatClampNeg (Int32.ofInt (-1))) := by exact e61_b g72_1 (ns_u g61_1 (by have a0 := i80a; unfold In at a0; have a1 := j61_2; unfold In at a1; have a2 := j61_1; unfold In at a2; have a3 := ro_109_20; unfold In at a3; have a4 := i74; unfold In at a4; have a5 := j72_4; unfold In at a5; have a6 := (in_c 0 rfl); unfold In at a6; have a7 := i80; unfold In at a7; have a8 := t_add e77 j72_4 (in_c 1 rfl) rfl; have a9 := (in_c 1 rfl); unfold In at a9; omega) (by rw [hFc61.2.2.1 109 20 rfl, ← e_109_20]; have a0 := i80a; unfold In at a0; have a1 := j61_2; unfold In at a1; have a2 := j61_1; unfold In at a2; have a3 := ro_109_20; unfold In at a3; have a4 := i74; unfold In at a4; have a5 := j72_4; unfold In at a5; have a6 := (in_c 0 rfl); unfold In at a6; have a7 := i80; unfold In at a7; have a8 := t_add e77 j72_4 (in_c 1 rfl) rfl; have a9 := (in_c 1 rfl); unfold In at a9; omega))
            have n90h : CEm (sI sc72 141 y61_3.toNatClampNeg (Int32.ofInt (-1))) ((Int32.ofInt 0)).toInt := by exact cem_0
            have n90i : G90 sc61 (y61_2).toInt (y61_3).toNatClampNeg (z77).toInt := by exact hG
            exact gg_w (by omega) (gg_f (gf_cons rfl (gf_cons rfl (gf_cons rfl (gf_cons rfl (gf_cons rfl (gf_cons rfl (gf_cons rfl gf_nil))))))) (ct90 33 (sI sc72 141 y61_3.toNatClampNeg (Int32.ofInt (-1))) z77 (Int32.ofInt 0) hI86 (fr_sI rfl hFc72) (in_w 0 31 i80 rfl) (in_w 0 0 i74 rfl) (in_w 0 32 (in_c 0 rfl) rfl) n90 n90a n90b n90c n90d n90e n90f n90g n90h n90i (m_in 33 (in_w 0 32 (in_c 0 rfl) rfl) rfl)))
      refine g_iload_n 62 (gd rfl) rfl rfl ?_
      refine g_iload_n 63 (gd rfl) rfl rfl ?_
      refine g_cmp_gt 66 156 (gd rfl) rfl rfl (fun c63 => ?_) (fun c63 => ?_)
      · skip
        have i63 := r_lt2 1 32 c63 j61_1 j61_3 rfl
        have i156 : In x1 0 31 := by exact ⟨by have a0 := j61_1; unfold In at a0; have a1 := ro_109_20; unfold In at a1; have a2 := i63; unfold In at a2; have a3 := j61_2; unfold In at a3; omega, by have a0 := j61_1; unfold In at a0; have a1 := ro_109_20; unfold In at a1; have a2 := i63; unfold In at a2; have a3 := j61_2; unfold In at a3; omega⟩
        refine g_aload_n 157 (gd rfl) rfl rfl ?_
        refine g_getA (q2 := 141) 160 (gd rfl) rfl rfl rfl rfl ?_
        refine g_iload_n 161 (gd rfl) rfl rfl ?_
        refine g_iaload 162 (gd rfl) rfl (n := 32) rfl (in_ix i156 rfl) (fun z161 e161 => ?_)
        have i161 := inv_I hIc61 (n := 32) (t := 0) (-2147483648) 31 rfl (in_ix i156 rfl) rfl e161
        exact g_ireturn (gd rfl) rfl rfl (hP _ _ ⟨sc61, hIc61, hFc61, z161, rfl, rfl, in_w (-2147483648) 31 i161 rfl⟩)
      · skip
        have i63 := r_le1 0 31 c63 j61_3 j61_1 rfl
        refine g_iconst (-1) 67 (gd rfl) rfl rfl ?_
        refine g_istore 69 (gd rfl) rfl (Nat.le_of_ble_eq_true rfl) ?_
        refine g_iconst 0 70 (gd rfl) rfl rfl ?_
        refine g_istore 72 (gd rfl) rfl (Nat.le_of_ble_eq_true rfl) ?_
        have n72 : (x1).toInt < (u_109_20).toInt := by have a0 := j61_1; unfold In at a0; have a1 := ro_109_20; unfold In at a1; have a2 := i63; unfold In at a2; have a3 := j61_2; unfold In at a3; have a4 := (in_c 0 rfl); unfold In at a4; have a5 := (in_c (-1) rfl); unfold In at a5; omega
        have n72a : 0 ≤ (x1).toInt := by have a0 := j61_1; unfold In at a0; have a1 := ro_109_20; unfold In at a1; have a2 := i63; unfold In at a2; have a3 := j61_2; unfold In at a3; have a4 := (in_c 0 rfl); unfold In at a4; have a5 := (in_c (-1) rfl); unfold In at a5; omega
        have n72b : (y61_3).toInt ≤ (x1).toInt := by have a0 := j61_1; unfold In at a0; have a1 := ro_109_20; unfold In at a1; have a2 := i63; unfold In at a2; have a3 := j61_2; unfold In at a3; have a4 := (in_c 0 rfl); unfold In at a4; have a5 := (in_c (-1) rfl); unfold In at a5; omega
        have n72c : BSD sc61 := by exact g61_0
        have n72d : E61 sc61 sc61 (y61_3).toNatClampNeg := by exact e61_3 s3_rf
        have n72e : F72 sc61 sc61 (y61_2).toInt (y61_3).toNatClampNeg ((Int32.ofInt (-1))).toInt ((Int32.ofInt 0)).toInt := by exact f72_0 g61_1 (by have a0 := j61_1; unfold In at a0; have a1 := ro_109_20; unfold In at a1; have a2 := i63; unfold In at a2; have a3 := j61_2; unfold In at a3; have a4 := (in_c 0 rfl); unfold In at a4; have a5 := (in_c (-1) rfl); unfold In at a5; omega) (by rw [hFc61.2.2.1 109 20 rfl, ← e_109_20]; have a0 := j61_1; unfold In at a0; have a1 := ro_109_20; unfold In at a1; have a2 := i63; unfold In at a2; have a3 := j61_2; unfold In at a3; have a4 := (in_c 0 rfl); unfold In at a4; have a5 := (in_c (-1) rfl); unfold In at a5; omega) g61_2
        have m72 : 40 - ((Int32.ofInt (-1))).toInt < ((42 : Nat) : Int) := by have a0 := j61_1; unfold In at a0; have a1 := ro_109_20; unfold In at a1; have a2 := i63; unfold In at a2; have a3 := j61_2; unfold In at a3; have a4 := (in_c 0 rfl); unfold In at a4; have a5 := (in_c (-1) rfl); unfold In at a5; omega
        exact gg_w (by omega) (gg_f (gf_cons rfl (gf_cons rfl (gf_cons rfl (gf_cons rfl (gf_cons rfl (gf_cons rfl gf_nil)))))) (ct72 42 sc61 (Int32.ofInt (-1)) (Int32.ofInt 0) hIc61 hFc61 (in_w 0 31 i63 rfl) (in_w (-1) 31 (in_c (-1) rfl) rfl) (in_w 0 1 (in_c 0 rfl) rfl) n72 n72a n72b n72c n72d n72e m72))
  have ct45 : ∀ (k45 : Nat) (sc45 : GS) (y45_2 : Int32) (y45_3 : Int32), Inv sc45 → Fr fm_347 s sc45 → (In x1 0 31) → (In y45_2 0 32) → (In y45_3 0 32) → ((x1).toInt < (u_109_20).toInt) → (0 ≤ (x1).toInt) → (BSD sc45) → (NS sc45 0) → 32 - (y45_2).toInt < (k45 : Int) → GG Z (d - 1) 347 post (gx xp) (57196806 + k45 * 900) 45 (fun j => xlook j [(0, .ref (A 109)), (1, .int x1), (2, .int y45_2), (3, .int y45_3)]) [] (WW Z A sc45 ++ ex) 0 0 := by
    intro k45
    induction k45 with
    | zero => intro sc45 y45_2 y45_3 hIc45 hFc45 j45_1 j45_2 j45_3 n45_0 n45_1 g45_0 g45_1 mm45; exfalso; have a0 := j45_1; unfold In at a0; have a1 := ro_109_20; unfold In at a1; have a2 := j45_3; unfold In at a2; have a3 := j45_2; unfold In at a3; omega
    | succ k45 ih45 =>
      intro sc45 y45_2 y45_3 hIc45 hFc45 j45_1 j45_2 j45_3 n45_0 n45_1 g45_0 g45_1 mm45
      refine gg_w (M := 57196806 + k45 * 900 + 900) (by omega) ?_
      refine g_aload_n 46 (gd rfl) rfl rfl ?_
      refine g_iload_n 47 (gd rfl) rfl rfl ?_
      have p47 : BSD sc45 := by exact g45_0
      refine g_callv (X := _) (As := [.int y45_2]) (r := []) (b := A 109) (q := 109) 50 (gd rfl) rfl rfl rfl rfl rfl (ww_o rfl) (Nat.le_of_ble_eq_true rfl) (Nat.zero_le _) (Nat.zero_le _) (k_343 (by omega) hIc45 (in_w 0 32 j45_2 rfl) p47) (fun e u h => h) (fun v u h => ?_)
      obtain ⟨s47, hI47, hF47, z47, rfl, rfl, i47, p47a⟩ := h
      show GG _ _ _ _ _ _ _ _ [.int z47] _ _ _
      have hS47 : S3 sc45 s47 := ⟨hF47.1 138 rfl, hF47.1 141 rfl, hF47.2.2.1 109 20 rfl⟩
      refine g_if_ne 53 59 (gd rfl) rfl rfl (fun c50 => ?_) (fun c50 => ?_)
      · skip
        have i50 := z_ne 1 1 c50 i47 rfl
        refine g_iconst 0 60 (gd rfl) rfl rfl ?_
        refine g_istore_n 61 (gd rfl) rfl (Nat.le_of_ble_eq_true rfl) ?_
        have n61 : (x1).toInt < (u_109_20).toInt := by have a0 := j45_1; unfold In at a0; have a1 := ro_109_20; unfold In at a1; have a2 := j45_3; unfold In at a2; have a3 := j45_2; unfold In at a3; have a4 := (in_c 0 rfl); unfold In at a4; omega
        have n61a : 0 ≤ (x1).toInt := by have a0 := j45_1; unfold In at a0; have a1 := ro_109_20; unfold In at a1; have a2 := j45_3; unfold In at a2; have a3 := j45_2; unfold In at a3; have a4 := (in_c 0 rfl); unfold In at a4; omega
        have n61b : ((Int32.ofInt 0)).toInt ≤ (x1).toInt + 1 := by have a0 := j45_1; unfold In at a0; have a1 := ro_109_20; unfold In at a1; have a2 := j45_3; unfold In at a2; have a3 := j45_2; unfold In at a3; have a4 := (in_c 0 rfl); unfold In at a4; omega
        have n61c : BSD s47 := by exact bsd3 hS47 g45_0
        have n61d : NS s47 ((Int32.ofInt 0)).toInt := by rw [show (Int32.ofInt 0).toInt = 0 from (by decide)]; exact ns3 hS47 g45_1
        have n61e : EXT s47 (y45_2).toInt (UU s47) := by exact ext3 hS47 (p47a.2 c50)
        have m61 : 40 - ((Int32.ofInt 0)).toInt < ((41 : Nat) : Int) := by have a0 := j45_1; unfold In at a0; have a1 := ro_109_20; unfold In at a1; have a2 := j45_3; unfold In at a2; have a3 := j45_2; unfold In at a3; have a4 := (in_c 0 rfl); unfold In at a4; omega
        exact gg_w (by omega) (gg_f (gf_cons rfl (gf_cons rfl (gf_cons rfl (gf_cons rfl gf_nil)))) (ct61 41 s47 y45_2 (Int32.ofInt 0) hI47 (fr_tr rfl hFc45 hF47) (in_w 0 31 j45_1 rfl) (in_w 0 32 j45_2 rfl) (in_w 0 32 (in_c 0 rfl) rfl) n61 n61a n61b n61c n61d n61e m61))
      · skip
        have i50 := z_eq 0 0 c50 i47 rfl
        have hkn := clr_n g45_0 g45_1 p47a c50
        rw [hFc45.2.2.1 109 20 rfl, ← e_109_20] at hkn
        have hro := ro_109_20
        unfold In at hro
        refine g_iinc 56 (gd rfl) rfl rfl (Nat.le_of_ble_eq_true rfl) (fun z53 e53 => ?_)
        have i53 := in_add 1 33 e53 j45_2 (in_c 1 rfl) rfl rfl
        refine g_goto 45 (gd rfl) rfl ?_
        have i45 : In z53 0 32 := by exact ⟨by have a0 := j45_1; unfold In at a0; have a1 := ro_109_20; unfold In at a1; have a2 := j45_3; unfold In at a2; have a3 := j45_2; unfold In at a3; have a4 := i53; unfold In at a4; have a5 := t_add e53 j45_2 (in_c 1 rfl) rfl; have a6 := (in_c 1 rfl); unfold In at a6; omega, by have a0 := j45_1; unfold In at a0; have a1 := ro_109_20; unfold In at a1; have a2 := j45_3; unfold In at a2; have a3 := j45_2; unfold In at a3; have a4 := i53; unfold In at a4; have a5 := t_add e53 j45_2 (in_c 1 rfl) rfl; have a6 := (in_c 1 rfl); unfold In at a6; omega⟩
        have n45 : (x1).toInt < (u_109_20).toInt := by have a0 := j45_1; unfold In at a0; have a1 := ro_109_20; unfold In at a1; have a2 := j45_3; unfold In at a2; have a3 := j45_2; unfold In at a3; have a4 := i45; unfold In at a4; have a5 := t_add e53 j45_2 (in_c 1 rfl) rfl; have a6 := (in_c 1 rfl); unfold In at a6; omega
        have n45a : 0 ≤ (x1).toInt := by have a0 := j45_1; unfold In at a0; have a1 := ro_109_20; unfold In at a1; have a2 := j45_3; unfold In at a2; have a3 := j45_2; unfold In at a3; have a4 := i45; unfold In at a4; have a5 := t_add e53 j45_2 (in_c 1 rfl) rfl; have a6 := (in_c 1 rfl); unfold In at a6; omega
        have n45b : BSD s47 := by exact bsd3 hS47 g45_0
        have n45c : NS s47 0 := by exact ns3 hS47 g45_1
        have m45 : 32 - (z53).toInt < ((k45 : Nat) : Int) := by have a0 := j45_1; unfold In at a0; have a1 := ro_109_20; unfold In at a1; have a2 := j45_3; unfold In at a2; have a3 := j45_2; unfold In at a3; have a4 := i45; unfold In at a4; have a5 := t_add e53 j45_2 (in_c 1 rfl) rfl; have a6 := (in_c 1 rfl); unfold In at a6; omega
        exact gg_w (by omega) (gg_f (gf_cons rfl (gf_cons rfl (gf_cons rfl (gf_cons rfl gf_nil)))) (ih45  s47 z53 y45_3 hI47 (fr_tr rfl hFc45 hF47) (in_w 0 31 j45_1 rfl) i45 (in_w 0 32 j45_3 rfl) n45 n45a n45b n45c m45))
  have ct24 : ∀ (k24 : Nat) (sc24 : GS) (y24_2 : Int32) (y24_3 : Int32), Inv sc24 → Fr fm_347 s sc24 → (In x1 0 31) → (In y24_2 0 32) → (In y24_3 0 32) → ((x1).toInt < (u_109_20).toInt) → (0 ≤ (x1).toInt) → ((y24_3).toInt ≤ (u_109_20).toInt) → (BSD sc24) → (∀ u : Nat, (u : Int) < (y24_3).toInt → sc24.1 141 u = Int32.ofInt (-1)) → 32 - (y24_3).toInt < (k24 : Int) → GG Z (d - 1) 347 post (gx xp) (57227407 + k24 * 900) 24 (fun j => xlook j [(0, .ref (A 109)), (1, .int x1), (2, .int y24_2), (3, .int y24_3)]) [] (WW Z A sc24 ++ ex) 0 0 := by
    intro k24
    induction k24 with
    | zero => intro sc24 y24_2 y24_3 hIc24 hFc24 j24_1 j24_2 j24_3 n24_0 n24_1 n24_2 g24_0 g24_1 mm24; exact m_no mm24 j24_3 rfl
    | succ k24 ih24 =>
      intro sc24 y24_2 y24_3 hIc24 hFc24 j24_1 j24_2 j24_3 n24_0 n24_1 n24_2 g24_0 g24_1 mm24
      refine gg_w (M := 57227407 + k24 * 900 + 900) (by omega) ?_
      refine g_iload_n 25 (gd rfl) rfl rfl ?_
      refine g_aload_n 26 (gd rfl) rfl rfl ?_
      refine g_getI 29 (gd rfl) rfl rfl rfl (fun z26 e26 => ?_)
      have q26 : u_109_20 = z26 := (fr_F e_109_20 hFc24 rfl).trans e26.symm
      subst q26
      refine g_cmp_ge 32 45 (gd rfl) rfl rfl (fun c29 => ?_) (fun c29 => ?_)
      · skip
        have n45 : (x1).toInt < (u_109_20).toInt := by have a0 := j24_1; unfold In at a0; have a1 := ro_109_20; unfold In at a1; have a2 := j24_3; unfold In at a2; have a3 := j24_2; unfold In at a3; omega
        have n45a : 0 ≤ (x1).toInt := by have a0 := j24_1; unfold In at a0; have a1 := ro_109_20; unfold In at a1; have a2 := j24_3; unfold In at a2; have a3 := j24_2; unfold In at a3; omega
        have n45b : BSD sc24 := by exact g24_0
        have n45c : NS sc24 0 := by exact ns_0 (by have h := g24_1; rw [show y24_3.toInt = (sc24.2.2.1 109 20).toInt from (by rw [hFc24.2.2.1 109 20 rfl, ← e_109_20]; have a0 := j24_1; unfold In at a0; have a1 := ro_109_20; unfold In at a1; have a2 := j24_3; unfold In at a2; have a3 := j24_2; unfold In at a3; omega)] at h; exact h)
        have m45 : 32 - (y24_2).toInt < ((34 : Nat) : Int) := by have a0 := j24_1; unfold In at a0; have a1 := ro_109_20; unfold In at a1; have a2 := j24_3; unfold In at a2; have a3 := j24_2; unfold In at a3; omega
        exact gg_w (by omega) (gg_f (gf_cons rfl (gf_cons rfl (gf_cons rfl (gf_cons rfl gf_nil)))) (ct45 34 sc24 y24_2 y24_3 hIc24 hFc24 (in_w 0 31 j24_1 rfl) (in_w 0 32 j24_2 rfl) (in_w 0 32 j24_3 rfl) n45 n45a n45b n45c m45))
      · skip
        have i29 := r_lt1 0 31 c29 j24_3 ro_109_20 rfl
        have i29a := r_lt2 1 32 c29 j24_3 ro_109_20 rfl
        refine g_aload_n 33 (gd rfl) rfl rfl ?_
        refine g_getA (q2 := 141) 36 (gd rfl) rfl rfl rfl rfl ?_
        refine g_iload_n 37 (gd rfl) rfl rfl ?_
        refine g_iconst (-1) 38 (gd rfl) rfl rfl ?_
        refine g_iastore 39 (gd rfl) rfl (n := 32) rfl (in_ix i29 rfl) ?_
        have hI38 := inv_sI (q := 141) (j := y24_3.toNatClampNeg) hIc24 rfl (in_w (-2147483648) 31 (in_c (-1) rfl) rfl)
        refine g_iinc 42 (gd rfl) rfl rfl (Nat.le_of_ble_eq_true rfl) (fun z39 e39 => ?_)
        have i39 := in_add 1 32 e39 i29 (in_c 1 rfl) rfl rfl
        refine g_goto 24 (gd rfl) rfl ?_
        have n24 : (x1).toInt < (u_109_20).toInt := by have a0 := j24_1; unfold In at a0; have a1 := i29a; unfold In at a1; have a2 := i29; unfold In at a2; have a3 := j24_2; unfold In at a3; have a4 := i39; unfold In at a4; have a5 := t_add e39 i29 (in_c 1 rfl) rfl; have a6 := (in_c 1 rfl); unfold In at a6; omega
        have n24a : 0 ≤ (x1).toInt := by have a0 := j24_1; unfold In at a0; have a1 := i29a; unfold In at a1; have a2 := i29; unfold In at a2; have a3 := j24_2; unfold In at a3; have a4 := i39; unfold In at a4; have a5 := t_add e39 i29 (in_c 1 rfl) rfl; have a6 := (in_c 1 rfl); unfold In at a6; omega
        have n24b : (z39).toInt ≤ (u_109_20).toInt := by have a0 := j24_1; unfold In at a0; have a1 := i29a; unfold In at a1; have a2 := i29; unfold In at a2; have a3 := j24_2; unfold In at a3; have a4 := i39; unfold In at a4; have a5 := t_add e39 i29 (in_c 1 rfl) rfl; have a6 := (in_c 1 rfl); unfold In at a6; omega
        have n24c : BSD (sI sc24 141 y24_3.toNatClampNeg (Int32.ofInt (-1))) := by exact bsd_I rfl g24_0
        have n24d : ∀ u : Nat, (u : Int) < (z39).toInt → (sI sc24 141 y24_3.toNatClampNeg (Int32.ofInt (-1))).1 141 u = Int32.ofInt (-1) := by exact st_s g24_1 (by have a0 := j24_1; unfold In at a0; have a1 := i29a; unfold In at a1; have a2 := i29; unfold In at a2; have a3 := j24_2; unfold In at a3; have a4 := i39; unfold In at a4; have a5 := t_add e39 i29 (in_c 1 rfl) rfl; have a6 := (in_c 1 rfl); unfold In at a6; omega) (by have a0 := j24_1; unfold In at a0; have a1 := i29a; unfold In at a1; have a2 := i29; unfold In at a2; have a3 := j24_2; unfold In at a3; have a4 := i39; unfold In at a4; have a5 := t_add e39 i29 (in_c 1 rfl) rfl; have a6 := (in_c 1 rfl); unfold In at a6; omega)
        exact gg_w (by omega) (gg_f (gf_cons rfl (gf_cons rfl (gf_cons rfl (gf_cons rfl gf_nil)))) (ih24 (sI sc24 141 y24_3.toNatClampNeg (Int32.ofInt (-1))) y24_2 z39 hI38 (fr_sI rfl hFc24) (in_w 0 31 j24_1 rfl) (in_w 0 32 j24_2 rfl) (in_w 0 32 i39 rfl) n24 n24a n24b n24c n24d (m_up mm24 (t_add e39 i29 (in_c 1 rfl) rfl) (in_w 1 1 (in_c 1 rfl) rfl))))
  refine g_enter2 (k := 347) (N := 57258007) (by omega) rfl (Nat.le_of_ble_eq_true rfl) ?_
  refine g_aload_n 1 (gd rfl) rfl rfl ?_
  refine g_aload_n 2 (gd rfl) rfl rfl ?_
  refine g_iload_n 3 (gd rfl) rfl rfl ?_
  refine g_callv (X := _) (As := [.int x1]) (r := [.ref (A 109)]) (b := A 109) (q := 109) 6 (gd rfl) rfl rfl rfl rfl rfl (ww_o rfl) (Nat.le_of_ble_eq_true rfl) (mc := 0) (ms := 0) (Nat.zero_le _) (Nat.zero_le _) (P := fun v u => _) ?_ (fun e u h => h) (fun v u h => h)
  intro po3 xx3 hp3 hx3
  refine g_enter2 (k := 272) (N := 300) (by omega) rfl (Nat.le_of_ble_eq_true rfl) ?_
  refine g_iload_n 1 (gd rfl) rfl rfl ?_
  refine g_if_lt 4 16 (gd rfl) rfl rfl (fun c3x1 => ?_) (fun c3x1 => ?_)
  · skip
    have i3x1 := z_lt (-2147483648) (-1) c3x1 (i_rng x1) rfl
    refine g_iconst 0 17 (gd rfl) rfl rfl ?_
    refine g_ireturn (gd rfl) rfl (nb01 (in_w 0 1 (in_c 0 rfl) rfl)) (hp3 _ _ ?_)
    show GG _ _ _ _ _ _ _ _ [.int (Int32.ofInt 0), .ref (A 109)] _ _ _
    refine g_callv (X := _) (As := [.int (Int32.ofInt 0)]) (r := []) (b := A 109) (q := 109) 9 (gd rfl) rfl rfl rfl rfl rfl (ww_o rfl) (Nat.le_of_ble_eq_true rfl) (mc := 0) (ms := 0) (Nat.zero_le _) (Nat.zero_le _) (P := fun v u => _) ?_ (fun e u h => h) (fun v u h => h)
    intro po6 xx6 hp6 hx6
    refine g_enter2 (k := 271) (N := 300) (by omega) rfl (Nat.le_of_ble_eq_true rfl) ?_
    refine g_aload_n 1 (gd rfl) rfl rfl ?_
    refine g_iload_n 2 (gd rfl) rfl rfl ?_
    refine g_iconst 1 3 (gd rfl) rfl rfl ?_
    refine g_callv (X := _) (As := [.int (Int32.ofInt 0), .int (Int32.ofInt 1)]) (r := []) (b := A 109) (q := 109) 6 (gd rfl) rfl rfl rfl rfl rfl (ww_o rfl) (Nat.le_of_ble_eq_true rfl) (mc := 0) (ms := 0) (Nat.zero_le _) (Nat.zero_le _) (P := fun v u => _) ?_ (fun e u h => h) (fun v u h => h)
    intro po6x3 xx6x3 hp6x3 hx6x3
    refine g_enter2 (k := 270) (N := 300) (by omega) rfl (Nat.le_of_ble_eq_true rfl) ?_
    refine g_aload_n 1 (gd rfl) rfl rfl ?_
    refine g_iload_n 2 (gd rfl) rfl rfl ?_
    refine g_if_ne 5 9 (gd rfl) rfl rfl (fun c6x3x2 => ?_) (fun c6x3x2 => ?_)
    · skip
      exact zn_ne c6x3x2 (in_c 0 rfl) rfl
    · skip
      refine g_iconst 1 6 (gd rfl) rfl rfl ?_
      refine g_goto 18 (gd rfl) rfl ?_
      refine g_putI 21 (gd rfl) rfl rfl rfl rfl ?_
      have hI6x3x18 := inv_sF (q := 109) (j := 0) hI rfl (in_w 0 2 (in_c 1 rfl) rfl)
      refine g_aload_n 22 (gd rfl) rfl rfl ?_
      refine g_getI 25 (gd rfl) rfl rfl rfl (fun z6x3x22 e6x3x22 => ?_)
      have q6x3x22 : (Int32.ofInt 1) = z6x3x22 := (sF_get).trans e6x3x22.symm
      subst q6x3x22
      refine g_if_le 28 32 (gd rfl) rfl rfl (fun c6x3x25 => ?_) (fun c6x3x25 => ?_)
      · skip
        exact zn_le c6x3x25 (in_c 1 rfl) rfl
      · skip
        refine g_iconst 1 29 (gd rfl) rfl rfl ?_
        refine g_goto 33 (gd rfl) rfl ?_
        refine g_ireturn (gd rfl) rfl (nb01 (in_w 0 1 (in_c 1 rfl) rfl)) (hp6x3 _ _ ?_)
        show GG _ _ _ _ _ _ _ _ [.int (Int32.ofInt 1)] _ _ _
        refine g_ireturn (gd rfl) rfl (nb01 (in_w 0 1 (in_c 1 rfl) rfl)) (hp6 _ _ ?_)
        show GG _ _ _ _ _ _ _ _ [.int (Int32.ofInt 1)] _ _ _
        refine g_if_eq 12 14 (gd rfl) rfl rfl (fun c9 => ?_) (fun c9 => ?_)
        · skip
          exact zn_eq c9 (in_c 1 rfl) rfl
        · skip
          refine g_iconst 0 13 (gd rfl) rfl rfl ?_
          exact g_ireturn (gd rfl) rfl rfl (hP _ _ ⟨(sF s 109 0 (Int32.ofInt 1)), hI6x3x18, (fr_sF rfl fr_rf), (Int32.ofInt 0), rfl, rfl, in_w (-2147483648) 31 (in_c 0 rfl) rfl⟩)
  · skip
    have i3x1 := z_ge 0 2147483647 c3x1 (i_rng x1) rfl
    refine g_iload_n 5 (gd rfl) rfl rfl ?_
    refine g_aload_n 6 (gd rfl) rfl rfl ?_
    refine g_getI 9 (gd rfl) rfl rfl rfl (fun z3x6 e3x6 => ?_)
    have q3x6 : u_109_20 = z3x6 := (e_109_20).trans e3x6.symm
    subst q3x6
    refine g_cmp_ge 12 16 (gd rfl) rfl rfl (fun c3x9 => ?_) (fun c3x9 => ?_)
    · skip
      refine g_iconst 0 17 (gd rfl) rfl rfl ?_
      refine g_ireturn (gd rfl) rfl (nb01 (in_w 0 1 (in_c 0 rfl) rfl)) (hp3 _ _ ?_)
      show GG _ _ _ _ _ _ _ _ [.int (Int32.ofInt 0), .ref (A 109)] _ _ _
      refine g_callv (X := _) (As := [.int (Int32.ofInt 0)]) (r := []) (b := A 109) (q := 109) 9 (gd rfl) rfl rfl rfl rfl rfl (ww_o rfl) (Nat.le_of_ble_eq_true rfl) (mc := 0) (ms := 0) (Nat.zero_le _) (Nat.zero_le _) (P := fun v u => _) ?_ (fun e u h => h) (fun v u h => h)
      intro po6 xx6 hp6 hx6
      refine g_enter2 (k := 271) (N := 300) (by omega) rfl (Nat.le_of_ble_eq_true rfl) ?_
      refine g_aload_n 1 (gd rfl) rfl rfl ?_
      refine g_iload_n 2 (gd rfl) rfl rfl ?_
      refine g_iconst 1 3 (gd rfl) rfl rfl ?_
      refine g_callv (X := _) (As := [.int (Int32.ofInt 0), .int (Int32.ofInt 1)]) (r := []) (b := A 109) (q := 109) 6 (gd rfl) rfl rfl rfl rfl rfl (ww_o rfl) (Nat.le_of_ble_eq_true rfl) (mc := 0) (ms := 0) (Nat.zero_le _) (Nat.zero_le _) (P := fun v u => _) ?_ (fun e u h => h) (fun v u h => h)
      intro po6x3 xx6x3 hp6x3 hx6x3
      refine g_enter2 (k := 270) (N := 300) (by omega) rfl (Nat.le_of_ble_eq_true rfl) ?_
      refine g_aload_n 1 (gd rfl) rfl rfl ?_
      refine g_iload_n 2 (gd rfl) rfl rfl ?_
      refine g_if_ne 5 9 (gd rfl) rfl rfl (fun c6x3x2 => ?_) (fun c6x3x2 => ?_)
      · skip
        exact zn_ne c6x3x2 (in_c 0 rfl) rfl
      · skip
        refine g_iconst 1 6 (gd rfl) rfl rfl ?_
        refine g_goto 18 (gd rfl) rfl ?_
        refine g_putI 21 (gd rfl) rfl rfl rfl rfl ?_
        have hI6x3x18 := inv_sF (q := 109) (j := 0) hI rfl (in_w 0 2 (in_c 1 rfl) rfl)
        refine g_aload_n 22 (gd rfl) rfl rfl ?_
        refine g_getI 25 (gd rfl) rfl rfl rfl (fun z6x3x22 e6x3x22 => ?_)
        have q6x3x22 : (Int32.ofInt 1) = z6x3x22 := (sF_get).trans e6x3x22.symm
        subst q6x3x22
        refine g_if_le 28 32 (gd rfl) rfl rfl (fun c6x3x25 => ?_) (fun c6x3x25 => ?_)
        · skip
          exact zn_le c6x3x25 (in_c 1 rfl) rfl
        · skip
          refine g_iconst 1 29 (gd rfl) rfl rfl ?_
          refine g_goto 33 (gd rfl) rfl ?_
          refine g_ireturn (gd rfl) rfl (nb01 (in_w 0 1 (in_c 1 rfl) rfl)) (hp6x3 _ _ ?_)
          show GG _ _ _ _ _ _ _ _ [.int (Int32.ofInt 1)] _ _ _
          refine g_ireturn (gd rfl) rfl (nb01 (in_w 0 1 (in_c 1 rfl) rfl)) (hp6 _ _ ?_)
          show GG _ _ _ _ _ _ _ _ [.int (Int32.ofInt 1)] _ _ _
          refine g_if_eq 12 14 (gd rfl) rfl rfl (fun c9 => ?_) (fun c9 => ?_)
          · skip
            exact zn_eq c9 (in_c 1 rfl) rfl
          · skip
            refine g_iconst 0 13 (gd rfl) rfl rfl ?_
            exact g_ireturn (gd rfl) rfl rfl (hP _ _ ⟨(sF s 109 0 (Int32.ofInt 1)), hI6x3x18, (fr_sF rfl fr_rf), (Int32.ofInt 0), rfl, rfl, in_w (-2147483648) 31 (in_c 0 rfl) rfl⟩)
    · skip
      have i3x9 := r_lt1 0 31 c3x9 i3x1 ro_109_20 rfl
      have i3x9a := r_lt2 1 32 c3x9 i3x1 ro_109_20 rfl
      refine g_iconst 1 13 (gd rfl) rfl rfl ?_
      refine g_goto 17 (gd rfl) rfl ?_
      refine g_ireturn (gd rfl) rfl (nb01 (in_w 0 1 (in_c 1 rfl) rfl)) (hp3 _ _ ?_)
      show GG _ _ _ _ _ _ _ _ [.int (Int32.ofInt 1), .ref (A 109)] _ _ _
      refine g_callv (X := _) (As := [.int (Int32.ofInt 1)]) (r := []) (b := A 109) (q := 109) 9 (gd rfl) rfl rfl rfl rfl rfl (ww_o rfl) (Nat.le_of_ble_eq_true rfl) (mc := 0) (ms := 0) (Nat.zero_le _) (Nat.zero_le _) (P := fun v u => _) ?_ (fun e u h => h) (fun v u h => h)
      intro po6 xx6 hp6 hx6
      refine g_enter2 (k := 271) (N := 300) (by omega) rfl (Nat.le_of_ble_eq_true rfl) ?_
      refine g_aload_n 1 (gd rfl) rfl rfl ?_
      refine g_iload_n 2 (gd rfl) rfl rfl ?_
      refine g_iconst 1 3 (gd rfl) rfl rfl ?_
      refine g_callv (X := _) (As := [.int (Int32.ofInt 1), .int (Int32.ofInt 1)]) (r := []) (b := A 109) (q := 109) 6 (gd rfl) rfl rfl rfl rfl rfl (ww_o rfl) (Nat.le_of_ble_eq_true rfl) (mc := 0) (ms := 0) (Nat.zero_le _) (Nat.zero_le _) (P := fun v u => _) ?_ (fun e u h => h) (fun v u h => h)
      intro po6x3 xx6x3 hp6x3 hx6x3
      refine g_enter2 (k := 270) (N := 300) (by omega) rfl (Nat.le_of_ble_eq_true rfl) ?_
      refine g_aload_n 1 (gd rfl) rfl rfl ?_
      refine g_iload_n 2 (gd rfl) rfl rfl ?_
      refine g_if_ne 5 9 (gd rfl) rfl rfl (fun c6x3x2 => ?_) (fun c6x3x2 => ?_)
      · skip
        refine g_iload_n 10 (gd rfl) rfl rfl ?_
        refine g_if_ne 13 17 (gd rfl) rfl rfl (fun c6x3x10 => ?_) (fun c6x3x10 => ?_)
        · skip
          refine g_iconst 0 18 (gd rfl) rfl rfl ?_
          refine g_putI 21 (gd rfl) rfl rfl rfl rfl ?_
          have hI6x3x18 := inv_sF (q := 109) (j := 0) hI rfl (in_w 0 2 (in_c 0 rfl) rfl)
          refine g_aload_n 22 (gd rfl) rfl rfl ?_
          refine g_getI 25 (gd rfl) rfl rfl rfl (fun z6x3x22 e6x3x22 => ?_)
          have q6x3x22 : (Int32.ofInt 0) = z6x3x22 := (sF_get).trans e6x3x22.symm
          subst q6x3x22
          refine g_if_le 28 32 (gd rfl) rfl rfl (fun c6x3x25 => ?_) (fun c6x3x25 => ?_)
          · skip
            refine g_iconst 0 33 (gd rfl) rfl rfl ?_
            refine g_ireturn (gd rfl) rfl (nb01 (in_w 0 1 (in_c 0 rfl) rfl)) (hp6x3 _ _ ?_)
            show GG _ _ _ _ _ _ _ _ [.int (Int32.ofInt 0)] _ _ _
            refine g_ireturn (gd rfl) rfl (nb01 (in_w 0 1 (in_c 0 rfl) rfl)) (hp6 _ _ ?_)
            show GG _ _ _ _ _ _ _ _ [.int (Int32.ofInt 0)] _ _ _
            refine g_if_eq 12 14 (gd rfl) rfl rfl (fun c9 => ?_) (fun c9 => ?_)
            · skip
              refine g_aload_n 15 (gd rfl) rfl rfl ?_
              refine g_callv (X := _) (As := []) (r := []) (b := A 109) (q := 109) 18 (gd rfl) rfl rfl rfl rfl rfl (ww_o rfl) (Nat.le_of_ble_eq_true rfl) (Nat.zero_le _) (Nat.zero_le _) (k_337 (by omega) hI6x3x18 ) (fun e u h => h) (fun v u h => ?_)
              obtain ⟨s15, hI15, hF15, z15, rfl, rfl, i15, p15⟩ := h
              show GG _ _ _ _ _ _ _ _ [.int z15] _ _ _
              refine g_calls (As := [.int z15]) (r := []) 21 (gd rfl) rfl rfl rfl rfl rfl (Nat.le_of_ble_eq_true rfl) (Nat.zero_le _) (Nat.zero_le _) (k_336 (by omega) hI15 ) (fun v u h => ?_)
              obtain ⟨z18, rfl, rfl, i18, p18⟩ := h
              show GG _ _ _ _ _ _ _ _ [.int z18] _ _ _
              refine g_istore_n 22 (gd rfl) rfl (Nat.le_of_ble_eq_true rfl) ?_
              refine g_iconst 0 23 (gd rfl) rfl rfl ?_
              refine g_istore_n 24 (gd rfl) rfl (Nat.le_of_ble_eq_true rfl) ?_
              have n24 : (x1).toInt < (u_109_20).toInt := by have a0 := i3x9; unfold In at a0; have a1 := i3x9a; unfold In at a1; have a2 := (in_c 0 rfl); unfold In at a2; have a3 := i18; unfold In at a3; omega
              have n24a : 0 ≤ (x1).toInt := by have a0 := i3x9; unfold In at a0; have a1 := i3x9a; unfold In at a1; have a2 := (in_c 0 rfl); unfold In at a2; have a3 := i18; unfold In at a3; omega
              have n24b : ((Int32.ofInt 0)).toInt ≤ (u_109_20).toInt := by have a0 := i3x9; unfold In at a0; have a1 := i3x9a; unfold In at a1; have a2 := (in_c 0 rfl); unfold In at a2; have a3 := i18; unfold In at a3; omega
              have n24c : BSD s15 := by exact p15
              have n24d : ∀ u : Nat, (u : Int) < ((Int32.ofInt 0)).toInt → s15.1 141 u = Int32.ofInt (-1) := by exact st_0
              exact gg_w (by omega) (gg_f (gf_cons rfl (gf_cons rfl (gf_cons rfl (gf_cons rfl gf_nil)))) (ct24 33 s15 z18 (Int32.ofInt 0) hI15 (fr_tr rfl (fr_sF rfl fr_rf) hF15) (in_w 0 31 i3x9 rfl) (in_w 0 32 i18 rfl) (in_w 0 32 (in_c 0 rfl) rfl) n24 n24a n24b n24c n24d (m_in 33 (in_w 0 32 (in_c 0 rfl) rfl) rfl)))
            · skip
              exact zn_ne c9 (in_c 0 rfl) rfl
          · skip
            exact zn_gt c6x3x25 (in_c 0 rfl) rfl
        · skip
          exact zn_eq c6x3x10 (in_c 1 rfl) rfl
      · skip
        exact zn_eq c6x3x2 (in_c 1 rfl) rfl
